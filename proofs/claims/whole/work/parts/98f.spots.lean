/-! ===== gallery: spots, each once; a new name ===== -/
/-- one spot -/
def sp1 (K : KT) (a fl x lim : Nat) (Nm : Nat → Nat) (m : Nat) : Nat × Nat := if ndT K a fl Nm m = 0 then nO K a fl x ((plc Nm (kV K a) m).getD 0) lim else (a, ndT K a fl Nm m)
section T
variable {fu p d a fl : Nat} {K : KT} {w v : GV} {S : ST} {G : GP} {N : NM}
theorem okP_sp1 (hK : okK K) (h : okP K a fl) (x lim : Nat) (Nm : Nat → Nat) (m : Nat) : okP K (sp1 K a fl x lim Nm m).1 (sp1 K a fl x lim Nm m).2 := by
  unfold sp1
  split
  · exact okP_nO hK h _ _ _
  · exact okP_ndT hK h _ _
theorem sp1_0 {x lim m : Nat} {Nm : Nat → Nat} (h : (sp1 K a fl x lim Nm m).2 = 0) : fl = 0 ∧ kK K a = 1 ∧ ∃ k, k < m ∧ plc Nm (kV K a) m = some k ∧ bt x k = 0 ∧ pcn x < lim ∧ (sp1 K a fl x lim Nm m).1 = a + 1 := by
  unfold sp1 at h ⊢
  by_cases c : ndT K a fl Nm m = 0
  · obtain ⟨c1, c2, i, c3, c4, c5⟩ := ndT_0 c
    rw [if_pos c, c3] at h ⊢
    simp only [Option.getD_some] at h ⊢
    refine ⟨c1, c2, i, c4, rfl, ?_⟩
    unfold nO at h ⊢
    by_cases b : bt x i = 1
    · rw [if_pos b] at h; exact absurd h (flf_pos (by omega))
    · rw [if_neg b] at h ⊢
      by_cases l : lim ≤ pcn x
      · rw [if_pos l] at h; exact absurd h (flf_pos (by omega))
      · rw [if_neg l]
        have := bt_lt x i
        exact ⟨by omega, by omega, stp_in c1 (by omega)⟩
  · rw [if_neg c] at h; exact absurd h c
theorem sp1_le {x lim m : Nat} {Nm : Nat → Nat} : a ≤ (sp1 K a fl x lim Nm m).1 := by
  unfold sp1 nO stp
  repeat' split
  all_goals simp only <;> omega
theorem ndT_tn {Nm : Nat → Nat} {m : Nat} (h : ndT K a fl Nm m = 0) : tNm K a fl = true := by
  apply Classical.byContradiction
  intro c
  rw [ndT, if_neg c] at h
  exact flf_pos (by omega) h
theorem x2_takeSpot (hf : 1101 ≤ fu) (hK : okK K) (hw : CB w K) (gw : gC w = 8) (h : okP K a fl) (hG : okG G) (hS : S (p + 1) = tw w a fl) (h0 : gR (S (p + 6)) 0 = some (p + 1)) (g8 : gI (S d) 8 = nI (ns G)) (hN : ∀ i, i < ns G → gL (S d) 0 i = lN (N.1 i) ∧ N.1 i < 1099511627776) {x lim : Nat} (hx : x < 256) (hl : lim < 30) : ∃ z, f_X2_takeSpot fu S (p + 6) d (nI x) (nI lim) = some (z, st S (p + 1) (tw w (sp1 K a fl x lim N.1 (ns G)).1 (sp1 K a fl x lim N.1 (ns G)).2)) ∧ ((sp1 K a fl x lim N.1 (ns G)).2 = 0 → ∃ k, k < ns G ∧ plc N.1 (kV K a) (ns G) = some k ∧ z = nI (2 ^ k)) := by
  have g8' : gC (tw w a fl) = 8 := gw
  have sa := x1_spotAt (fu := fu) (t := d) (S := S) (N := N) hf hK hw h hG hS g8 hN
  have s8 := hG.1
  by_cases c : ndT K a fl N.1 (ns G) = 0
  · obtain ⟨c1, c2, k, c3, c4, c5⟩ := ndT_0 c
    have tn := ndT_tn c
    subst c1
    rw [if_pos tn, c3, c] at sa
    have ss : st S (p + 1) (tw w a 0) = S := by rw [← hS, st_self]
    rw [ss] at sa
    have nm1 : ¬ nI k = mI 1 := nI_nem (by omega) (by omega) (by omega)
    have sh : nI 1 <<< (nI k &&& nI 31) = nI (2 ^ k) := by rw [nI_and31 (by omega), nI_shl1 (by omega)]
    have on := x2_once (fu := fu) (x := x) (k := k) (lim := lim) hK hw gw h hS h0 (by omega) (by omega) hl
    refine ⟨nI (2 ^ k), ?_, fun _ => ⟨k, c4, c3, rfl⟩⟩
    unfold sp1
    rw [if_pos c, c3]
    simp only [Option.getD_some]
    simp only [f_X2_takeSpot, f_X2_takeSpot_0, ↓lm_1, ↓lm_2, ↓lm_3, ↓lm_4, ↓lm_5, ↓lm_6, ↓lm_7, ↓lm_8, ↓lm_9, ↓lm_10, ↓lm_11, li_0, li_1, li_2, li_3, li_4, li_5, li_6, li_7, li_8, li_9, li_10, li_11, li_12, li_13, li_14, li_15, li_16, li_17, li_18, li_19, li_20, li_21, li_22, li_23, li_24, li_25, li_26, li_27, li_28, li_29, li_30, li_31, li_32, li_33, li_34, li_35, li_36, li_37, li_38, li_39, li_40, li_41, li_42, li_43, li_44, li_45, li_46, li_47, li_48, li_49, li_50, li_51, li_52, li_53, li_54, li_55, li_56, li_57, li_58, li_59, li_60, li_61, li_62, li_63, li_64, li_65, li_66, li_96, li_97, li_99, li_100, li_122, li_125, li_126, li_140, li_255, li_256, li_999, li_1000, li_1001, li_1002, li_1100, li_1386, li_1452, li_1518, li_9999, li_1000000, h0, bd_s, hS, g8', decide_true, ck_t, sa, bd2_s, oI, nm1, ↓reduceIte, sh, on]
  · have on : (if tNm K a fl = true then plc N.1 (kV K a) (ns G) else none) = none := by
      by_cases tn : tNm K a fl = true
      · rw [if_pos tn]
        cases e : plc N.1 (kV K a) (ns G) with
        | none => rfl
        | some k =>
          exfalso
          apply c
          unfold ndT
          rw [if_pos tn, e]; exact (tNm_k tn).1
      · rw [if_neg tn]
    rw [on] at sa
    refine ⟨nI 0, ?_, fun q => ?_⟩
    · unfold sp1
      rw [if_neg c]
      simp only [f_X2_takeSpot, f_X2_takeSpot_0, ↓lm_1, ↓lm_2, ↓lm_3, ↓lm_4, ↓lm_5, ↓lm_6, ↓lm_7, ↓lm_8, ↓lm_9, ↓lm_10, ↓lm_11, li_0, li_1, li_2, li_3, li_4, li_5, li_6, li_7, li_8, li_9, li_10, li_11, li_12, li_13, li_14, li_15, li_16, li_17, li_18, li_19, li_20, li_21, li_22, li_23, li_24, li_25, li_26, li_27, li_28, li_29, li_30, li_31, li_32, li_33, li_34, li_35, li_36, li_37, li_38, li_39, li_40, li_41, li_42, li_43, li_44, li_45, li_46, li_47, li_48, li_49, li_50, li_51, li_52, li_53, li_54, li_55, li_56, li_57, li_58, li_59, li_60, li_61, li_62, li_63, li_64, li_65, li_66, li_96, li_97, li_99, li_100, li_122, li_125, li_126, li_140, li_255, li_256, li_999, li_1000, li_1001, li_1002, li_1100, li_1386, li_1452, li_1518, li_9999, li_1000000, h0, bd_s, hS, g8', decide_true, ck_t, sa, bd2_s, oI, ↓reduceIte]
    · unfold sp1 at q; rw [if_neg c] at q; exact absurd q c
/-- one spot by the model -/
theorem m_spot (hf : 1101 ≤ fu) (hK : okK K) (hv : MB v K) (h9 : WB9 v) (h : okP K a 0) (hG : okG G) {n : Nat} {cd ty : Nat → Nat} (hNT : NT v true n cd ty) (hNR : NR G N n cd ty) {x i lim : Nat} (hx : x < 256) (hi : pcn x = i) (hl : i ≤ lim) (hl2 : lim < 30) (k4 : Int32 → Int32 → GV → Option (Int32 × GV)) : ∃ z, f_X13_readSpots_22 fu k4 (mw v a 0) (nI lim) (nI x) (nI i) = k4 z (nI (i + 1)) (mw v (sp1 K a 0 x lim N.1 (ns G)).1 (sp1 K a 0 x lim N.1 (ns G)).2) ∧ ((sp1 K a 0 x lim N.1 (ns G)).2 = 0 → ∃ k, k < ns G ∧ plc N.1 (kV K a) (ns G) = some k ∧ z = nI (x ||| 2 ^ k)) := by
  have th := m_toldHere (fu := fu) (r := true) hf hK hv h9 h hNT (fr := 0) (by omega) (NR_spot hG hNR)
  rw [b01_t] at th
  have hN := hK.1
  have h1 := h.1
  have s8 := hG.1
  have n00 : nI 0 ≤ nI 0 := by decide
  have bad : ∀ f, f < 20000 → f ≠ 0 → ¬ nI f ≤ nI 0 := fun f f1 f2 => nI_ge (by omega) (by omega)
  by_cases c : ndT K a 0 N.1 (ns G) = 0
  · obtain ⟨_, c2, k, c3, c4, c5⟩ := ndT_0 c
    rw [if_pos c, c3, c] at th
    simp only [oI] at th
    have p2 := p2_lt (k := k) (n := 31) (by omega) (by omega)
    have sh : nI x ||| (nI 1 <<< (nI k &&& nI 31)) = nI (x ||| 2 ^ k) := by rw [nI_and31 (by omega), nI_shl1 (by omega), nI_orN (by omega) (by omega)]
    have bt' : (nI x >>> (nI k &&& nI 31)) &&& nI 1 = nI (bt x k) := by rw [nI_and31 (by omega), nI_bt (by omega) (by omega)]
    refine ⟨nI (x ||| 2 ^ k), ?_, fun _ => ⟨k, c4, c3, rfl⟩⟩
    have w3 := bad (flf K a 0 3) (okP_flf hK h (by omega)).2 (flf_pos (by omega))
    have w5 := bad (flf K a 0 5) (okP_flf hK h (by omega)).2 (flf_pos (by omega))
    unfold sp1
    rw [if_pos c, c3]
    simp only [Option.getD_some]
    unfold nO
    rcases bt_01 x k with b | b
    · rw [if_neg (by omega)]
      have b0 : ¬ nI 0 = nI 1 := by decide
      by_cases c4 : i = lim
      · subst c4
        rw [if_pos (by omega)]
        simp only [f_X13_readSpots_22, f_X13_readSpots_52, f_X13_readSpots_68, f_X13_readSpots_71, f_X13_readSpots_88, ↓lm_1, ↓lm_2, ↓lm_3, ↓lm_4, ↓lm_5, ↓lm_6, ↓lm_7, ↓lm_8, ↓lm_9, ↓lm_10, ↓lm_11, li_0, li_1, li_2, li_3, li_4, li_5, li_6, li_7, li_8, li_9, li_10, li_11, li_12, li_13, li_14, li_15, li_16, li_17, li_18, li_19, li_20, li_21, li_22, li_23, li_24, li_25, li_26, li_27, li_28, li_29, li_30, li_31, li_32, li_33, li_34, li_35, li_36, li_37, li_38, li_39, li_40, li_41, li_42, li_43, li_44, li_45, li_46, li_47, li_48, li_49, li_50, li_51, li_52, li_53, li_54, li_55, li_56, li_57, li_58, li_59, li_60, li_61, li_62, li_63, li_64, li_65, li_66, li_96, li_97, li_99, li_100, li_122, li_125, li_126, li_140, li_255, li_256, li_999, li_1000, li_1001, li_1002, li_1100, li_1386, li_1452, li_1518, li_9999, li_1000000, th, bd2_s, mw_g8, ↓reduceIte, bt', b, b0, mw_g7, mw_7, nm_eq, m_wrong hK hv h, bd_s, sh, nI_add, w5, Nat.add_zero]
      · have i4 : ¬ nI i = nI lim := by rw [nI_eq (by omega) (by omega)]; exact c4
        rw [if_neg (by omega), stp_in rfl (by omega)]
        simp only [f_X13_readSpots_22, f_X13_readSpots_71, f_X13_readSpots_88, ↓lm_1, ↓lm_2, ↓lm_3, ↓lm_4, ↓lm_5, ↓lm_6, ↓lm_7, ↓lm_8, ↓lm_9, ↓lm_10, ↓lm_11, li_0, li_1, li_2, li_3, li_4, li_5, li_6, li_7, li_8, li_9, li_10, li_11, li_12, li_13, li_14, li_15, li_16, li_17, li_18, li_19, li_20, li_21, li_22, li_23, li_24, li_25, li_26, li_27, li_28, li_29, li_30, li_31, li_32, li_33, li_34, li_35, li_36, li_37, li_38, li_39, li_40, li_41, li_42, li_43, li_44, li_45, li_46, li_47, li_48, li_49, li_50, li_51, li_52, li_53, li_54, li_55, li_56, li_57, li_58, li_59, li_60, li_61, li_62, li_63, li_64, li_65, li_66, li_96, li_97, li_99, li_100, li_122, li_125, li_126, li_140, li_255, li_256, li_999, li_1000, li_1001, li_1002, li_1100, li_1386, li_1452, li_1518, li_9999, li_1000000, th, bd2_s, mw_g8, mw_g7, ↓reduceIte, bt', b, b0, i4, nm_eq, sh, nI_add, n00, mw_7]
    · rw [if_pos b]
      simp only [f_X13_readSpots_22, f_X13_readSpots_52, f_X13_readSpots_68, f_X13_readSpots_71, f_X13_readSpots_88, ↓lm_1, ↓lm_2, ↓lm_3, ↓lm_4, ↓lm_5, ↓lm_6, ↓lm_7, ↓lm_8, ↓lm_9, ↓lm_10, ↓lm_11, li_0, li_1, li_2, li_3, li_4, li_5, li_6, li_7, li_8, li_9, li_10, li_11, li_12, li_13, li_14, li_15, li_16, li_17, li_18, li_19, li_20, li_21, li_22, li_23, li_24, li_25, li_26, li_27, li_28, li_29, li_30, li_31, li_32, li_33, li_34, li_35, li_36, li_37, li_38, li_39, li_40, li_41, li_42, li_43, li_44, li_45, li_46, li_47, li_48, li_49, li_50, li_51, li_52, li_53, li_54, li_55, li_56, li_57, li_58, li_59, li_60, li_61, li_62, li_63, li_64, li_65, li_66, li_96, li_97, li_99, li_100, li_122, li_125, li_126, li_140, li_255, li_256, li_999, li_1000, li_1001, li_1002, li_1100, li_1386, li_1452, li_1518, li_9999, li_1000000, th, bd2_s, mw_g8, ↓reduceIte, bt', b, mw_g7, mw_7, nm_eq, m_wrong hK hv h, bd_s, sh, nI_add, w3, Nat.add_zero]
  · rw [if_neg c] at th
    have ok := (okP_ndT hK h N.1 (ns G)).2
    have f0 : ¬ nI (ndT K a 0 N.1 (ns G)) = nI 0 := by rw [nI_eq (by omega) (by omega)]; exact c
    have f1 := bad _ ok c
    have e : sp1 K a 0 x lim N.1 (ns G) = (a, ndT K a 0 N.1 (ns G)) := by unfold sp1; rw [if_neg c]
    refine ⟨nI x ||| (nI 1 <<< (nI 0 &&& nI 31)), ?_, fun q => by rw [e] at q; exact absurd q c⟩
    rw [e]
    simp only [f_X13_readSpots_22, f_X13_readSpots_71, f_X13_readSpots_88, ↓lm_1, ↓lm_2, ↓lm_3, ↓lm_4, ↓lm_5, ↓lm_6, ↓lm_7, ↓lm_8, ↓lm_9, ↓lm_10, ↓lm_11, li_0, li_1, li_2, li_3, li_4, li_5, li_6, li_7, li_8, li_9, li_10, li_11, li_12, li_13, li_14, li_15, li_16, li_17, li_18, li_19, li_20, li_21, li_22, li_23, li_24, li_25, li_26, li_27, li_28, li_29, li_30, li_31, li_32, li_33, li_34, li_35, li_36, li_37, li_38, li_39, li_40, li_41, li_42, li_43, li_44, li_45, li_46, li_47, li_48, li_49, li_50, li_51, li_52, li_53, li_54, li_55, li_56, li_57, li_58, li_59, li_60, li_61, li_62, li_63, li_64, li_65, li_66, li_96, li_97, li_99, li_100, li_122, li_125, li_126, li_140, li_255, li_256, li_999, li_1000, li_1001, li_1002, li_1100, li_1386, li_1452, li_1518, li_9999, li_1000000, th, bd2_s, mw_g8, mw_g7, f0, f1, ↓reduceIte, nm_eq, nI_add, mw_7, Nat.add_zero]
theorem p2_8 {x k : Nat} (hx : x < 256) (hk : k < 8) : x ||| 2 ^ k < 256 := Nat.or_lt_two_pow (n := 8) hx (Nat.pow_lt_pow_right (by omega) hk)
theorem j_sl (hf : 1101 ≤ fu) (hK : okK K) (hw : CB w K) (gw : gC w = 8) (hv : MB v K) (h9 : WB9 v) (hG : okG G) {n : Nat} {cd ty : Nat → Nat} (hNT : NT v true n cd ty) (hNR : NR G N n cd ty) {lim : Nat} (hl : lim < 30) (hdp : d ≠ p + 1) : ∀ r i n1 n2 a fl x z z' (S : ST), i + r = lim + 1 → 1 ≤ i → r < n1 → r < n2 → okP K a fl → S (p + 1) = tw w a fl → gR (S (p + 6)) 0 = some (p + 1) → gI (S d) 8 = nI (ns G) → (∀ i, i < ns G → gL (S d) 0 i = lN (N.1 i) ∧ N.1 i < 1099511627776) → (fl = 0 → z = nI x ∧ z' = nI x ∧ x < 256 ∧ pcn x = i ∧ i ≤ lim) → ∃ a' fl' y y', f_X2_takeSpots_11 fu n1 (p + 6) d (nI lim) z (nI (i - 1)) S = some (y, st S (p + 1) (tw w a' fl')) ∧ f_X13_readSpots_4 fu n2 (nI lim) z' (nI i) (mw v a fl) = some (y', mw v a' fl') ∧ okP K a' fl' ∧ a ≤ a' ∧ (fl' = 0 → fl = 0 ∧ ∃ x', y = nI x' ∧ y' = nI x' ∧ x' < 256 ∧ 0 < x') := by
  intro r
  induction r with
  | zero =>
    intro i n1 n2 a fl x z z' S hir hi hn1 hn2 h hS h0 hg hs1 hx
    obtain ⟨n1, rfl⟩ : ∃ k, n1 = k + 1 := ⟨n1 - 1, by omega⟩
    obtain ⟨n2, rfl⟩ : ∃ k, n2 = k + 1 := ⟨n2 - 1, by omega⟩
    have c0 : fl ≠ 0 := fun q => by have := (hx q).2.2.2.2; omega
    have f0 : ¬ nI fl = nI 0 := by have := h.2; rw [nI_eq (by omega) (by omega)]; exact c0
    have n44 : nI lim ≤ nI (i - 1) := nI_le (by omega) (by omega)
    refine ⟨a, fl, z, z', ?_, ?_, h, Nat.le_refl _, fun q => absurd q c0⟩
    · rw [← hS, st_self]
      simp only [f_X2_takeSpots_11, lq3_s, f_X2_takeSpots_11s, f_X2_takeSpots_43, ↓lm_1, ↓lm_2, ↓lm_3, ↓lm_4, ↓lm_5, ↓lm_6, ↓lm_7, ↓lm_8, ↓lm_9, ↓lm_10, ↓lm_11, li_0, li_1, li_2, li_3, li_4, li_5, li_6, li_7, li_8, li_9, li_10, li_11, li_12, li_13, li_14, li_15, li_16, li_17, li_18, li_19, li_20, li_21, li_22, li_23, li_24, li_25, li_26, li_27, li_28, li_29, li_30, li_31, li_32, li_33, li_34, li_35, li_36, li_37, li_38, li_39, li_40, li_41, li_42, li_43, li_44, li_45, li_46, li_47, li_48, li_49, li_50, li_51, li_52, li_53, li_54, li_55, li_56, li_57, li_58, li_59, li_60, li_61, li_62, li_63, li_64, li_65, li_66, li_96, li_97, li_99, li_100, li_122, li_125, li_126, li_140, li_255, li_256, li_999, li_1000, li_1001, li_1002, li_1100, li_1386, li_1452, li_1518, li_9999, li_1000000, n44, ↓reduceIte]
    · simp only [f_X13_readSpots_4, lq3_s, f_X13_readSpots_4s, f_X13_readSpots_105, ↓lm_1, ↓lm_2, ↓lm_3, ↓lm_4, ↓lm_5, ↓lm_6, ↓lm_7, ↓lm_8, ↓lm_9, ↓lm_10, ↓lm_11, li_0, li_1, li_2, li_3, li_4, li_5, li_6, li_7, li_8, li_9, li_10, li_11, li_12, li_13, li_14, li_15, li_16, li_17, li_18, li_19, li_20, li_21, li_22, li_23, li_24, li_25, li_26, li_27, li_28, li_29, li_30, li_31, li_32, li_33, li_34, li_35, li_36, li_37, li_38, li_39, li_40, li_41, li_42, li_43, li_44, li_45, li_46, li_47, li_48, li_49, li_50, li_51, li_52, li_53, li_54, li_55, li_56, li_57, li_58, li_59, li_60, li_61, li_62, li_63, li_64, li_65, li_66, li_96, li_97, li_99, li_100, li_122, li_125, li_126, li_140, li_255, li_256, li_999, li_1000, li_1001, li_1002, li_1100, li_1386, li_1452, li_1518, li_9999, li_1000000, mw_g8, f0, ↓reduceIte]
  | succ r ih =>
    intro i n1 n2 a fl x z z' S hir hi hn1 hn2 h hS h0 hg hs1 hx
    obtain ⟨n1, rfl⟩ : ∃ k, n1 = k + 1 := ⟨n1 - 1, by omega⟩
    obtain ⟨n2, rfl⟩ : ∃ k, n2 = k + 1 := ⟨n2 - 1, by omega⟩
    have g8 : gC (tw w a fl) = 8 := gw
    have l4 : ¬ nI lim ≤ nI (i - 1) := nI_ge (by omega) (by omega)
    have iN := x8_isName (fu := fu) hK hw h
    have s8 := hG.1
    by_cases c0 : fl = 0
    · subst c0
      obtain ⟨rfl, rfl, x24, px, i4⟩ := hx rfl
      have mN := m_isName (fu := fu) hf hK hv h9 h
      have in0 : ¬ nI i = nI 0 := by rw [nI_eq (by omega) (by omega)]; omega
      cases q : tNm K a 0
      · rw [q] at iN mN
        refine ⟨a, 0, nI x, nI x, ?_, ?_, h, Nat.le_refl _, fun _ => ⟨rfl, x, rfl, rfl, x24, pcn_nz (by omega)⟩⟩
        · rw [← hS, st_self]
          simp only [f_X2_takeSpots_11, lq3_s, f_X2_takeSpots_11s, f_X2_takeSpots_43, ↓lm_1, ↓lm_2, ↓lm_3, ↓lm_4, ↓lm_5, ↓lm_6, ↓lm_7, ↓lm_8, ↓lm_9, ↓lm_10, ↓lm_11, li_0, li_1, li_2, li_3, li_4, li_5, li_6, li_7, li_8, li_9, li_10, li_11, li_12, li_13, li_14, li_15, li_16, li_17, li_18, li_19, li_20, li_21, li_22, li_23, li_24, li_25, li_26, li_27, li_28, li_29, li_30, li_31, li_32, li_33, li_34, li_35, li_36, li_37, li_38, li_39, li_40, li_41, li_42, li_43, li_44, li_45, li_46, li_47, li_48, li_49, li_50, li_51, li_52, li_53, li_54, li_55, li_56, li_57, li_58, li_59, li_60, li_61, li_62, li_63, li_64, li_65, li_66, li_96, li_97, li_99, li_100, li_122, li_125, li_126, li_140, li_255, li_256, li_999, li_1000, li_1001, li_1002, li_1100, li_1386, li_1452, li_1518, li_9999, li_1000000, l4, ↓reduceIte, h0, bd_s, hS, g8, decide_true, ck_t, iN, b01_f]
        · simp only [f_X13_readSpots_4, lq3_s, f_X13_readSpots_4s, f_X13_readSpots_105, ↓lm_1, ↓lm_2, ↓lm_3, ↓lm_4, ↓lm_5, ↓lm_6, ↓lm_7, ↓lm_8, ↓lm_9, ↓lm_10, ↓lm_11, li_0, li_1, li_2, li_3, li_4, li_5, li_6, li_7, li_8, li_9, li_10, li_11, li_12, li_13, li_14, li_15, li_16, li_17, li_18, li_19, li_20, li_21, li_22, li_23, li_24, li_25, li_26, li_27, li_28, li_29, li_30, li_31, li_32, li_33, li_34, li_35, li_36, li_37, li_38, li_39, li_40, li_41, li_42, li_43, li_44, li_45, li_46, li_47, li_48, li_49, li_50, li_51, li_52, li_53, li_54, li_55, li_56, li_57, li_58, li_59, li_60, li_61, li_62, li_63, li_64, li_65, li_66, li_96, li_97, li_99, li_100, li_122, li_125, li_126, li_140, li_255, li_256, li_999, li_1000, li_1001, li_1002, li_1100, li_1386, li_1452, li_1518, li_9999, li_1000000, mw_g8, ↓reduceIte, in0, mN, bd_s, b01_f]
      · rw [q] at iN mN
        obtain ⟨y, e1, e2⟩ := x2_takeSpot (fu := fu) (d := d) (N := N) (lim := lim) hf hK hw gw h hG hS h0 hg hs1 x24 hl
        obtain ⟨y', e3, e4⟩ := m_spot (fu := fu) hf hK hv h9 h hG hNT hNR x24 px i4 hl (f_X13_readSpots_4 fu n2 (nI lim))
        have ok := okP_sp1 hK h x lim N.1 (ns G)
        have le := sp1_le (K := K) (a := a) (fl := 0) (x := x) (lim := lim) (Nm := N.1) (m := ns G)
        have s6 : ∀ y : GV, st S (p + 1) y (p + 6) = S (p + 6) := fun y => st_ne _ _ (by omega)
        have sd : ∀ y : GV, st S (p + 1) y d = S d := fun y => st_ne _ _ hdp
        obtain ⟨a2, fl2, w1, w2, d1, d2, d3, d4, d5⟩ := ih (i + 1) n1 n2 (sp1 K a 0 x lim N.1 (ns G)).1 (sp1 K a 0 x lim N.1 (ns G)).2 (x ||| 2 ^ ((plc N.1 (kV K a) (ns G)).getD 0)) (nI x ||| y) y' (st S (p + 1) (tw w (sp1 K a 0 x lim N.1 (ns G)).1 (sp1 K a 0 x lim N.1 (ns G)).2)) (by omega) (by omega) (by omega) (by omega) ok (st_same _ _ _) (by rw [s6]; exact h0) (by rw [sd]; exact hg) (by rw [sd]; exact hs1) (fun q => by
          obtain ⟨_, _, k, k1, k2, b0, p4, _⟩ := sp1_0 q
          obtain ⟨k', k1', k2', z1⟩ := e2 q
          obtain ⟨k3, k13, k23, z2⟩ := e4 q
          rw [k2] at k2' k23
          cases k2'
          cases k23
          have p2 := p2_lt (k := k) (n := 31) (by omega) (by omega)
          rw [k2]
          simp only [Option.getD_some]
          refine ⟨by rw [z1, nI_orN (by omega) (by omega)], z2, p2_8 x24 (by omega), by rw [pcn_or1 b0 (by omega), px], by omega⟩)
        rw [st_st] at d1
        refine ⟨a2, fl2, w1, w2, ?_, ?_, d3, by omega, fun q => ⟨rfl, (d5 q).2⟩⟩
        · rw [← d1]
          have ii : nI (i - 1) + nI 1 = nI (i + 1 - 1) := by rw [nI_add]; congr 1; omega
          simp only [f_X2_takeSpots_11, lq3_s, f_X2_takeSpots_11s, ↓lm_1, ↓lm_2, ↓lm_3, ↓lm_4, ↓lm_5, ↓lm_6, ↓lm_7, ↓lm_8, ↓lm_9, ↓lm_10, ↓lm_11, li_0, li_1, li_2, li_3, li_4, li_5, li_6, li_7, li_8, li_9, li_10, li_11, li_12, li_13, li_14, li_15, li_16, li_17, li_18, li_19, li_20, li_21, li_22, li_23, li_24, li_25, li_26, li_27, li_28, li_29, li_30, li_31, li_32, li_33, li_34, li_35, li_36, li_37, li_38, li_39, li_40, li_41, li_42, li_43, li_44, li_45, li_46, li_47, li_48, li_49, li_50, li_51, li_52, li_53, li_54, li_55, li_56, li_57, li_58, li_59, li_60, li_61, li_62, li_63, li_64, li_65, li_66, li_96, li_97, li_99, li_100, li_122, li_125, li_126, li_140, li_255, li_256, li_999, li_1000, li_1001, li_1002, li_1100, li_1386, li_1452, li_1518, li_9999, li_1000000, l4, ↓reduceIte, h0, bd_s, hS, g8, decide_true, ck_t, iN, b01_t, n10, e1, bd2_s, nm_eq, ii]
        · rw [← d2, f_X13_readSpots_4, lq3_s]
          simp only [f_X13_readSpots_4s, ↓lm_1, ↓lm_2, ↓lm_3, ↓lm_4, ↓lm_5, ↓lm_6, ↓lm_7, ↓lm_8, ↓lm_9, ↓lm_10, ↓lm_11, li_0, li_1, li_2, li_3, li_4, li_5, li_6, li_7, li_8, li_9, li_10, li_11, li_12, li_13, li_14, li_15, li_16, li_17, li_18, li_19, li_20, li_21, li_22, li_23, li_24, li_25, li_26, li_27, li_28, li_29, li_30, li_31, li_32, li_33, li_34, li_35, li_36, li_37, li_38, li_39, li_40, li_41, li_42, li_43, li_44, li_45, li_46, li_47, li_48, li_49, li_50, li_51, li_52, li_53, li_54, li_55, li_56, li_57, li_58, li_59, li_60, li_61, li_62, li_63, li_64, li_65, li_66, li_96, li_97, li_99, li_100, li_122, li_125, li_126, li_140, li_255, li_256, li_999, li_1000, li_1001, li_1002, li_1100, li_1386, li_1452, li_1518, li_9999, li_1000000, mw_g8, ↓reduceIte, in0, mN, bd_s, b01_t, n10]
          exact e3
    · have f0 : ¬ nI fl = nI 0 := by have := h.2; rw [nI_eq (by omega) (by omega)]; exact c0
      have q : tNm K a fl = false := decide_eq_false (fun q => c0 q.1)
      rw [q] at iN
      refine ⟨a, fl, z, z', ?_, ?_, h, Nat.le_refl _, fun q => absurd q c0⟩
      · rw [← hS, st_self]
        simp only [f_X2_takeSpots_11, lq3_s, f_X2_takeSpots_11s, f_X2_takeSpots_43, ↓lm_1, ↓lm_2, ↓lm_3, ↓lm_4, ↓lm_5, ↓lm_6, ↓lm_7, ↓lm_8, ↓lm_9, ↓lm_10, ↓lm_11, li_0, li_1, li_2, li_3, li_4, li_5, li_6, li_7, li_8, li_9, li_10, li_11, li_12, li_13, li_14, li_15, li_16, li_17, li_18, li_19, li_20, li_21, li_22, li_23, li_24, li_25, li_26, li_27, li_28, li_29, li_30, li_31, li_32, li_33, li_34, li_35, li_36, li_37, li_38, li_39, li_40, li_41, li_42, li_43, li_44, li_45, li_46, li_47, li_48, li_49, li_50, li_51, li_52, li_53, li_54, li_55, li_56, li_57, li_58, li_59, li_60, li_61, li_62, li_63, li_64, li_65, li_66, li_96, li_97, li_99, li_100, li_122, li_125, li_126, li_140, li_255, li_256, li_999, li_1000, li_1001, li_1002, li_1100, li_1386, li_1452, li_1518, li_9999, li_1000000, l4, ↓reduceIte, h0, bd_s, hS, g8, decide_true, ck_t, iN, b01_f]
      · simp only [f_X13_readSpots_4, lq3_s, f_X13_readSpots_4s, f_X13_readSpots_105, ↓lm_1, ↓lm_2, ↓lm_3, ↓lm_4, ↓lm_5, ↓lm_6, ↓lm_7, ↓lm_8, ↓lm_9, ↓lm_10, ↓lm_11, li_0, li_1, li_2, li_3, li_4, li_5, li_6, li_7, li_8, li_9, li_10, li_11, li_12, li_13, li_14, li_15, li_16, li_17, li_18, li_19, li_20, li_21, li_22, li_23, li_24, li_25, li_26, li_27, li_28, li_29, li_30, li_31, li_32, li_33, li_34, li_35, li_36, li_37, li_38, li_39, li_40, li_41, li_42, li_43, li_44, li_45, li_46, li_47, li_48, li_49, li_50, li_51, li_52, li_53, li_54, li_55, li_56, li_57, li_58, li_59, li_60, li_61, li_62, li_63, li_64, li_65, li_66, li_96, li_97, li_99, li_100, li_122, li_125, li_126, li_140, li_255, li_256, li_999, li_1000, li_1001, li_1002, li_1100, li_1386, li_1452, li_1518, li_9999, li_1000000, mw_g8, f0, ↓reduceIte]
theorem j_spots (hf : 1101 ≤ fu) (hK : okK K) (hw : CB w K) (gw : gC w = 8) (hv : MB v K) (h9 : WB9 v) (hG : okG G) {n : Nat} {cd ty : Nat → Nat} (hNT : NT v true n cd ty) (hNR : NR G N n cd ty) {lim : Nat} (hl1 : 1 ≤ lim) (hl : lim < 30) (hdp : d ≠ p + 1) (h : okP K a fl) (hS : S (p + 1) = tw w a fl) (h0 : gR (S (p + 6)) 0 = some (p + 1)) (hg : gI (S d) 8 = nI (ns G)) (hs1 : ∀ i, i < ns G → gL (S d) 0 i = lN (N.1 i) ∧ N.1 i < 1099511627776) : ∃ a' fl' y y', f_X2_takeSpots fu S (p + 6) d (nI lim) = some (y, st S (p + 1) (tw w a' fl')) ∧ f_X13_readSpots fu (mw v a fl) (nI lim) = some (y', mw v a' fl') ∧ okP K a' fl' ∧ a ≤ a' ∧ (fl' = 0 → fl = 0 ∧ ∃ x', y = nI x' ∧ y' = nI x' ∧ x' < 256 ∧ 0 < x') := by
  obtain ⟨y, e1, e2⟩ := x2_takeSpot (fu := fu) (d := d) (N := N) (x := 0) (lim := lim) hf hK hw gw h hG hS h0 hg hs1 (by omega) hl
  have ok := okP_sp1 hK h 0 lim N.1 (ns G)
  have le := sp1_le (K := K) (a := a) (fl := fl) (x := 0) (lim := lim) (Nm := N.1) (m := ns G)
  have s6 : ∀ y : GV, st S (p + 1) y (p + 6) = S (p + 6) := fun y => st_ne _ _ (by omega)
  have sd : ∀ y : GV, st S (p + 1) y d = S d := fun y => st_ne _ _ hdp
  have p0 : pcn 0 = 0 := by decide
  have s8 := hG.1
  obtain ⟨fv, rfl⟩ : ∃ k, fu = k + 1 := ⟨fu - 1, by omega⟩
  by_cases c0 : fl = 0
  · subst c0
    obtain ⟨y', e3, e4⟩ := m_spot (fu := fv + 1) (x := 0) (i := 0) (lim := lim) hf hK hv h9 h hG hNT hNR (by omega) p0 (by omega) hl (f_X13_readSpots_4 (fv + 1) fv (nI lim))
    obtain ⟨a2, fl2, w1, w2, d1, d2, d3, d4, d5⟩ := j_sl (fu := fv + 1) (p := p) (d := d) (v := v) hf hK hw gw hv h9 hG hNT hNR hl hdp lim 1 (fv + 1) fv (sp1 K a 0 0 lim N.1 (ns G)).1 (sp1 K a 0 0 lim N.1 (ns G)).2 (2 ^ ((plc N.1 (kV K a) (ns G)).getD 0)) y y' (st S (p + 1) (tw w (sp1 K a 0 0 lim N.1 (ns G)).1 (sp1 K a 0 0 lim N.1 (ns G)).2)) (by omega) (by omega) (by omega) (by omega) ok (st_same _ _ _) (by rw [s6]; exact h0) (by rw [sd]; exact hg) (by rw [sd]; exact hs1) (fun q => by
      obtain ⟨_, _, k, k1, k2, b0, p4, _⟩ := sp1_0 q
      obtain ⟨k', k1', k2', z1⟩ := e2 q
      obtain ⟨k3, k13, k23, z2⟩ := e4 q
      rw [k2] at k2' k23
      cases k2'
      cases k23
      have po := pcn_or1 b0 (by omega)
      have p28 := p2_8 (x := 0) (k := k) (by omega) (by omega)
      rw [Nat.zero_or] at po z2 p28
      rw [k2]
      simp only [Option.getD_some]
      exact ⟨z1, z2, p28, by rw [po, p0], by omega⟩)
    rw [st_st] at d1
    refine ⟨a2, fl2, w1, w2, ?_, ?_, d3, by omega, fun q => ⟨rfl, (d5 q).2⟩⟩
    · rw [← d1]
      simp only [f_X2_takeSpots, f_X2_takeSpots_0, ↓lm_1, ↓lm_2, ↓lm_3, ↓lm_4, ↓lm_5, ↓lm_6, ↓lm_7, ↓lm_8, ↓lm_9, ↓lm_10, ↓lm_11, li_0, li_1, li_2, li_3, li_4, li_5, li_6, li_7, li_8, li_9, li_10, li_11, li_12, li_13, li_14, li_15, li_16, li_17, li_18, li_19, li_20, li_21, li_22, li_23, li_24, li_25, li_26, li_27, li_28, li_29, li_30, li_31, li_32, li_33, li_34, li_35, li_36, li_37, li_38, li_39, li_40, li_41, li_42, li_43, li_44, li_45, li_46, li_47, li_48, li_49, li_50, li_51, li_52, li_53, li_54, li_55, li_56, li_57, li_58, li_59, li_60, li_61, li_62, li_63, li_64, li_65, li_66, li_96, li_97, li_99, li_100, li_122, li_125, li_126, li_140, li_255, li_256, li_999, li_1000, li_1001, li_1002, li_1100, li_1386, li_1452, li_1518, li_9999, li_1000000, e1, bd2_s, Nat.reduceSub]
    · rw [← d2]
      rw [← e3]
      simp only [f_X13_readSpots, f_X13_readSpots_0, f_X13_readSpots_4, lq3_s, f_X13_readSpots_4s, ↓lm_1, ↓lm_2, ↓lm_3, ↓lm_4, ↓lm_5, ↓lm_6, ↓lm_7, ↓lm_8, ↓lm_9, ↓lm_10, ↓lm_11, li_0, li_1, li_2, li_3, li_4, li_5, li_6, li_7, li_8, li_9, li_10, li_11, li_12, li_13, li_14, li_15, li_16, li_17, li_18, li_19, li_20, li_21, li_22, li_23, li_24, li_25, li_26, li_27, li_28, li_29, li_30, li_31, li_32, li_33, li_34, li_35, li_36, li_37, li_38, li_39, li_40, li_41, li_42, li_43, li_44, li_45, li_46, li_47, li_48, li_49, li_50, li_51, li_52, li_53, li_54, li_55, li_56, li_57, li_58, li_59, li_60, li_61, li_62, li_63, li_64, li_65, li_66, li_96, li_97, li_99, li_100, li_122, li_125, li_126, li_140, li_255, li_256, li_999, li_1000, li_1001, li_1002, li_1100, li_1386, li_1452, li_1518, li_9999, li_1000000, mw_g8, ↓reduceIte]
  · have f0 : ¬ nI fl = nI 0 := by have := h.2; rw [nI_eq (by omega) (by omega)]; exact c0
    have en : ndT K a fl N.1 (ns G) = fl := by
      unfold ndT
      rw [show tNm K a fl = false from decide_eq_false (fun q => c0 q.1), if_neg (by decide)]
      unfold flf; rw [if_neg c0]
    have e : sp1 K a fl 0 lim N.1 (ns G) = (a, fl) := by
      unfold sp1
      rw [en, if_neg c0]
    rw [e] at e1 ok
    simp only at e1 ok
    obtain ⟨a2, fl2, w1, w2, d1, d2, d3, d4, d5⟩ := j_sl (fu := fv + 1) (p := p) (d := d) (v := v) hf hK hw gw hv h9 hG hNT hNR hl hdp lim 1 (fv + 1) fv a fl 0 y (nI 0) (st S (p + 1) (tw w a fl)) (by omega) (by omega) (by omega) (by omega) h (st_same _ _ _) (by rw [s6]; exact h0) (by rw [sd]; exact hg) (by rw [sd]; exact hs1) (fun q => absurd q c0)
    rw [st_st] at d1
    refine ⟨a2, fl2, w1, nI 0, ?_, ?_, d3, d4, fun q => absurd (d5 q).1 c0⟩
    · rw [← d1]
      simp only [f_X2_takeSpots, f_X2_takeSpots_0, ↓lm_1, ↓lm_2, ↓lm_3, ↓lm_4, ↓lm_5, ↓lm_6, ↓lm_7, ↓lm_8, ↓lm_9, ↓lm_10, ↓lm_11, li_0, li_1, li_2, li_3, li_4, li_5, li_6, li_7, li_8, li_9, li_10, li_11, li_12, li_13, li_14, li_15, li_16, li_17, li_18, li_19, li_20, li_21, li_22, li_23, li_24, li_25, li_26, li_27, li_28, li_29, li_30, li_31, li_32, li_33, li_34, li_35, li_36, li_37, li_38, li_39, li_40, li_41, li_42, li_43, li_44, li_45, li_46, li_47, li_48, li_49, li_50, li_51, li_52, li_53, li_54, li_55, li_56, li_57, li_58, li_59, li_60, li_61, li_62, li_63, li_64, li_65, li_66, li_96, li_97, li_99, li_100, li_122, li_125, li_126, li_140, li_255, li_256, li_999, li_1000, li_1001, li_1002, li_1100, li_1386, li_1452, li_1518, li_9999, li_1000000, e1, bd2_s, Nat.reduceSub]
    · have q2 : some (w2, mw v a2 fl2) = some (nI 0, mw v a fl) := by
        rw [← d2]
        obtain ⟨fw, rfl⟩ : ∃ k, fv = k + 1 := ⟨fv - 1, by omega⟩
        simp only [f_X13_readSpots_4, lq3_s, f_X13_readSpots_4s, f_X13_readSpots_105, ↓lm_1, ↓lm_2, ↓lm_3, ↓lm_4, ↓lm_5, ↓lm_6, ↓lm_7, ↓lm_8, ↓lm_9, ↓lm_10, ↓lm_11, li_0, li_1, li_2, li_3, li_4, li_5, li_6, li_7, li_8, li_9, li_10, li_11, li_12, li_13, li_14, li_15, li_16, li_17, li_18, li_19, li_20, li_21, li_22, li_23, li_24, li_25, li_26, li_27, li_28, li_29, li_30, li_31, li_32, li_33, li_34, li_35, li_36, li_37, li_38, li_39, li_40, li_41, li_42, li_43, li_44, li_45, li_46, li_47, li_48, li_49, li_50, li_51, li_52, li_53, li_54, li_55, li_56, li_57, li_58, li_59, li_60, li_61, li_62, li_63, li_64, li_65, li_66, li_96, li_97, li_99, li_100, li_122, li_125, li_126, li_140, li_255, li_256, li_999, li_1000, li_1001, li_1002, li_1100, li_1386, li_1452, li_1518, li_9999, li_1000000, mw_g8, f0, ↓reduceIte]
      have q3 : mw v a2 fl2 = mw v a fl := by injection q2 with q2; injection q2
      rw [q3]
      simp only [f_X13_readSpots, f_X13_readSpots_0, f_X13_readSpots_4, lq3_s, f_X13_readSpots_4s, f_X13_readSpots_105, ↓lm_1, ↓lm_2, ↓lm_3, ↓lm_4, ↓lm_5, ↓lm_6, ↓lm_7, ↓lm_8, ↓lm_9, ↓lm_10, ↓lm_11, li_0, li_1, li_2, li_3, li_4, li_5, li_6, li_7, li_8, li_9, li_10, li_11, li_12, li_13, li_14, li_15, li_16, li_17, li_18, li_19, li_20, li_21, li_22, li_23, li_24, li_25, li_26, li_27, li_28, li_29, li_30, li_31, li_32, li_33, li_34, li_35, li_36, li_37, li_38, li_39, li_40, li_41, li_42, li_43, li_44, li_45, li_46, li_47, li_48, li_49, li_50, li_51, li_52, li_53, li_54, li_55, li_56, li_57, li_58, li_59, li_60, li_61, li_62, li_63, li_64, li_65, li_66, li_96, li_97, li_99, li_100, li_122, li_125, li_126, li_140, li_255, li_256, li_999, li_1000, li_1001, li_1002, li_1100, li_1386, li_1452, li_1518, li_9999, li_1000000, mw_g8, f0, ↓reduceIte]
end T
