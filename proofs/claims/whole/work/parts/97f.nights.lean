/-! ===== nights: told lines are read ===== -/
theorem x6_verbOf {fu r : Nat} (hr : r < 30) : f_X6_verbOf fu r = some (oI (if 14 ≤ r ∧ r < 19 then some (r - 14) else none)) := by
  have h : (List.range 30).all (fun r => decide (f_X6_verbOf 0 r = some (oI (if 14 ≤ r ∧ r < 19 then some (r - 14) else none)))) = true := by decide +kernel
  exact co_dec (P := fun r => f_X6_verbOf 0 r = some (oI (if 14 ≤ r ∧ r < 19 then some (r - 14) else none))) h hr
/-- lines that the model reads lie apart -/
def MLs (v : GV) (n : Nat) (f : Nat → Nat × Nat × Nat × Nat) : Prop := ∀ i, i < n → gA v 21 (125 + 4 * i) = nI (f i).1 ∧ ((f i).1 < 3 → gA v 21 (126 + 4 * i) = nI (f i).2.1 ∧ gA v 21 (126 + 4 * i + 1) = nI (f i).2.2.1) ∧ ((f i).1 = 3 → gA v 21 (126 + 4 * i) = nI (f i).2.2.1) ∧ ((f i).1 = 1 → gA v 21 (126 + 4 * i + 2) = nI (f i).2.2.2)
def CLs (w : GV) (n : Nat) (f : Nat → Nat × Nat × Nat × Nat) : Prop := ∀ i, i < n → gA w 0 i = nI (f i).1 ∧ ((f i).1 < 3 → gA w 1 i = nI (f i).2.1) ∧ ((f i).1 < 4 → gA w 2 i = nI (f i).2.2.1) ∧ ((f i).1 = 1 → gA w 3 i = nI (f i).2.2.2)
def okLs (G : GP) (n : Nat) (f : Nat → Nat × Nat × Nat × Nat) : Prop := ∀ i, i < n → (f i).1 < 5 ∧ ((f i).1 < 3 → (f i).2.1 < nt G ∧ (f i).2.2.1 < 8) ∧ ((f i).1 = 1 → (f i).2.2.2 < ns G) ∧ ((f i).1 = 3 → (f i).2.2.1 < 24)
/-- of the model only lines apart have changed -/
def mln (v v' : GV) : Prop := (∀ k, k ≠ 21 → gA v' k = gA v k) ∧ (∀ x, x < 125 → gA v' 21 x = gA v 21 x) ∧ (∀ k, gI v' k = gI v k) ∧ gL v' = gL v ∧ gC v' = gC v
theorem mln_refl (v : GV) : mln v v := ⟨fun _ _ => rfl, fun _ _ => rfl, fun _ => rfl, rfl, rfl⟩
theorem mln_trans {v v' w : GV} (h : mln v v') (k : mln v' w) : mln v w := ⟨fun j a => (k.1 j a).trans (h.1 j a), fun x a => (k.2.1 x a).trans (h.2.1 x a), fun j => (k.2.2.1 j).trans (h.2.2.1 j), k.2.2.2.1.trans h.2.2.2.1, k.2.2.2.2.trans h.2.2.2.2⟩
theorem mln_sA {v : GV} {i : Nat} {x : Int32} (h : 125 ≤ i) : mln v (sA v 21 i x) := ⟨fun k hk => gA_sAn _ _ _ hk, fun y hy => by rw [gA_sA, if_neg (by omega)], fun _ => rfl, rfl, rfl⟩
theorem MB_mln {v v' : GV} {K : KT} (h : MB v K) (k : mln v v') : MB v' K := by
  intro i hi
  obtain ⟨a, b, c⟩ := h i hi
  refine ⟨?_, ?_, fun q => ?_⟩
  · rw [k.1 4 (by decide)]; exact a
  · rw [k.1 5 (by decide)]; exact b
  · rw [k.2.2.2.1]; exact c q
theorem WB_mln {v v' : GV} (h : WB9 v) (k : mln v v') : WB9 v' := fun i hi => by rw [k.2.2.2.1]; exact h i hi
theorem NT_mln {v v' : GV} {r : Bool} {n : Nat} {cd ty : Nat → Nat} (h : NT v r n cd ty) (k : mln v v') : NT v' r n cd ty := by
  refine ⟨h.1, by rw [k.2.2.1]; exact h.2.1, fun j hj => ?_⟩
  rw [k.2.2.2.1, k.1 _ (by split <;> decide)]; exact h.2.2 j hj
/-- what stands behind a told thief, a number, a spot -/
def rdT (K : KT) (a fl : Nat) (Nm : Nat → Nat) (n : Nat) : Nat × Nat := (stp K a (ndT K a fl Nm n), ndT K a fl Nm n)
section L
variable {fu p t dl m a fl : Nat} {K : KT} {w v : GV} {S : ST} {G : GP} {N : NM}
theorem x1_takeThief (hf : 1101 ≤ fu) (hK : okK K) (hw : CB w K) (h : okP K a fl) (hG : okG G) (hS : S (p + 1) = tw w a fl) (h9 : gI (S t) 9 = nI (nt G)) (hne : t ≠ p + 1) (hN : ∀ i, i < nt G → gL (S t) 1 i = lN (N.2.1 i) ∧ N.2.1 i < 1099511627776) : f_X1_takeThief fu S t (p + 1) = some (oI (if tNm K a fl = true then plc N.2.1 (kV K a) (nt G) else none), st S (p + 1) (tw w (rdT K a fl N.2.1 (nt G)).1 (rdT K a fl N.2.1 (nt G)).2)) := by
  have e := x1_toldAt (fu := fu) (S := S) (tp := p + 1) (g := t) (q := 1) (n := nt G) (Nm := N.2.1) hf hK hw h hS hG.2.1 (by omega) (alen_1 _) hN
  simp only [f_X1_takeThief, f_X1_takeThief_0, h9, e, bd2_s, st_same, x8_step1 hK hw (okP_ndT hK h N.2.1 (nt G)), bd_s, nm_eq, st_st, rdT]
theorem x1_spotAt (hf : 1101 ≤ fu) (hK : okK K) (hw : CB w K) (h : okP K a fl) (hG : okG G) (hS : S (p + 1) = tw w a fl) (h8 : gI (S t) 8 = nI (ns G)) (hN : ∀ i, i < ns G → gL (S t) 0 i = lN (N.1 i) ∧ N.1 i < 1099511627776) : f_X1_spotAt fu S t (p + 1) = some (oI (if tNm K a fl = true then plc N.1 (kV K a) (ns G) else none), st S (p + 1) (tw w a (ndT K a fl N.1 (ns G)))) := by
  have e := x1_toldAt (fu := fu) (S := S) (tp := p + 1) (g := t) (q := 0) (n := ns G) (Nm := N.1) hf hK hw h hS hG.1 (by omega) (alen_0 _) hN
  simp only [f_X1_spotAt, f_X1_spotAt_0, h8, e, bd2_s]
theorem okP_rdT (hK : okK K) (h : okP K a fl) (Nm : Nat → Nat) (n : Nat) : okP K (rdT K a fl Nm n).1 (rdT K a fl Nm n).2 := okP_stp hK (okP_ndT hK h Nm n)
/-- the rest of a line, class and model: fl' is the fault behind it -/
theorem j_rest (hf : 1101 ≤ fu) (hK : okK K) (hw : CB w K) (hv : MB v K) (h9 : WB9 v) (h : okP K a fl) (hG : okG G) {n : Nat} {cd ty : Nat → Nat} (hNT : NT v false n cd ty) (hNR : NR G N n cd ty) (hS : S (p + 1) = tw w a fl) (g8 : gI (S t) 8 = nI (ns G)) (g9 : gI (S t) 9 = nI (nt G)) (hn1 : ∀ i, i < ns G → gL (S t) 0 i = lN (N.1 i) ∧ N.1 i < 1099511627776) (hn2 : ∀ i, i < nt G → gL (S t) 1 i = lN (N.2.1 i) ∧ N.2.1 i < 1099511627776) (htp : t ≠ p + 1) (hdp : dl ≠ p + 1) (htd : t ≠ dl) (hm : m < 30) (h4 : gI (S dl) 4 = nI m) {vb : Nat} (hvb : vb < 5) : ∃ a' fl' x1 x2 x3 wd v', okP K a' fl' ∧ f_X6_readRest fu S dl (p + 1) t (nI vb) = some (st (st S (p + 1) (tw w a' fl')) dl wd) ∧ gC wd = gC (S dl) ∧ gI wd 4 = nI m ∧ (∀ k i, i ≠ m → gA wd k i = gA (S dl) k i) ∧ gA wd 0 = gA (S dl) 0 ∧ f_X13_readNight fu (mw v a fl) (nI vb) (nI (126 + 4 * m)) = some (mw v' a' fl') ∧ mln v v' ∧ (∀ x, x < 126 + 4 * m ∨ 129 + 4 * m ≤ x → gA v' 21 x = gA v 21 x) ∧ (fl' = 0 → fl = 0 ∧ (vb < 3 → x1 < nt G ∧ x2 < 8 ∧ gA wd 1 m = nI x1 ∧ gA v' 21 (126 + 4 * m) = nI x1 ∧ gA v' 21 (126 + 4 * m + 1) = nI x2) ∧ (vb < 4 → gA wd 2 m = nI x2) ∧ (vb = 3 → x2 < 24 ∧ gA v' 21 (126 + 4 * m) = nI x2) ∧ (vb = 1 → x3 < ns G ∧ gA wd 3 m = nI x3 ∧ gA v' 21 (126 + 4 * m + 2) = nI x3)) := by
  rcases (show vb = 3 ∨ vb = 4 ∨ vb < 3 by omega) with rfl | rfl | hv3
  · -- guard
    obtain ⟨z, e1, e2⟩ := x8_takeNum (fu := fu) (lim := 24) hK hw h (by omega)
    have e3 := m_takeNum (fu := fu) (hi := 23) hK hv h (by omega)
    simp only [Nat.reduceAdd] at e3
    refine ⟨(ndN K a fl 24).1, (ndN K a fl 24).2, 0, kV K a, 0, sA (S dl) 2 m z, sA v 21 (126 + 4 * m) (if (ndN K a fl 24).2 = 0 then nI (kV K a) else nI 0), okP_ndN hK h 24, ?_, rfl, h4, fun k i hi => ?_, gA_sAn _ _ _ (by decide), ?_, mln_sA (by omega), fun x hx => by rw [gA_sA, if_neg (by omega)], fun q => ⟨(ndN_0 q).1, fun _ => by omega, fun _ => ?_, fun _ => ⟨(ndN_0 q).2.2, ?_⟩, fun _ => by omega⟩⟩
    · have s1 : st S (p + 1) (tw w (ndN K a fl 24).1 (ndN K a fl 24).2) dl = S dl := st_ne _ _ hdp
      have n31 : ¬ nI 3 = nI 1 := by decide
      simp (disch := omega) only [f_X6_readRest, f_X6_readRest_0, f_X6_readRest_57, ↓lm_1, ↓lm_2, ↓lm_3, ↓lm_4, ↓lm_5, ↓lm_6, ↓lm_7, ↓lm_8, ↓lm_9, ↓lm_10, ↓lm_11, li_0, li_1, li_2, li_3, li_4, li_5, li_6, li_7, li_8, li_9, li_10, li_11, li_12, li_13, li_14, li_15, li_16, li_17, li_18, li_19, li_20, li_21, li_22, li_23, li_24, li_25, li_26, li_27, li_28, li_29, li_30, li_31, li_32, li_33, li_34, li_35, li_36, li_37, li_38, li_39, li_40, li_41, li_42, li_43, li_44, li_45, li_46, li_47, li_48, li_49, li_50, li_51, li_52, li_53, li_54, li_55, li_56, li_57, li_58, li_59, li_60, li_61, li_62, li_63, li_64, li_65, li_66, li_96, li_97, li_99, li_100, li_122, li_125, li_126, li_140, li_255, li_256, li_999, li_1000, li_1001, li_1002, li_1100, li_1386, li_1452, li_1518, li_9999, li_1000000, ↓reduceIte, hS, e1, bd2_s, nm_eq, h4, inb_n, ck_t, nI_clamp, s1, n31]
    · by_cases q : k = 2
      · subst q; rw [gA_sA, if_neg hi]
      · rw [gA_sAn _ _ _ q]
    · simp (disch := omega) only [f_X13_readNight, f_X13_readNight_0, ↓lm_1, ↓lm_2, ↓lm_3, ↓lm_4, ↓lm_5, ↓lm_6, ↓lm_7, ↓lm_8, ↓lm_9, ↓lm_10, ↓lm_11, li_0, li_1, li_2, li_3, li_4, li_5, li_6, li_7, li_8, li_9, li_10, li_11, li_12, li_13, li_14, li_15, li_16, li_17, li_18, li_19, li_20, li_21, li_22, li_23, li_24, li_25, li_26, li_27, li_28, li_29, li_30, li_31, li_32, li_33, li_34, li_35, li_36, li_37, li_38, li_39, li_40, li_41, li_42, li_43, li_44, li_45, li_46, li_47, li_48, li_49, li_50, li_51, li_52, li_53, li_54, li_55, li_56, li_57, li_58, li_59, li_60, li_61, li_62, li_63, li_64, li_65, li_66, li_96, li_97, li_99, li_100, li_122, li_125, li_126, li_140, li_255, li_256, li_999, li_1000, li_1001, li_1002, li_1100, li_1386, li_1452, li_1518, li_9999, li_1000000, ↓reduceIte, e3, bd2_s, inb_n, ck_t, nI_clamp, nm_eq, mw_sA]
    · rw [gA_sA, if_pos rfl]; exact e2 q
    · rw [gA_sA, if_pos rfl, if_pos q]
  · -- night
    refine ⟨a, fl, 0, 0, 0, S dl, v, h, ?_, rfl, h4, fun _ _ _ => rfl, rfl, ?_, mln_refl v, fun _ _ => rfl, fun q => ⟨q, fun _ => by omega, fun _ => by omega, fun _ => by omega, fun _ => by omega⟩⟩
    · have n43 : ¬ nI 4 = nI 3 := by decide
      have n41 : ¬ nI 4 = nI 1 := by decide
      simp only [f_X6_readRest, f_X6_readRest_0, f_X6_readRest_57, ↓lm_1, ↓lm_2, ↓lm_3, ↓lm_4, ↓lm_5, ↓lm_6, ↓lm_7, ↓lm_8, ↓lm_9, ↓lm_10, ↓lm_11, li_0, li_1, li_2, li_3, li_4, li_5, li_6, li_7, li_8, li_9, li_10, li_11, li_12, li_13, li_14, li_15, li_16, li_17, li_18, li_19, li_20, li_21, li_22, li_23, li_24, li_25, li_26, li_27, li_28, li_29, li_30, li_31, li_32, li_33, li_34, li_35, li_36, li_37, li_38, li_39, li_40, li_41, li_42, li_43, li_44, li_45, li_46, li_47, li_48, li_49, li_50, li_51, li_52, li_53, li_54, li_55, li_56, li_57, li_58, li_59, li_60, li_61, li_62, li_63, li_64, li_65, li_66, li_96, li_97, li_99, li_100, li_122, li_125, li_126, li_140, li_255, li_256, li_999, li_1000, li_1001, li_1002, li_1100, li_1386, li_1452, li_1518, li_9999, li_1000000, n43, n41, ↓reduceIte]
      rw [← hS, st_self, st_self]
    · have n43 : ¬ nI 4 = nI 3 := by decide
      have n34 : nI 3 ≤ nI 4 := by decide
      simp only [f_X13_readNight, f_X13_readNight_0, ↓lm_1, ↓lm_2, ↓lm_3, ↓lm_4, ↓lm_5, ↓lm_6, ↓lm_7, ↓lm_8, ↓lm_9, ↓lm_10, ↓lm_11, li_0, li_1, li_2, li_3, li_4, li_5, li_6, li_7, li_8, li_9, li_10, li_11, li_12, li_13, li_14, li_15, li_16, li_17, li_18, li_19, li_20, li_21, li_22, li_23, li_24, li_25, li_26, li_27, li_28, li_29, li_30, li_31, li_32, li_33, li_34, li_35, li_36, li_37, li_38, li_39, li_40, li_41, li_42, li_43, li_44, li_45, li_46, li_47, li_48, li_49, li_50, li_51, li_52, li_53, li_54, li_55, li_56, li_57, li_58, li_59, li_60, li_61, li_62, li_63, li_64, li_65, li_66, li_96, li_97, li_99, li_100, li_122, li_125, li_126, li_140, li_255, li_256, li_999, li_1000, li_1001, li_1002, li_1100, li_1386, li_1452, li_1518, li_9999, li_1000000, n43, n34, ↓reduceIte]
  · -- steal, paint, sell
    have n3 : ¬ nI vb = nI 3 := by rw [nI_eq (by omega) (by omega)]; omega
    have n4 : ¬ nI vb = nI 4 := by rw [nI_eq (by omega) (by omega)]; omega
    have n3' : ¬ nI 3 ≤ nI vb := nI_ge hv3 (by omega)
    have ht := x1_takeThief (fu := fu) (S := S) (N := N) hf hK hw h hG hS g9 htp hn2
    have mt := m_takeTold (fu := fu) (r := false) hf hK hv h9 h hNT (fr := 20) (by omega) (NR_thief hG hNR)
    have ok1 := okP_rdT hK h N.2.1 (nt G)
    have r0 : (rdT K a fl N.2.1 (nt G)).2 = ndT K a fl N.2.1 (nt G) := rfl
    have r1 : (rdT K a fl N.2.1 (nt G)).1 = stp K a (ndT K a fl N.2.1 (nt G)) := rfl
    rw [← r1, ← r0] at mt
    generalize hT1 : oI (if tNm K a fl = true then plc N.2.1 (kV K a) (nt G) else none) = z1 at *
    generalize hM1 : (if (rdT K a fl N.2.1 (nt G)).2 = 0 then oI (plc N.2.1 (kV K a) (nt G)) else nI 0) = y1 at *
    -- when no fault: both have the thief
    have f1 : (rdT K a fl N.2.1 (nt G)).2 = 0 → fl = 0 ∧ ∃ i, i < nt G ∧ z1 = nI i ∧ y1 = nI i := by
      intro q
      have q' : ndT K a fl N.2.1 (nt G) = 0 := q
      obtain ⟨b1, b2, i, b3, b4, b5⟩ := ndT_0 q'
      have tn : tNm K a fl = true := by
        apply Classical.byContradiction
        intro c
        rw [ndT, if_neg c] at q'
        exact flf_pos (by omega) q'
      refine ⟨b1, i, b4, ?_, ?_⟩
      · rw [← hT1, if_pos tn, b3]; rfl
      · rw [← hM1, if_pos q, b3]; rfl
    generalize hrd : rdT K a fl N.2.1 (nt G) = R1 at *
    obtain ⟨a1, fl1⟩ := R1
    simp only at ht mt ok1 f1
    -- the number
    have v1k : mln v (sA v 21 (126 + 4 * m) y1) := mln_sA (by omega)
    obtain ⟨z2, e1, e2⟩ := x8_takeNum (fu := fu) (lim := 8) hK hw ok1 (by omega)
    have e3 := m_takeNum (fu := fu) (hi := 7) hK (MB_mln hv v1k) ok1 (by omega)
    simp only [Nat.reduceAdd] at e3
    have ok2 := okP_ndN hK ok1 8
    have f2 : (ndN K a1 fl1 8).2 = 0 → fl1 = 0 ∧ kV K a1 < 8 ∧ z2 = nI (kV K a1) := fun q => ⟨(ndN_0 q).1, (ndN_0 q).2.2, e2 q⟩
    generalize hM2 : (if (ndN K a1 fl1 8).2 = 0 then nI (kV K a1) else nI 0) = y2 at *
    generalize hnd : ndN K a1 fl1 8 = R2 at *
    obtain ⟨a2, fl2⟩ := R2
    simp only at e1 e3 ok2 f2 hM2
    have v2k : mln v (sA (sA v 21 (126 + 4 * m) y1) 21 (126 + 4 * m + 1) y2) := mln_trans v1k (mln_sA (by omega))
    -- the class up to here
    have s1 : ∀ x y : GV, st (st S (p + 1) x) dl y (p + 1) = x := fun x y => by rw [st_ne _ _ (fun q => hdp q.symm), st_same]
    have s2 : ∀ x : GV, st S (p + 1) x dl = S dl := fun x => st_ne _ _ hdp
    have cls : f_X6_readRest fu S dl (p + 1) t (nI vb) = f_X6_readRest_57 fu (st (st S (p + 1) (tw w a2 fl2)) dl (sA (sA (S dl) 1 m z1) 2 m z2)) dl (p + 1) t (nI vb) := by
      have cm : ∀ x y z : GV, st (st (st S (p + 1) x) dl y) (p + 1) z = st (st S (p + 1) z) dl y := by
        intro x y z
        rw [st_comm _ _ _ hdp, st_st]
      simp (disch := omega) only [f_X6_readRest, f_X6_readRest_0, ↓lm_1, ↓lm_2, ↓lm_3, ↓lm_4, ↓lm_5, ↓lm_6, ↓lm_7, ↓lm_8, ↓lm_9, ↓lm_10, ↓lm_11, li_0, li_1, li_2, li_3, li_4, li_5, li_6, li_7, li_8, li_9, li_10, li_11, li_12, li_13, li_14, li_15, li_16, li_17, li_18, li_19, li_20, li_21, li_22, li_23, li_24, li_25, li_26, li_27, li_28, li_29, li_30, li_31, li_32, li_33, li_34, li_35, li_36, li_37, li_38, li_39, li_40, li_41, li_42, li_43, li_44, li_45, li_46, li_47, li_48, li_49, li_50, li_51, li_52, li_53, li_54, li_55, li_56, li_57, li_58, li_59, li_60, li_61, li_62, li_63, li_64, li_65, li_66, li_96, li_97, li_99, li_100, li_122, li_125, li_126, li_140, li_255, li_256, li_999, li_1000, li_1001, li_1002, li_1100, li_1386, li_1452, li_1518, li_9999, li_1000000, n3, n4, ↓reduceIte, ht, bd2_s, h4, inb_n, ck_t, nI_clamp, nm_eq, s2, s1, e1, st_same, gI_sA, cm, st_st]
    have mod : f_X13_readNight fu (mw v a fl) (nI vb) (nI (126 + 4 * m)) = (if nI vb = nI 1 then (bd2 (f_X13_takeTold fu (mw (sA (sA v 21 (126 + 4 * m) y1) 21 (126 + 4 * m + 1) y2) a2 fl2) (nI 0) (nI 0)) fun r12 v13 => f_X13_readNight_76 fu v13 (nI (126 + 4 * m + 2)) r12) else f_X13_readNight_76 fu (mw (sA (sA v 21 (126 + 4 * m) y1) 21 (126 + 4 * m + 1) y2) a2 fl2) (nI (126 + 4 * m + 2)) (nI 0)) := by
      rw [b01_f] at mt
      simp (disch := omega) only [f_X13_readNight, f_X13_readNight_0, ↓lm_1, ↓lm_2, ↓lm_3, ↓lm_4, ↓lm_5, ↓lm_6, ↓lm_7, ↓lm_8, ↓lm_9, ↓lm_10, ↓lm_11, li_0, li_1, li_2, li_3, li_4, li_5, li_6, li_7, li_8, li_9, li_10, li_11, li_12, li_13, li_14, li_15, li_16, li_17, li_18, li_19, li_20, li_21, li_22, li_23, li_24, li_25, li_26, li_27, li_28, li_29, li_30, li_31, li_32, li_33, li_34, li_35, li_36, li_37, li_38, li_39, li_40, li_41, li_42, li_43, li_44, li_45, li_46, li_47, li_48, li_49, li_50, li_51, li_52, li_53, li_54, li_55, li_56, li_57, li_58, li_59, li_60, li_61, li_62, li_63, li_64, li_65, li_66, li_96, li_97, li_99, li_100, li_122, li_125, li_126, li_140, li_255, li_256, li_999, li_1000, li_1001, li_1002, li_1100, li_1386, li_1452, li_1518, li_9999, li_1000000, n3, n3', ↓reduceIte, mt, bd2_s, inb_n, ck_t, nI_clamp, nm_eq, mw_sA, e3, nI_add]
    have hCL : ∀ k i, i ≠ m → gA (sA (sA (S dl) 1 m z1) 2 m z2) k i = gA (S dl) k i := by
      intro k i hi
      by_cases q : k = 2
      · subst q; rw [gA_sA, if_neg hi, gA_sAn _ _ _ (by decide)]
      · rw [gA_sAn _ _ _ q]
        by_cases q1 : k = 1
        · subst q1; rw [gA_sA, if_neg hi]
        · rw [gA_sAn _ _ _ q1]
    by_cases v1 : vb = 1
    · subst v1
      have S2t : st (st S (p + 1) (tw w a2 fl2)) dl (sA (sA (S dl) 1 m z1) 2 m z2) t = S t := by rw [st_ne _ _ htd, st_ne _ _ htp]
      have hs := x1_spotAt (fu := fu) (t := t) (S := st (st S (p + 1) (tw w a2 fl2)) dl (sA (sA (S dl) 1 m z1) 2 m z2)) (N := N) hf hK hw ok2 hG (s1 _ _) (by rw [S2t]; exact g8) (by rw [S2t]; exact hn1)
      have ms := m_takeTold (fu := fu) (v := sA (sA v 21 (126 + 4 * m) y1) 21 (126 + 4 * m + 1) y2) (r := false) hf hK (MB_mln hv v2k) (WB_mln h9 v2k) ok2 (NT_mln hNT v2k) (fr := 0) (by omega) (NR_spot hG hNR)
      have ok3 := okP_ndT hK ok2 N.1 (ns G)
      have f3 : ndT K a2 fl2 N.1 (ns G) = 0 → fl2 = 0 ∧ ∃ i, i < ns G ∧ oI (if tNm K a2 fl2 = true then plc N.1 (kV K a2) (ns G) else none) = nI i ∧ (if ndT K a2 fl2 N.1 (ns G) = 0 then oI (plc N.1 (kV K a2) (ns G)) else nI 0) = nI i := by
        intro q
        obtain ⟨b1, b2, i, b3, b4, b5⟩ := ndT_0 q
        have tn : tNm K a2 fl2 = true := by
          apply Classical.byContradiction
          intro c
          rw [ndT, if_neg c] at q
          exact flf_pos (by omega) q
        refine ⟨b1, i, b4, ?_, ?_⟩
        · rw [if_pos tn, b3]; rfl
        · rw [if_pos q, b3]; rfl
      generalize oI (if tNm K a2 fl2 = true then plc N.1 (kV K a2) (ns G) else none) = z3 at *
      generalize (if ndT K a2 fl2 N.1 (ns G) = 0 then oI (plc N.1 (kV K a2) (ns G)) else nI 0) = y3 at *
      generalize ndT K a2 fl2 N.1 (ns G) = fl3 at *
      have st3 := x8_step1 (fu := fu) hK hw ok3
      have ok4 := okP_stp hK ok3
      have sx : ∀ x y z : GV, st (st (st S (p + 1) x) dl y) (p + 1) z dl = y := fun x y z => by rw [st_ne _ _ hdp, st_same]
      have fin : f_X6_readRest_57 fu (st (st S (p + 1) (tw w a2 fl2)) dl (sA (sA (S dl) 1 m z1) 2 m z2)) dl (p + 1) t (nI 1) = some (st (st S (p + 1) (tw w (stp K a2 fl3) fl3)) dl (sA (sA (sA (S dl) 1 m z1) 2 m z2) 3 m z3)) := by
        have cm : ∀ x y z : GV, st (st (st S (p + 1) x) dl y) (p + 1) z = st (st S (p + 1) z) dl y := by
          intro x y z
          rw [st_comm _ _ _ hdp, st_st]
        simp (disch := omega) only [f_X6_readRest_57, ↓lm_1, ↓lm_2, ↓lm_3, ↓lm_4, ↓lm_5, ↓lm_6, ↓lm_7, ↓lm_8, ↓lm_9, ↓lm_10, ↓lm_11, li_0, li_1, li_2, li_3, li_4, li_5, li_6, li_7, li_8, li_9, li_10, li_11, li_12, li_13, li_14, li_15, li_16, li_17, li_18, li_19, li_20, li_21, li_22, li_23, li_24, li_25, li_26, li_27, li_28, li_29, li_30, li_31, li_32, li_33, li_34, li_35, li_36, li_37, li_38, li_39, li_40, li_41, li_42, li_43, li_44, li_45, li_46, li_47, li_48, li_49, li_50, li_51, li_52, li_53, li_54, li_55, li_56, li_57, li_58, li_59, li_60, li_61, li_62, li_63, li_64, li_65, li_66, li_96, li_97, li_99, li_100, li_122, li_125, li_126, li_140, li_255, li_256, li_999, li_1000, li_1001, li_1002, li_1100, li_1386, li_1452, li_1518, li_9999, li_1000000, ↓reduceIte, hs, bd2_s, st_same, gI_sA, h4, inb_n, ck_t, nI_clamp, nm_eq, cm, st_st, s1, st3, bd_s]
      have q76 : f_X13_readNight_76 fu (mw (sA (sA v 21 (126 + 4 * m) y1) 21 (126 + 4 * m + 1) y2) (stp K a2 fl3) fl3) (nI (126 + 4 * m + 2)) y3 = some (mw (sA (sA (sA v 21 (126 + 4 * m) y1) 21 (126 + 4 * m + 1) y2) 21 (126 + 4 * m + 2) y3) (stp K a2 fl3) fl3) := by
        simp (disch := omega) only [f_X13_readNight_76, inb_n, ck_t, nI_clamp, nm_eq, mw_sA]
      refine ⟨stp K a2 fl3, fl3, z1.toNatClampNeg, z2.toNatClampNeg, z3.toNatClampNeg, sA (sA (sA (S dl) 1 m z1) 2 m z2) 3 m z3, sA (sA (sA v 21 (126 + 4 * m) y1) 21 (126 + 4 * m + 1) y2) 21 (126 + 4 * m + 2) y3, ok4, ?_, rfl, h4, fun k i hi => ?_, ?_, ?_, mln_trans v2k (mln_sA (by omega)), fun x hx => ?_, fun q => ?_⟩
      · rw [cls, fin]
      · by_cases q : k = 3
        · subst q; rw [gA_sA, if_neg hi]; exact hCL 3 i hi
        · rw [gA_sAn _ _ _ q]; exact hCL k i hi
      · rw [gA_sAn _ _ _ (by decide), gA_sAn _ _ _ (by decide), gA_sAn _ _ _ (by decide)]
      · rw [mod, if_pos rfl]
        rw [b01_f] at ms
        rw [ms, bd2_s, q76]
      · rw [gA_sA, if_neg (by omega), gA_sA, if_neg (by omega), gA_sA, if_neg (by omega)]
      · obtain ⟨b1, i3, i3n, e31, e32⟩ := f3 q
        obtain ⟨c1, c2, c3⟩ := f2 b1
        obtain ⟨d1, i1, i1n, e11, e12⟩ := f1 c1
        rw [if_pos b1] at hM2
        have h8 := hG.1
        have h5 := hG.2.1
        rw [e11, c3, e31, nI_clamp (by omega), nI_clamp (by omega), nI_clamp (by omega)]
        refine ⟨d1, fun _ => ⟨i1n, c2, ?_, ?_, ?_⟩, fun _ => ?_, fun q => by omega, fun _ => ⟨i3n, ?_, ?_⟩⟩
        · rw [gA_sAn _ _ _ (by decide), gA_sAn _ _ _ (by decide), gA_sA, if_pos rfl]
        · rw [gA_sA, if_neg (by omega), gA_sA, if_neg (by omega), gA_sA, if_pos rfl, e12]
        · rw [gA_sA, if_neg (by omega), gA_sA, if_pos rfl, ← hM2]
        · rw [gA_sAn _ _ _ (by decide), gA_sA, if_pos rfl]
        · rw [gA_sA, if_pos rfl]
        · rw [gA_sA, if_pos rfl, e32]
    · have n1 : ¬ nI vb = nI 1 := by rw [nI_eq (by omega) (by omega)]; exact v1
      have q76 : f_X13_readNight_76 fu (mw (sA (sA v 21 (126 + 4 * m) y1) 21 (126 + 4 * m + 1) y2) a2 fl2) (nI (126 + 4 * m + 2)) (nI 0) = some (mw (sA (sA (sA v 21 (126 + 4 * m) y1) 21 (126 + 4 * m + 1) y2) 21 (126 + 4 * m + 2) (nI 0)) a2 fl2) := by
        simp (disch := omega) only [f_X13_readNight_76, inb_n, ck_t, nI_clamp, nm_eq, mw_sA]
      refine ⟨a2, fl2, z1.toNatClampNeg, z2.toNatClampNeg, 0, sA (sA (S dl) 1 m z1) 2 m z2, sA (sA (sA v 21 (126 + 4 * m) y1) 21 (126 + 4 * m + 1) y2) 21 (126 + 4 * m + 2) (nI 0), ok2, ?_, rfl, h4, hCL, ?_, ?_, mln_trans v2k (mln_sA (by omega)), fun x hx => ?_, fun q => ?_⟩
      · rw [cls]
        simp only [f_X6_readRest_57, ↓lm_1, ↓lm_2, ↓lm_3, ↓lm_4, ↓lm_5, ↓lm_6, ↓lm_7, ↓lm_8, ↓lm_9, ↓lm_10, ↓lm_11, li_0, li_1, li_2, li_3, li_4, li_5, li_6, li_7, li_8, li_9, li_10, li_11, li_12, li_13, li_14, li_15, li_16, li_17, li_18, li_19, li_20, li_21, li_22, li_23, li_24, li_25, li_26, li_27, li_28, li_29, li_30, li_31, li_32, li_33, li_34, li_35, li_36, li_37, li_38, li_39, li_40, li_41, li_42, li_43, li_44, li_45, li_46, li_47, li_48, li_49, li_50, li_51, li_52, li_53, li_54, li_55, li_56, li_57, li_58, li_59, li_60, li_61, li_62, li_63, li_64, li_65, li_66, li_96, li_97, li_99, li_100, li_122, li_125, li_126, li_140, li_255, li_256, li_999, li_1000, li_1001, li_1002, li_1100, li_1386, li_1452, li_1518, li_9999, li_1000000, n1, ↓reduceIte]
      · rw [gA_sAn _ _ _ (by decide), gA_sAn _ _ _ (by decide)]
      · rw [mod, if_neg n1, q76]
      · rw [gA_sA, if_neg (by omega), gA_sA, if_neg (by omega), gA_sA, if_neg (by omega)]
      · obtain ⟨c1, c2, c3⟩ := f2 q
        obtain ⟨d1, i1, i1n, e11, e12⟩ := f1 c1
        rw [if_pos q] at hM2
        have h5 := hG.2.1
        rw [e11, c3, nI_clamp (by omega), nI_clamp (by omega)]
        refine ⟨d1, fun _ => ⟨i1n, c2, ?_, ?_, ?_⟩, fun _ => ?_, fun q => by omega, fun q => absurd q v1⟩
        · rw [gA_sAn _ _ _ (by decide), gA_sA, if_pos rfl]
        · rw [gA_sA, if_neg (by omega), gA_sA, if_neg (by omega), gA_sA, if_pos rfl, e12]
        · rw [gA_sA, if_neg (by omega), gA_sA, if_pos rfl, ← hM2]
        · rw [gA_sA, if_pos rfl]
end L
