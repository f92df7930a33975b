/-! ===== the model's blocks and gallery show the same pictures; what it does by hand ===== -/
/-- the first bit that is set -/
def fo (x : Nat) : Nat := if bt x 0 = 1 then 0 else if bt x 1 = 1 then 1 else if bt x 2 = 1 then 2 else if bt x 3 = 1 then 3 else if bt x 4 = 1 then 4 else if bt x 5 = 1 then 5 else if bt x 6 = 1 then 6 else 7
theorem fo_p2 {s : Nat} (h : s < 8) : fo (2 ^ s) = s := by
  have h2 : (List.range 8).all (fun s => decide (fo (2 ^ s) = s)) = true := by decide +kernel
  exact co_dec h2 h
def MH (h : Nat → Int32) (q : HP) : Prop := h 0 = qt q ∧ h 1 = nI (qg q) ∧ h 2 = nI (qn q) ∧ (∀ p, p < qn q → h (3 + p) = nI (qo q p) ∧ h (11 + p) = nI (qh q p) ∧ h (19 + p) = qu q p ∧ h (27 + p) = (if p = 0 then mI 1 else nI (qs q p)) ∧ (p ≠ 0 → h (35 + p) = nI (fo (qw q p)))) ∧ ∀ t, t < 5 → h (43 + t) = qc q t
def ML (v : GV) (x : Int32) (th : Nat) (f d : Int32 → Int32 → Int32 → Int32) : Prop := (x = mI 1 ∧ f = d) ∨ ∃ fr len, x = nI fr ∧ okL (gA v 11) (gA v 12) fr len ∧ (∀ k, k < len → gA v 11 (fr + k) = nI 2 → gA v 12 (fr + k) = nI 0 ∨ gA v 12 (fr + k) = nI 1 ∨ gA v 12 (fr + k) = nI th) ∧ ∀ x y z, f x y z = lawV (gA v 11) (gA v 12) (fct x y z th) fr len
def MG (v : GV) (G : GP) : Prop := gA v 10 0 = nI (ns G) ∧ gA v 10 1 = nI (nt G) ∧ gA v 10 2 = nI (ne G) ∧ (∀ t, t < nt G → gA v 10 (6 + 4 * t) = nI (kd G t) ∧ gA v 10 (6 + (4 * t + 1)) = nI (sk G t) ∧ gA v 10 (6 + (4 * t + 3)) = nI (hr G t)) ∧ (∀ e, e < ne G → gA v 10 (26 + e) = nI (se G e)) ∧ ML v (gA v 10 4) 2 (wo G) wdf ∧ ML v (gA v 10 5) 3 (ha G) hdf
theorem MG_of {v v' : GV} {G : GP} (h : MG v G) (e10 : gA v' 10 = gA v 10) (e11 : gA v' 11 = gA v 11) (e12 : gA v' 12 = gA v 12) : MG v' G := by
  rw [MG, e10]
  obtain ⟨h1, h2, h3, h4, h5, h6, h7⟩ := h
  refine ⟨h1, h2, h3, h4, h5, ?_, ?_⟩
  · rw [ML, e11, e12]; exact h6
  · rw [ML, e11, e12]; exact h7
/-- the model's value with other facts, another pile, another block -/
def mv (v : GV) (b : Nat) (F P h : Nat → Int32) : GV := mb (sAf (sAf v 22 F) 23 P) b h
theorem mv_A {v : GV} {b k : Nat} {F P h : Nat → Int32} (h1 : k ≠ 22) (h2 : k ≠ 23) (h3 : k ≠ 24) : gA (mv v b F P h) k = gA v k := by
  rw [mv, mb_A h3, gA_sAfn _ _ h2, gA_sAfn _ _ h1]
theorem MG_mb {v : GV} {G : GP} {b : Nat} {h : Nat → Int32} (hM : MG v G) : MG (mb v b h) G := MG_of hM (mb_A (by decide)) (mb_A (by decide)) (mb_A (by decide))
theorem MG_mv {v : GV} {G : GP} {b : Nat} {F P h : Nat → Int32} (hM : MG v G) : MG (mv v b F P h) G := MG_of hM (mv_A (by decide) (by decide) (by decide)) (mv_A (by decide) (by decide) (by decide)) (mv_A (by decide) (by decide) (by decide))
theorem sAf_comm {v : GV} {j k : Nat} {f g : Nat → Int32} (h : j ≠ k) : sAf (sAf v j f) k g = sAf (sAf v k g) j f := by
  simp only [sAf]
  congr 3
  funext x
  by_cases h1 : x = j
  · have : x ≠ k := by omega
    simp [va_up, h1, h]
  · by_cases h2 : x = k
    · have h3 : k ≠ j := fun e => h e.symm
      simp [va_up, h2, h3]
    · simp [va_up, h1, h2]
theorem mv_mb {v : GV} {b : Nat} {F P h h' : Nat → Int32} : mb (mv v b F P h) b h' = mv v b F P h' := by rw [mv, mv, mb_mb]
theorem mv_mv {v : GV} {b : Nat} {F P h F' P' h' : Nat → Int32} : mv (mv v b F P h) b F' P' h' = mv v b F' P' h' := by
  unfold mv
  rw [mb_sAf (by decide), mb_sAf (by decide), mb_mb]
  congr 1
  rw [sAf_comm (j := 23) (k := 22) (by decide), sAf_sAf, sAf_sAf]
theorem mb_mv {v : GV} {b : Nat} {h F' P' h' : Nat → Int32} : mv (mb v b h) b F' P' h' = mv v b F' P' h' := by
  unfold mv
  rw [mb_sAf (by decide), mb_sAf (by decide), mb_mb]
theorem mv_self {v : GV} {b : Nat} {h : Nat → Int32} : mv v b (gA v 22) (gA v 23) h = mb v b h := by
  rw [mv, sAf_self]
  rw [sAf_self]
section LF
variable {op arg fa : Nat → Int32} {fr len th : Nat}
theorem rn_fct (hth : th = 2 ∨ th = 3) (hk : okL op arg fr len) (ha : ∀ k, k < len → op (fr + k) = nI 2 → arg (fr + k) = nI 0 ∨ arg (fr + k) = nI 1 ∨ arg (fr + k) = nI th) (s0 : Nat → Int32) : ∀ k, k ≤ len → rn op arg fa fr s0 k = rn op arg (fct (fa 0) (fa 1) (fa th) th) fr s0 k := by
  intro k
  induction k with
  | zero => intro _; rfl
  | succ k ih =>
    intro h
    simp only [rn, ih (by omega)]
    have e : op (fr + k) = nI 2 → fa (arg (fr + k)).toNatClampNeg = fct (fa 0) (fa 1) (fa th) th (arg (fr + k)).toNatClampNeg := by
      intro e
      rcases ha k (by omega) e with c | c | c
      · rw [c, nI_clamp (by omega)]; rfl
      · rw [c, nI_clamp (by omega)]; rfl
      · rw [c, nI_clamp (by omega)]; rcases hth with rfl | rfl <;> rfl
    by_cases c : op (fr + k) = nI 2
    · rw [e c]
    · simp only [if_neg c]
theorem lawV_fct (hth : th = 2 ∨ th = 3) (hk : okL op arg fr len) (ha : ∀ k, k < len → op (fr + k) = nI 2 → arg (fr + k) = nI 0 ∨ arg (fr + k) = nI 1 ∨ arg (fr + k) = nI th) : lawV op arg fa fr len = lawV op arg (fct (fa 0) (fa 1) (fa th) th) fr len := by
  rw [lawV, rn_fct hth hk ha _ len (Nat.le_refl _)]; rfl
end LF
theorem clw_w {fu : Nat} {v : GV} (x : Int32) : f_X13_worthOf_79 fu v x = some (clw x, v) := by
  have e0 : (nI 0).toInt = 0 := by decide
  have e9 : (nI 999).toInt = 999 := by decide
  simp only [f_X13_worthOf_79, ↓lm_1, ↓lm_2, ↓lm_3, ↓lm_4, ↓lm_5, ↓lm_6, ↓lm_7, ↓lm_8, ↓lm_9, ↓lm_10, ↓lm_11, li_0, li_1, li_2, li_3, li_4, li_5, li_6, li_7, li_8, li_9, li_10, li_11, li_12, li_13, li_14, li_15, li_16, li_17, li_18, li_19, li_20, li_21, li_22, li_23, li_24, li_25, li_26, li_27, li_28, li_29, li_30, li_31, li_32, li_33, li_34, li_35, li_36, li_37, li_38, li_39, li_40, li_41, li_42, li_43, li_44, li_45, li_46, li_47, li_48, li_49, li_50, li_51, li_52, li_53, li_54, li_55, li_56, li_57, li_58, li_59, li_60, li_61, li_62, li_63, li_64, li_65, li_66, li_96, li_97, li_99, li_100, li_122, li_125, li_126, li_140, li_255, li_256, li_999, li_1000, li_1001, li_1002, li_1100, li_1386, li_1452, li_1518, li_9999, li_1000000, clw, Int32.lt_iff_toInt_lt, Int32.le_iff_toInt_le, e0, e9]
  by_cases h0 : x.toInt < 0
  · rw [if_neg (by omega), if_pos h0]
  · rw [if_pos (by omega), if_neg h0]
    by_cases h9 : 999 < x.toInt
    · rw [if_neg (by omega), if_pos h9]
    · rw [if_pos (by omega), if_neg h9]
section M
variable {fu b : Nat} {v : GV} {h : Nat → Int32} {G : GP} {q : HP} {t p r s : Nat}
theorem m_kind (hM : MG v G) (hG : okG G) (ht : t < nt G) : f_X13_thiefOf fu v (nI t) (nI 0) = some (nI (kd G t)) := by
  have := hG.2.1
  rw [x13_thiefOf (by omega) (by omega), Nat.add_zero, (hM.2.2.2.1 t ht).1]
theorem m_skill (hM : MG v G) (hG : okG G) (ht : t < nt G) : f_X13_thiefOf fu v (nI t) (nI 1) = some (nI (sk G t)) := by
  have := hG.2.1
  rw [x13_thiefOf (by omega) (by omega), (hM.2.2.2.1 t ht).2.1]
theorem m_hours (hM : MG v G) (hG : okG G) (ht : t < nt G) : f_X13_thiefOf fu v (nI t) (nI 3) = some (nI (hr G t)) := by
  have := hG.2.1
  rw [x13_thiefOf (by omega) (by omega), (hM.2.2.2.1 t ht).2.2]
theorem m_isThief_in (hM : MG v G) (hG : okG G) (ht : t < nt G) : f_X13_isThief fu v (nI t) = some (nI 1) := by
  simp only [f_X13_isThief_16, f_X13_isThief_0, f_X13_isThief, ↓lm_1, ↓lm_2, ↓lm_3, ↓lm_4, ↓lm_5, ↓lm_6, ↓lm_7, ↓lm_8, ↓lm_9, ↓lm_10, ↓lm_11, li_0, li_1, li_2, li_3, li_4, li_5, li_6, li_7, li_8, li_9, li_10, li_11, li_12, li_13, li_14, li_15, li_16, li_17, li_18, li_19, li_20, li_21, li_22, li_23, li_24, li_25, li_26, li_27, li_28, li_29, li_30, li_31, li_32, li_33, li_34, li_35, li_36, li_37, li_38, li_39, li_40, li_41, li_42, li_43, li_44, li_45, li_46, li_47, li_48, li_49, li_50, li_51, li_52, li_53, li_54, li_55, li_56, li_57, li_58, li_59, li_60, li_61, li_62, li_63, li_64, li_65, li_66, li_96, li_97, li_99, li_100, li_122, li_125, li_126, li_140, li_255, li_256, li_999, li_1000, li_1001, li_1002, li_1100, li_1386, li_1452, li_1518, li_9999, li_1000000, x13_thieves hM.2.1, bd_s]
  exact ix_in ht (by have := hG.2.1; omega) _ _
theorem m_isThief_out (hM : MG v G) (hG : okG G) {x : Int32} (hx : ¬ ∃ j, j < nt G ∧ x = nI j) : f_X13_isThief fu v x = some (nI 0) := by
  simp only [f_X13_isThief_16, f_X13_isThief_0, f_X13_isThief, ↓lm_1, ↓lm_2, ↓lm_3, ↓lm_4, ↓lm_5, ↓lm_6, ↓lm_7, ↓lm_8, ↓lm_9, ↓lm_10, ↓lm_11, li_0, li_1, li_2, li_3, li_4, li_5, li_6, li_7, li_8, li_9, li_10, li_11, li_12, li_13, li_14, li_15, li_16, li_17, li_18, li_19, li_20, li_21, li_22, li_23, li_24, li_25, li_26, li_27, li_28, li_29, li_30, li_31, li_32, li_33, li_34, li_35, li_36, li_37, li_38, li_39, li_40, li_41, li_42, li_43, li_44, li_45, li_46, li_47, li_48, li_49, li_50, li_51, li_52, li_53, li_54, li_55, li_56, li_57, li_58, li_59, li_60, li_61, li_62, li_63, li_64, li_65, li_66, li_96, li_97, li_99, li_100, li_122, li_125, li_126, li_140, li_255, li_256, li_999, li_1000, li_1001, li_1002, li_1100, li_1386, li_1452, li_1518, li_9999, li_1000000, x13_thieves hM.2.1, bd_s]
  exact ix_out hx (by have := hG.2.1; omega) _ _
theorem m_isSpot_in (hM : MG v G) (hG : okG G) (ht : s < ns G) : f_X13_isSpot fu v (nI s) = some (nI 1) := by
  simp only [f_X13_isSpot_16, f_X13_isSpot_0, f_X13_isSpot, ↓lm_1, ↓lm_2, ↓lm_3, ↓lm_4, ↓lm_5, ↓lm_6, ↓lm_7, ↓lm_8, ↓lm_9, ↓lm_10, ↓lm_11, li_0, li_1, li_2, li_3, li_4, li_5, li_6, li_7, li_8, li_9, li_10, li_11, li_12, li_13, li_14, li_15, li_16, li_17, li_18, li_19, li_20, li_21, li_22, li_23, li_24, li_25, li_26, li_27, li_28, li_29, li_30, li_31, li_32, li_33, li_34, li_35, li_36, li_37, li_38, li_39, li_40, li_41, li_42, li_43, li_44, li_45, li_46, li_47, li_48, li_49, li_50, li_51, li_52, li_53, li_54, li_55, li_56, li_57, li_58, li_59, li_60, li_61, li_62, li_63, li_64, li_65, li_66, li_96, li_97, li_99, li_100, li_122, li_125, li_126, li_140, li_255, li_256, li_999, li_1000, li_1001, li_1002, li_1100, li_1386, li_1452, li_1518, li_9999, li_1000000, x13_spots hM.1, bd_s]
  exact ix_in ht (by have := hG.1; omega) _ _
theorem m_isSpot_out (hM : MG v G) (hG : okG G) {x : Int32} (hx : ¬ ∃ j, j < ns G ∧ x = nI j) : f_X13_isSpot fu v x = some (nI 0) := by
  simp only [f_X13_isSpot_16, f_X13_isSpot_0, f_X13_isSpot, ↓lm_1, ↓lm_2, ↓lm_3, ↓lm_4, ↓lm_5, ↓lm_6, ↓lm_7, ↓lm_8, ↓lm_9, ↓lm_10, ↓lm_11, li_0, li_1, li_2, li_3, li_4, li_5, li_6, li_7, li_8, li_9, li_10, li_11, li_12, li_13, li_14, li_15, li_16, li_17, li_18, li_19, li_20, li_21, li_22, li_23, li_24, li_25, li_26, li_27, li_28, li_29, li_30, li_31, li_32, li_33, li_34, li_35, li_36, li_37, li_38, li_39, li_40, li_41, li_42, li_43, li_44, li_45, li_46, li_47, li_48, li_49, li_50, li_51, li_52, li_53, li_54, li_55, li_56, li_57, li_58, li_59, li_60, li_61, li_62, li_63, li_64, li_65, li_66, li_96, li_97, li_99, li_100, li_122, li_125, li_126, li_140, li_255, li_256, li_999, li_1000, li_1001, li_1002, li_1100, li_1386, li_1452, li_1518, li_9999, li_1000000, x13_spots hM.1, bd_s]
  exact ix_out hx (by have := hG.1; omega) _ _
theorem m_isPiece_in (hb : b ≤ 1470) (hh : MH h q) (hq : okq G q) (hp : p < qn q) : f_X13_isPiece fu (mb v b h) (nI b) (nI p) = some (nI 1) := by
  simp (disch := omega) only [f_X13_isPiece_20, f_X13_isPiece_0, f_X13_isPiece, ↓lm_1, ↓lm_2, ↓lm_3, ↓lm_4, ↓lm_5, ↓lm_6, ↓lm_7, ↓lm_8, ↓lm_9, ↓lm_10, ↓lm_11, li_0, li_1, li_2, li_3, li_4, li_5, li_6, li_7, li_8, li_9, li_10, li_11, li_12, li_13, li_14, li_15, li_16, li_17, li_18, li_19, li_20, li_21, li_22, li_23, li_24, li_25, li_26, li_27, li_28, li_29, li_30, li_31, li_32, li_33, li_34, li_35, li_36, li_37, li_38, li_39, li_40, li_41, li_42, li_43, li_44, li_45, li_46, li_47, li_48, li_49, li_50, li_51, li_52, li_53, li_54, li_55, li_56, li_57, li_58, li_59, li_60, li_61, li_62, li_63, li_64, li_65, li_66, li_96, li_97, li_99, li_100, li_122, li_125, li_126, li_140, li_255, li_256, li_999, li_1000, li_1001, li_1002, li_1100, li_1386, li_1452, li_1518, li_9999, li_1000000, nI_add, nm_eq, inb_n, ck_t, nI_clamp, mb_rd, hh.2.2.1]
  exact ix_in hp (by have := hq.1.2.1; omega) _ _
theorem m_isPiece_out (hb : b ≤ 1470) (hh : MH h q) (hq : okq G q) {x : Int32} (hx : ¬ ∃ j, j < qn q ∧ x = nI j) : f_X13_isPiece fu (mb v b h) (nI b) x = some (nI 0) := by
  simp (disch := omega) only [f_X13_isPiece_20, f_X13_isPiece_0, f_X13_isPiece, ↓lm_1, ↓lm_2, ↓lm_3, ↓lm_4, ↓lm_5, ↓lm_6, ↓lm_7, ↓lm_8, ↓lm_9, ↓lm_10, ↓lm_11, li_0, li_1, li_2, li_3, li_4, li_5, li_6, li_7, li_8, li_9, li_10, li_11, li_12, li_13, li_14, li_15, li_16, li_17, li_18, li_19, li_20, li_21, li_22, li_23, li_24, li_25, li_26, li_27, li_28, li_29, li_30, li_31, li_32, li_33, li_34, li_35, li_36, li_37, li_38, li_39, li_40, li_41, li_42, li_43, li_44, li_45, li_46, li_47, li_48, li_49, li_50, li_51, li_52, li_53, li_54, li_55, li_56, li_57, li_58, li_59, li_60, li_61, li_62, li_63, li_64, li_65, li_66, li_96, li_97, li_99, li_100, li_122, li_125, li_126, li_140, li_255, li_256, li_999, li_1000, li_1001, li_1002, li_1100, li_1386, li_1452, li_1518, li_9999, li_1000000, nI_add, nm_eq, inb_n, ck_t, nI_clamp, mb_rd, hh.2.2.1]
  exact ix_out hx (by have := hq.1.2.1; omega) _ _
theorem m_hanging (hf : 1101 ≤ fu) (hb : b ≤ 1470) (hG : okG G) (hh : MH h q) (hq : okq G q) : f_X13_hanging fu (mb v b h) (nI b) = some (nI (qj q)) := by
  refine x13_hanging (by omega) hb hh.2.2.1 hq.1.2.1 hq.1.2.2.1 ?_ ?_
  · rw [(hh.2.2.2.1 _ hq.1.2.2.1).2.1, (hq.2.1 _ hq.1.2.2.1).2.1.mpr rfl]
  · intro k hk e
    have h5 := hG.2.1
    have hb := (hq.2.1 k hk).2.2
    rw [(hh.2.2.2.1 k hk).2.1, nI_eq (by omega) (by omega)] at e
    exact (hq.2.1 k hk).2.1.mp e
theorem m_hasIt_in (hb : b ≤ 1470) (hh : MH h q) (hq : okq G q) (hG : okG G) (ht : t < nt G) (hp : p < qn q) : f_X13_hasIt fu (mb v b h) (nI b) (nI t) (nI p) = some (if qh q p = t then nI 1 else nI 0) := by
  have h8 := hq.1.2.1
  have h5 := hG.2.1
  have hc := (hq.2.1 p hp).2.2
  simp (disch := omega) only [f_X13_hasIt_28, f_X13_hasIt_0, f_X13_hasIt, ↓lm_1, ↓lm_2, ↓lm_3, ↓lm_4, ↓lm_5, ↓lm_6, ↓lm_7, ↓lm_8, ↓lm_9, ↓lm_10, ↓lm_11, li_0, li_1, li_2, li_3, li_4, li_5, li_6, li_7, li_8, li_9, li_10, li_11, li_12, li_13, li_14, li_15, li_16, li_17, li_18, li_19, li_20, li_21, li_22, li_23, li_24, li_25, li_26, li_27, li_28, li_29, li_30, li_31, li_32, li_33, li_34, li_35, li_36, li_37, li_38, li_39, li_40, li_41, li_42, li_43, li_44, li_45, li_46, li_47, li_48, li_49, li_50, li_51, li_52, li_53, li_54, li_55, li_56, li_57, li_58, li_59, li_60, li_61, li_62, li_63, li_64, li_65, li_66, li_96, li_97, li_99, li_100, li_122, li_125, li_126, li_140, li_255, li_256, li_999, li_1000, li_1001, li_1002, li_1100, li_1386, li_1452, li_1518, li_9999, li_1000000, m_isPiece_in hb hh hq hp, bd_s, n10, Nat.one_ne_zero, ↓reduceIte, nI_add, nm_eq, inb_n, ck_t, nI_clamp, Nat.add_assoc, mb_rd, (hh.2.2.2.1 p hp).2.1, nI_eq]
  split <;> rfl
theorem m_hasIt_out (hb : b ≤ 1470) (hh : MH h q) (hq : okq G q) {x y : Int32} (hx : ¬ ∃ j, j < qn q ∧ y = nI j) : f_X13_hasIt fu (mb v b h) (nI b) x y = some (nI 0) := by
  simp only [f_X13_hasIt_28, f_X13_hasIt_0, f_X13_hasIt, ↓lm_1, ↓lm_2, ↓lm_3, ↓lm_4, ↓lm_5, ↓lm_6, ↓lm_7, ↓lm_8, ↓lm_9, ↓lm_10, ↓lm_11, li_0, li_1, li_2, li_3, li_4, li_5, li_6, li_7, li_8, li_9, li_10, li_11, li_12, li_13, li_14, li_15, li_16, li_17, li_18, li_19, li_20, li_21, li_22, li_23, li_24, li_25, li_26, li_27, li_28, li_29, li_30, li_31, li_32, li_33, li_34, li_35, li_36, li_37, li_38, li_39, li_40, li_41, li_42, li_43, li_44, li_45, li_46, li_47, li_48, li_49, li_50, li_51, li_52, li_53, li_54, li_55, li_56, li_57, li_58, li_59, li_60, li_61, li_62, li_63, li_64, li_65, li_66, li_96, li_97, li_99, li_100, li_122, li_125, li_126, li_140, li_255, li_256, li_999, li_1000, li_1001, li_1002, li_1100, li_1386, li_1452, li_1518, li_9999, li_1000000, m_isPiece_out hb hh hq hx, bd_s, ↓reduceIte]
theorem m_worthOf (hf : 1101 ≤ fu) (hb : b ≤ 1470) (hM : MG v G) (hh : MH h q) (hq : okq G q) (hp : p < qn q) : ∃ F P, f_X13_worthOf fu (mb v b h) (nI b) (nI p) = some (wof G q p, mv v b F P h) := by
  have h8 := hq.1.2.1
  have b1 := (hq.2.1 p hp).1
  have e0 : f_X13_worthOf fu (mb v b h) (nI b) (nI p) = if nI 0 ≤ gA v 10 4 then bd2 (f_X13_worthAt fu (mb (sAf v 22 (upd (upd (upd (gA v 22) 0 (nI (pcn (qo q p)))) 1 (nI p)) 2 (qu q p))) b h) (gA v 10 4)) (fun r w => f_X13_worthOf_79 fu w r) else f_X13_worthOf_79 fu (mb (sAf v 22 (upd (upd (upd (gA v 22) 0 (nI (pcn (qo q p)))) 1 (nI p)) 2 (qu q p))) b h) (nI 100 - nI (pcn (qo q p)) * nI 10 - nI p) := by
    simp (disch := omega) only [f_X13_worthOf, f_X13_worthOf_0, ↓lm_1, ↓lm_2, ↓lm_3, ↓lm_4, ↓lm_5, ↓lm_6, ↓lm_7, ↓lm_8, ↓lm_9, ↓lm_10, ↓lm_11, li_0, li_1, li_2, li_3, li_4, li_5, li_6, li_7, li_8, li_9, li_10, li_11, li_12, li_13, li_14, li_15, li_16, li_17, li_18, li_19, li_20, li_21, li_22, li_23, li_24, li_25, li_26, li_27, li_28, li_29, li_30, li_31, li_32, li_33, li_34, li_35, li_36, li_37, li_38, li_39, li_40, li_41, li_42, li_43, li_44, li_45, li_46, li_47, li_48, li_49, li_50, li_51, li_52, li_53, li_54, li_55, li_56, li_57, li_58, li_59, li_60, li_61, li_62, li_63, li_64, li_65, li_66, li_96, li_97, li_99, li_100, li_122, li_125, li_126, li_140, li_255, li_256, li_999, li_1000, li_1001, li_1002, li_1100, li_1386, li_1452, li_1518, li_9999, li_1000000, nI_add, nm_eq, inb_n, ck_t, nI_clamp, Nat.add_assoc, mb_rd, (hh.2.2.2.1 p hp).1, (hh.2.2.2.1 p hp).2.2.1, x13_bits (show 31 ≤ fu by omega) (show qo q p < 1073741824 by omega), bd_s, mb_sA, mb_sAf, mb_A, sA, sAf_sAf, gA_sAf, gA_sAfn, pk_us, pk_un]
  rcases hM.2.2.2.2.2.1 with ⟨e, d⟩ | ⟨fr, len, e, hk, ha, d⟩
  · refine ⟨upd (upd (upd (gA v 22) 0 (nI (pcn (qo q p)))) 1 (nI p)) 2 (qu q p), gA v 23, ?_⟩
    rw [e0, e, if_neg (by decide), clw_w]
    rw [mv, show gA v 23 = gA (sAf v 22 (upd (upd (upd (gA v 22) 0 (nI (pcn (qo q p)))) 1 (nI p)) 2 (qu q p))) 23 from (gA_sAfn _ _ (by decide)).symm, sAf_self, wof, d]
    rfl
  · generalize hF : upd (upd (upd (gA v 22) 0 (nI (pcn (qo q p)))) 1 (nI p)) 2 (qu q p) = F at e0
    have g11 : gA (mb (sAf v 22 F) b h) 11 = gA v 11 := by rw [mb_A (by decide), gA_sAfn _ _ (by decide)]
    have g12 : gA (mb (sAf v 22 F) b h) 12 = gA v 12 := by rw [mb_A (by decide), gA_sAfn _ _ (by decide)]
    have g22 : gA (mb (sAf v 22 F) b h) 22 = F := by rw [mb_A (by decide), gA_sAf]
    obtain ⟨P, hP⟩ := x13_worthAt (v := mb (sAf v 22 F) b h) (fr := fr) (len := len) (by rw [g11, g12]; exact hk) hf
    refine ⟨F, P, ?_⟩
    rw [e0, e, if_pos (nI_le (Nat.zero_le fr) (by have := hk.2.2.1; omega)), hP, bd2_s, clw_w, mb_sAf (by decide), g11, g12, g22, lawV_fct (Or.inl rfl) hk ha, wof, d]
    rw [← hF]
    rfl
theorem m_hardOf (hf : 1101 ≤ fu) (hb : b ≤ 1470) (hM : MG v G) (hh : MH h q) (hq : okq G q) (hp : p < qn q) : ∃ F P, f_X13_hardOf fu (mb v b h) (nI b) (nI p) (nI s) = some (hof G q p s, mv v b F P h) := by
  have h8 := hq.1.2.1
  have b1 := (hq.2.1 p hp).1
  have e0 : f_X13_hardOf fu (mb v b h) (nI b) (nI p) (nI s) = if nI 0 ≤ gA v 10 5 then bd2 (f_X13_worthAt fu (mb (sAf v 22 (upd (upd (upd (gA v 22) 0 (nI (pcn (qo q p)))) 1 (nI p)) 3 (nI s))) b h) (gA v 10 5)) (fun r w => some (r, w)) else some (nI (pcn (qo q p)) + nI s, mb (sAf v 22 (upd (upd (upd (gA v 22) 0 (nI (pcn (qo q p)))) 1 (nI p)) 3 (nI s))) b h) := by
    simp (disch := omega) only [f_X13_hardOf, f_X13_hardOf_0, ↓lm_1, ↓lm_2, ↓lm_3, ↓lm_4, ↓lm_5, ↓lm_6, ↓lm_7, ↓lm_8, ↓lm_9, ↓lm_10, ↓lm_11, li_0, li_1, li_2, li_3, li_4, li_5, li_6, li_7, li_8, li_9, li_10, li_11, li_12, li_13, li_14, li_15, li_16, li_17, li_18, li_19, li_20, li_21, li_22, li_23, li_24, li_25, li_26, li_27, li_28, li_29, li_30, li_31, li_32, li_33, li_34, li_35, li_36, li_37, li_38, li_39, li_40, li_41, li_42, li_43, li_44, li_45, li_46, li_47, li_48, li_49, li_50, li_51, li_52, li_53, li_54, li_55, li_56, li_57, li_58, li_59, li_60, li_61, li_62, li_63, li_64, li_65, li_66, li_96, li_97, li_99, li_100, li_122, li_125, li_126, li_140, li_255, li_256, li_999, li_1000, li_1001, li_1002, li_1100, li_1386, li_1452, li_1518, li_9999, li_1000000, nI_add, nm_eq, inb_n, ck_t, nI_clamp, Nat.add_assoc, mb_rd, (hh.2.2.2.1 p hp).1, x13_bits (show 31 ≤ fu by omega) (show qo q p < 1073741824 by omega), bd_s, mb_sA, mb_sAf, mb_A, sA, sAf_sAf, gA_sAf, gA_sAfn, pk_us, pk_un]
  rcases hM.2.2.2.2.2.2 with ⟨e, d⟩ | ⟨fr, len, e, hk, ha, d⟩
  · refine ⟨upd (upd (upd (gA v 22) 0 (nI (pcn (qo q p)))) 1 (nI p)) 3 (nI s), gA v 23, ?_⟩
    rw [e0, e, if_neg (by decide)]
    rw [mv, show gA v 23 = gA (sAf v 22 (upd (upd (upd (gA v 22) 0 (nI (pcn (qo q p)))) 1 (nI p)) 3 (nI s))) 23 from (gA_sAfn _ _ (by decide)).symm, sAf_self, hof, d]
    rfl
  · generalize hF : upd (upd (upd (gA v 22) 0 (nI (pcn (qo q p)))) 1 (nI p)) 3 (nI s) = F at e0
    have g11 : gA (mb (sAf v 22 F) b h) 11 = gA v 11 := by rw [mb_A (by decide), gA_sAfn _ _ (by decide)]
    have g12 : gA (mb (sAf v 22 F) b h) 12 = gA v 12 := by rw [mb_A (by decide), gA_sAfn _ _ (by decide)]
    have g22 : gA (mb (sAf v 22 F) b h) 22 = F := by rw [mb_A (by decide), gA_sAf]
    obtain ⟨P, hP⟩ := x13_worthAt (v := mb (sAf v 22 F) b h) (fr := fr) (len := len) (by rw [g11, g12]; exact hk) hf
    refine ⟨F, P, ?_⟩
    rw [e0, e, if_pos (nI_le (Nat.zero_le fr) (by have := hk.2.2.1; omega)), hP, bd2_s, mb_sAf (by decide), g11, g12, g22, lawV_fct (Or.inr rfl) hk ha, hof, d]
    rw [← hF]
    rfl
end M
