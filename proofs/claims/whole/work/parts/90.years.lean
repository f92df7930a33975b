/-! ===== years: nights by draws ===== -/
def dr (n : Nat) : Nat := (n * 1103515245 + 12345) % 2147483648
theorem dr_lt (n : Nat) : dr n < 2147483648 := Nat.mod_lt _ (by decide)
theorem ll_a : (1103515245 : Int64) = lN 1103515245 := by decide
theorem ll_b : (12345 : Int64) = lN 12345 := by decide
theorem ll_c : (2147483648 : Int64) = lN 2147483648 := by decide
theorem ll_d : (65536 : Int64) = lN 65536 := by decide
theorem ll_0 : (0 : Int64) = lN 0 := by decide
theorem dr_l {n : Nat} (h : n < 2147483648) : lN n * lN 1103515245 + lN 12345 - (lN n * lN 1103515245 + lN 12345) / lN 2147483648 * lN 2147483648 = lN (dr n) := by
  rw [lN_mul, lN_add, pk_lRem (by omega) (by omega) (by omega)]; rfl
theorem dr_m {n m : Nat} (h : n < 2147483648) (h0 : 0 < m) (hm : m < 100) : (lN n / lN 65536 - lN n / lN 65536 / lN m * lN m).toInt32 = nI (n / 65536 % m) := by
  have : n / 65536 ≤ n := Nat.div_le_self _ _
  rw [pk_lDiv (by omega) (by omega) (by omega), pk_lRem (by omega) h0 (by omega), lN_i]
theorem x11_draw {fu n m : Nat} {w : GV} (hJ : gJ w 1 = lN n) (hn : n < 2147483648) (h0 : 0 < m) (hm : m < 100) : f_X11_draw fu w (nI m) = some (nI (dr n / 65536 % m), sJ w 1 (lN (dr n))) := by
  have e1 : ¬ nI m ≤ nI 0 := nI_ge h0 (by omega)
  have e2 : ¬ lN m = lN 0 := by rw [lN_eq (by omega) (by omega)]; omega
  simp (disch := omega) only [f_X11_draw, f_X11_draw_0, ↓lm_1, ↓lm_2, ↓lm_3, ↓lm_4, ↓lm_5, ↓lm_6, ↓lm_7, ↓lm_8, ↓lm_9, ↓lm_10, ↓lm_11, li_0, li_1, li_2, li_3, li_4, li_5, li_6, li_7, li_8, li_9, li_10, li_11, li_12, li_13, li_14, li_15, li_16, li_17, li_18, li_19, li_20, li_21, li_22, li_23, li_24, li_25, li_26, li_27, li_28, li_29, li_30, li_31, li_32, li_33, li_34, li_35, li_36, li_37, li_38, li_39, li_40, li_41, li_42, li_43, li_44, li_45, li_46, li_47, li_48, li_49, li_50, li_51, li_52, li_53, li_54, li_55, li_56, li_57, li_58, li_59, li_60, li_61, li_62, li_63, li_64, li_65, li_66, li_96, li_97, li_99, li_100, li_122, li_125, li_126, li_140, li_255, li_256, li_999, li_1000, li_1001, li_1002, li_1100, li_1386, li_1452, li_1518, li_9999, li_1000000, hJ, ll_a, ll_b, ll_c, ll_d, ll_0, dr_l hn, nm_eq, e1, ↓reduceIte, nI_l, e2, not_false_eq_true, decide_true, ck_t, gJ_sJ, dr_m (dr_lt n) h0 hm]
theorem m_draw {fu n m : Nat} {w : GV} (hJ : gJ w 40 = lN n) (hn : n < 2147483648) (h0 : 0 < m) (hm : m < 100) : f_X13_draw fu w (nI m) = some (nI (dr n / 65536 % m), sJ w 40 (lN (dr n))) := by
  have e2 : ¬ lN m = lN 0 := by rw [lN_eq (by omega) (by omega)]; omega
  simp (disch := omega) only [f_X13_draw, f_X13_draw_0, ↓lm_1, ↓lm_2, ↓lm_3, ↓lm_4, ↓lm_5, ↓lm_6, ↓lm_7, ↓lm_8, ↓lm_9, ↓lm_10, ↓lm_11, li_0, li_1, li_2, li_3, li_4, li_5, li_6, li_7, li_8, li_9, li_10, li_11, li_12, li_13, li_14, li_15, li_16, li_17, li_18, li_19, li_20, li_21, li_22, li_23, li_24, li_25, li_26, li_27, li_28, li_29, li_30, li_31, li_32, li_33, li_34, li_35, li_36, li_37, li_38, li_39, li_40, li_41, li_42, li_43, li_44, li_45, li_46, li_47, li_48, li_49, li_50, li_51, li_52, li_53, li_54, li_55, li_56, li_57, li_58, li_59, li_60, li_61, li_62, li_63, li_64, li_65, li_66, li_96, li_97, li_99, li_100, li_122, li_125, li_126, li_140, li_255, li_256, li_999, li_1000, li_1001, li_1002, li_1100, li_1386, li_1452, li_1518, li_9999, li_1000000, hJ, ll_a, ll_b, ll_c, ll_d, ll_0, dr_l hn, nm_eq, nI_l, e2, not_false_eq_true, decide_true, ck_t, gJ_sJ, ↓reduceIte, dr_m (dr_lt n) h0 hm]
/-- the greatest number of a set -/
def ho (x : Nat) : Nat := if bt x 7 = 1 then 7 else if bt x 6 = 1 then 6 else if bt x 5 = 1 then 5 else if bt x 4 = 1 then 4 else if bt x 3 = 1 then 3 else if bt x 2 = 1 then 2 else if bt x 1 = 1 then 1 else 0
theorem tz256 {fu x : Nat} (hx : x < 256) : f_J6_numberOfTrailingZeros_0f7a4 fu (nI x) = some (nI (if x = 0 then 32 else fo x)) := by
  have h : (List.range 256).all (fun x => decide (f_J6_numberOfTrailingZeros_0f7a4 0 (nI x) = some (nI (if x = 0 then 32 else fo x)))) = true := by decide +kernel
  exact co_dec (P := fun x => f_J6_numberOfTrailingZeros_0f7a4 0 (nI x) = some (nI (if x = 0 then 32 else fo x))) h hx
theorem lz256 {fu x : Nat} (hx : x < 256) : f_J6_numberOfLeadingZeros_0f7a4 fu (nI x) = some (nI (if x = 0 then 32 else 31 - ho x)) := by
  have h : (List.range 256).all (fun x => decide (f_J6_numberOfLeadingZeros_0f7a4 0 (nI x) = some (nI (if x = 0 then 32 else 31 - ho x)))) = true := by decide +kernel
  exact co_dec (P := fun x => f_J6_numberOfLeadingZeros_0f7a4 0 (nI x) = some (nI (if x = 0 then 32 else 31 - ho x))) h hx
theorem ho_f {x : Nat} (hx : x < 256) : ho x < 8 ∧ (x ≠ 0 → bt x (ho x) = 1) ∧ ∀ j, j < 8 → ho x < j → bt x j = 0 := by
  have h : (List.range 256).all (fun x => decide (ho x < 8 ∧ (x ≠ 0 → bt x (ho x) = 1) ∧ ((List.range 8).all fun j => decide (ho x < j → bt x j = 0)) = true)) = true := by decide +kernel
  obtain ⟨h1, h2, h3⟩ := co_dec h hx
  exact ⟨h1, h2, fun j hj => co_dec h3 hj⟩
theorem fo_f {x : Nat} (hx : x < 256) : fo x < 8 ∧ (x ≠ 0 → bt x (fo x) = 1) ∧ ∀ j, j < 8 → j < fo x → bt x j = 0 := by
  have h : (List.range 256).all (fun x => decide (fo x < 8 ∧ (x ≠ 0 → bt x (fo x) = 1) ∧ ((List.range 8).all fun j => decide (j < fo x → bt x j = 0)) = true)) = true := by decide +kernel
  obtain ⟨h1, h2, h3⟩ := co_dec h hx
  exact ⟨h1, h2, fun j hj => co_dec h3 hj⟩
theorem m_firstOf {fu x : Nat} (hf : 1101 ≤ fu) (hx : x < 256) (h0 : x ≠ 0) : f_X13_firstOf fu (nI x) = some (nI (fo x)) := by
  obtain ⟨h1, h2, h3⟩ := fo_f hx
  simp only [f_X13_firstOf, f_X13_firstOf_0, f_X13_firstOf_2, ↓lm_1, ↓lm_2, ↓lm_3, ↓lm_4, ↓lm_5, ↓lm_6, ↓lm_7, ↓lm_8, ↓lm_9, ↓lm_10, ↓lm_11, li_0, li_1, li_2, li_3, li_4, li_5, li_6, li_7, li_8, li_9, li_10, li_11, li_12, li_13, li_14, li_15, li_16, li_17, li_18, li_19, li_20, li_21, li_22, li_23, li_24, li_25, li_26, li_27, li_28, li_29, li_30, li_31, li_32, li_33, li_34, li_35, li_36, li_37, li_38, li_39, li_40, li_41, li_42, li_43, li_44, li_45, li_46, li_47, li_48, li_49, li_50, li_51, li_52, li_53, li_54, li_55, li_56, li_57, li_58, li_59, li_60, li_61, li_62, li_63, li_64, li_65, li_66, li_96, li_97, li_99, li_100, li_122, li_125, li_126, li_140, li_255, li_256, li_999, li_1000, li_1001, li_1002, li_1100, li_1386, li_1452, li_1518, li_9999, li_1000000]
  refine for1 _ (fun k => nI k) 0 (fo x) _ ?_ ?_ fu (by omega) (by omega)
  · intro rec
    have e1 : ¬ nI 29 ≤ nI (fo x) := nI_ge (by omega) (by omega)
    simp (disch := omega) only [f_X13_firstOf_2s, f_X13_firstOf_22, ↓lm_1, ↓lm_2, ↓lm_3, ↓lm_4, ↓lm_5, ↓lm_6, ↓lm_7, ↓lm_8, ↓lm_9, ↓lm_10, ↓lm_11, li_0, li_1, li_2, li_3, li_4, li_5, li_6, li_7, li_8, li_9, li_10, li_11, li_12, li_13, li_14, li_15, li_16, li_17, li_18, li_19, li_20, li_21, li_22, li_23, li_24, li_25, li_26, li_27, li_28, li_29, li_30, li_31, li_32, li_33, li_34, li_35, li_36, li_37, li_38, li_39, li_40, li_41, li_42, li_43, li_44, li_45, li_46, li_47, li_48, li_49, li_50, li_51, li_52, li_53, li_54, li_55, li_56, li_57, li_58, li_59, li_60, li_61, li_62, li_63, li_64, li_65, li_66, li_96, li_97, li_99, li_100, li_122, li_125, li_126, li_140, li_255, li_256, li_999, li_1000, li_1001, li_1002, li_1100, li_1386, li_1452, li_1518, li_9999, li_1000000, e1, ↓reduceIte, nI_and31, nI_bt, h2 h0, n10]
  · intro k rec _ hk
    have e1 : ¬ nI 29 ≤ nI k := nI_ge (by omega) (by omega)
    simp (disch := omega) only [f_X13_firstOf_2s, f_X13_firstOf_22, ↓lm_1, ↓lm_2, ↓lm_3, ↓lm_4, ↓lm_5, ↓lm_6, ↓lm_7, ↓lm_8, ↓lm_9, ↓lm_10, ↓lm_11, li_0, li_1, li_2, li_3, li_4, li_5, li_6, li_7, li_8, li_9, li_10, li_11, li_12, li_13, li_14, li_15, li_16, li_17, li_18, li_19, li_20, li_21, li_22, li_23, li_24, li_25, li_26, li_27, li_28, li_29, li_30, li_31, li_32, li_33, li_34, li_35, li_36, li_37, li_38, li_39, li_40, li_41, li_42, li_43, li_44, li_45, li_46, li_47, li_48, li_49, li_50, li_51, li_52, li_53, li_54, li_55, li_56, li_57, li_58, li_59, li_60, li_61, li_62, li_63, li_64, li_65, li_66, li_96, li_97, li_99, li_100, li_122, li_125, li_126, li_140, li_255, li_256, li_999, li_1000, li_1001, li_1002, li_1100, li_1386, li_1452, li_1518, li_9999, li_1000000, e1, ↓reduceIte, nI_and31, nI_bt, h3 k (by omega) hk, nm_eq, nI_add]
theorem hasq_lt {q : HP} {t : Nat} (h : qn q ≤ 8) : hasq q t < 256 := Nat.lt_of_lt_of_le (setb_lt _ _) (Nat.pow_le_pow_right (n := 2) (by decide) h)
theorem hasq_bt {q : HP} {t k : Nat} (h : bt (hasq q t) k = 1) : k < qn q ∧ qh q k = t := by
  rw [hasq, bt_setb] at h
  split at h
  · rename_i c; exact ⟨c.1, of_decide_eq_true c.2⟩
  · omega
section Y
variable {fu p g : Nat} {S : ST} {w : GV} {G : GP} {q : HP} {n : Nat} {z : Int32}
/-- the class's years, at a and behind it -/
def YC (p g : Nat) (G : GP) (S0 S : ST) (q : HP) (n : Nat) (z : Int32) : Prop := scr p S0 S ∧ CH (S (p + 32 + 1)) q ∧ CG S g G ∧ gC (S (p + 32)) = 10 ∧ gC (S p) = 11 ∧ gJ (S (p + 32)) 1 = lN n ∧ gI (S (p + 32)) 2 = z
def YM (G : GP) (w0 w : GV) (q : HP) (n : Nat) : Prop := mscr w0 w ∧ BH w 1452 q ∧ MG w G ∧ gJ w 40 = lN n
theorem YC_a {S0 : ST} (h : YC p g G S0 S q n z) {v : GV} {n' : Nat} {z' : Int32} (hc : gC v = 10) (hn : gJ v 1 = lN n') (hz : gI v 2 = z') : YC p g G S0 (st S (p + 32) v) q n' z' := by
  obtain ⟨h1, h2, h3, h4, h5, h6, h7⟩ := h
  have hg : g ≠ p + 32 := by rintro rfl; have := h3.1; omega
  refine ⟨scr_st h1 (by omega) (by rw [hc, h4]), by rw [st_ne _ _ (by omega)]; exact h2, CG_keep h3 (st_ne _ _ hg) (fun b hb => Or.inl (st_ne _ _ ?_)), by rw [st_same]; exact hc, by rw [st_ne _ _ (by omega)]; exact h5, by rw [st_same]; exact hn, by rw [st_same]; exact hz⟩
  rintro rfl; omega
theorem YC_h {S0 S' : ST} {q' : HP} (h : YC p g G S0 S q n z) (hf : fra (p + 32 + 1) S S') (hq : CH (S' (p + 32 + 1)) q') : YC p g G S0 S' q' n z := by
  obtain ⟨h1, h2, h3, h4, h5, h6, h7⟩ := h
  have e : S' (p + 32) = S (p + 32) := fra_at hf (by omega) (by rw [h4]; decide)
  refine ⟨scr_fra h1 hf (by omega) (by rw [h5]; decide), hq, CG_fra h3 hf h2.1, by rw [e]; exact h4, by rw [fra_gC hf]; exact h5, by rw [e]; exact h6, by rw [e]; exact h7⟩
theorem YM_b {w0 : GV} {q' : HP} (h : YM G w0 w q n) {h' : Nat → Int32} {F P : Nat → Int32} (h8 : qn q' ≤ 8) (m : MH h' q') : YM G w0 (mv w 1452 F P h') q' n := ⟨mscr_mv h.1 (by omega), BH_mv h8 m, MG_mv h.2.2.1, h.2.2.2⟩
theorem YM_b' {w0 : GV} {q' : HP} (h : YM G w0 w q n) {h' : Nat → Int32} (h8 : qn q' ≤ 8) (m : MH h' q') : YM G w0 (mb w 1452 h') q' n := ⟨mscr_mb h.1 (by omega), BH_mb h8 m, MG_mb h.2.2.1, h.2.2.2⟩
theorem YM_j {w0 : GV} (h : YM G w0 w q n) {n' : Nat} : YM G w0 (sJ w 40 (lN n')) q n' := ⟨mscr_sJ h.1, h.2.1, h.2.2.1, by rw [gJ_sJ, if_pos rfl]⟩
theorem m_most (hf : 1101 ≤ fu) {x : Nat} (hx : x < 256) (h0 : x ≠ 0) {t : Nat} {r : Int32} {w' : GV} (hs : f_X13_sells fu w (nI 1452) (nI t) (nI (ho x)) = some (r, w')) : f_X13_drawsNight_127 fu fu (nI t) (nI x) (nI 7) w = some (nI 0, w') := by
  obtain ⟨h1, h2, h3⟩ := ho_f hx
  rw [f_X13_drawsNight_127]
  refine for2 _ (fun k => nI (7 - k)) (fun _ => w) 0 (7 - ho x) _ ?_ ?_ fu (by omega) (by omega)
  · intro rec
    have e : 7 - (7 - ho x) = ho x := by omega
    simp (disch := omega) only [f_X13_drawsNight_127s, f_X13_drawsNight_187, ↓lm_1, ↓lm_2, ↓lm_3, ↓lm_4, ↓lm_5, ↓lm_6, ↓lm_7, ↓lm_8, ↓lm_9, ↓lm_10, ↓lm_11, li_0, li_1, li_2, li_3, li_4, li_5, li_6, li_7, li_8, li_9, li_10, li_11, li_12, li_13, li_14, li_15, li_16, li_17, li_18, li_19, li_20, li_21, li_22, li_23, li_24, li_25, li_26, li_27, li_28, li_29, li_30, li_31, li_32, li_33, li_34, li_35, li_36, li_37, li_38, li_39, li_40, li_41, li_42, li_43, li_44, li_45, li_46, li_47, li_48, li_49, li_50, li_51, li_52, li_53, li_54, li_55, li_56, li_57, li_58, li_59, li_60, li_61, li_62, li_63, li_64, li_65, li_66, li_96, li_97, li_99, li_100, li_122, li_125, li_126, li_140, li_255, li_256, li_999, li_1000, li_1001, li_1002, li_1100, li_1386, li_1452, li_1518, li_9999, li_1000000, e, nI_and31, nI_bt, h2 h0, n10, ↓reduceIte, hs, bd2_s]
  · intro k rec _ hk
    have e : nI (7 - k) + mI 1 = nI (7 - (k + 1)) := by
      have := mI_sub1 (7 - (k + 1))
      rwa [show 7 - (k + 1) + 1 = 7 - k by omega] at this
    simp (disch := omega) only [f_X13_drawsNight_127s, ↓lm_1, ↓lm_2, ↓lm_3, ↓lm_4, ↓lm_5, ↓lm_6, ↓lm_7, ↓lm_8, ↓lm_9, ↓lm_10, ↓lm_11, li_0, li_1, li_2, li_3, li_4, li_5, li_6, li_7, li_8, li_9, li_10, li_11, li_12, li_13, li_14, li_15, li_16, li_17, li_18, li_19, li_20, li_21, li_22, li_23, li_24, li_25, li_26, li_27, li_28, li_29, li_30, li_31, li_32, li_33, li_34, li_35, li_36, li_37, li_38, li_39, li_40, li_41, li_42, li_43, li_44, li_45, li_46, li_47, li_48, li_49, li_50, li_51, li_52, li_53, li_54, li_55, li_56, li_57, li_58, li_59, li_60, li_61, li_62, li_63, li_64, li_65, li_66, li_96, li_97, li_99, li_100, li_122, li_125, li_126, li_140, li_255, li_256, li_999, li_1000, li_1001, li_1002, li_1100, li_1386, li_1452, li_1518, li_9999, li_1000000, nI_and31, nI_bt, h3 (7 - k) (by omega) (by omega), ↓reduceIte, e, nm_eq]
/-- a night's draws, class and model -/
theorem y_act {S0 : ST} {w0 : GV} (hf : 1101 ≤ fu) (hG : okG G) (hq : okq G q) (hC : YC p g G S0 S q n z) (hM : YM G w0 w q n) (hn : n < 2147483648) {t : Nat} (ht : t < nt G) : ∃ q' n' c S' w', okq G q' ∧ n' < 2147483648 ∧ f_X11_act fu S (p + 32) g (nI t) = some S' ∧ YC p g G S0 S' q' n' (z + b01 c) ∧ YM G w0 w' q' n' ∧ (∀ r4 v5, f_X13_draw fu w (nI 4) = some (r4, v5) → (bd (f_X13_hasOf fu v5 (nI 1452) (nI t)) fun r6 => if r6 = nI 0 then f_X13_drawsNight_36 fu v5 (nI t) r4 r6 (mI 1) else bd (f_X13_firstOf fu r6) fun r8 => f_X13_drawsNight_36 fu v5 (nI t) r4 r6 r8) = some (b01 c, w')) := by
  have h5 := hG.2.1
  have h8 := hq.1.2.1
  have hj := hq.1.2.2.1
  have hx := hasq_lt (t := t) h8
  have hd := dr_lt n
  have z0 : z + b01 false = z := by rw [b01_f]; exact Int32.add_zero z
  have hmd : dr n / 65536 % 4 < 4 := Nat.mod_lt _ (by decide)
  have hdr := x11_draw (fu := fu) (w := S (p + 32)) hC.2.2.2.2.2.1 hn (m := 4) (by omega) (by omega)
  have hdm := m_draw (fu := fu) (w := w) hM.2.2.2 hn (m := 4) (by omega) (by omega)
  have hC2 := YC_a hC (v := sJ (S (p + 32)) 1 (lN (dr n))) (n' := dr n) (z' := z) hC.2.2.2.1 (by rw [gJ_sJ, if_pos rfl]) hC.2.2.2.2.2.2
  have hM2 : YM G w0 (sJ w 40 (lN (dr n))) q (dr n) := YM_j hM
  generalize hS2 : st S (p + 32) (sJ (S (p + 32)) 1 (lN (dr n))) = S2 at *
  generalize hw2 : sJ w 40 (lN (dr n)) = w2 at *
  generalize dr n / 65536 % 4 = dd at *
  generalize dr n = n2 at *
  have hself : mb w2 1452 (fun k => gA w2 24 (1452 + k)) = w2 := mb_self
  have hhas := m_hasOf (fu := fu) (v := w2) (b := 1452) hf (by omega) hG hM2.2.1 hq (t := t) (by omega)
  rw [hself] at hhas
  have hheld := x3_heldBy hf hG hC2.2.1 hq (t := t) (by omega)
  generalize hxx : hasq q t = x at *
  have hc3 : gC (S2 (p + 32 + 1)) = 3 := hC2.2.1.1
  -- the least one
  have hle : ∃ i : Int32, ∃ j : Int32, (if x = 0 then nI 32 else nI (fo x)) = i ∧ (if x = 0 then mI 1 else nI (fo x)) = j ∧ ((i = j ∧ ∃ k, k < qn q ∧ i = nI k) ∨ (¬ (∃ k, k < qn q ∧ i = nI k) ∧ ¬ ∃ k, k < qn q ∧ j = nI k)) := by
    refine ⟨_, _, rfl, rfl, ?_⟩
    by_cases c : x = 0
    · rw [if_pos c, if_pos c]
      refine Or.inr ⟨?_, ?_⟩
      · rintro ⟨k, hk, e⟩; rw [nI_eq (by omega) (by omega)] at e; omega
      · rintro ⟨k, hk, e⟩; exact nI_nem (by omega) (by omega) (by omega) e.symm
    · rw [if_neg c, if_neg c]
      have hb := (fo_f hx).2.1 c
      rw [← hxx] at hb
      have := (hasq_bt hb).1
      rw [hxx] at this
      exact Or.inl ⟨rfl, _, this, rfl⟩
  obtain ⟨i, j, hi, hjj, hij⟩ := hle
  have etz : f_J6_numberOfTrailingZeros_0f7a4 fu (nI x) = some i := by
    rw [tz256 hx, ← hi]; split <;> rfl
  have elz := lz256 (fu := fu) hx
  have e31 : nI 31 - nI (if x = 0 then 32 else 31 - ho x) = if x = 0 then mI 1 else nI (ho x) := by
    have := (ho_f hx).1
    by_cases c : x = 0
    · rw [if_pos c, if_pos c]; decide
    · rw [if_neg c, if_neg c, pk_sub (by omega)]; congr 1; omega
  -- the model runs into _36
  have key : ∀ (c : Bool) (w' : GV), f_X13_drawsNight_36 fu w2 (nI t) (nI dd) (nI x) j = some (b01 c, w') → (∀ r4 v5, f_X13_draw fu w (nI 4) = some (r4, v5) → (bd (f_X13_hasOf fu v5 (nI 1452) (nI t)) fun r6 => if r6 = nI 0 then f_X13_drawsNight_36 fu v5 (nI t) r4 r6 (mI 1) else bd (f_X13_firstOf fu r6) fun r8 => f_X13_drawsNight_36 fu v5 (nI t) r4 r6 r8) = some (b01 c, w')) := by
    intro c w' h r4 v5 e
    rw [hdm] at e
    cases e
    rw [hhas, bd_s]
    by_cases c0 : x = 0
    · rw [if_pos c0] at hjj
      rw [if_pos (by rw [c0]), hjj]; exact h
    · rw [if_neg c0] at hjj
      rw [if_neg (by rw [nI_eq (by omega) (by omega)]; exact c0), m_firstOf hf hx c0, bd_s, hjj]; exact h
  have hk := (hC2.2.2.1.2.2.2.2.1 t ht).1
  have hk4 := (hG.2.2.2.1 t ht).1
  have hns := hC2.2.2.1.2.1
  have hs8 := hG.1
  have mkd := m_kind (fu := fu) hM2.2.2.1 hG ht
  have mns := x13_spots (fu := fu) hM2.2.2.1.1
  rcases (show dd = 0 ∨ dd = 1 ∨ dd = 2 ∨ dd = 3 by omega) with rfl | rfl | hdd
  · -- paint
    by_cases s0 : ns G = 0
    · refine ⟨q, n2, false, S2, w2, hq, hd, ?_, by rw [z0]; exact hC2, hM2, key _ _ ?_⟩
      · have e : nI (ns G) ≤ nI 0 := by rw [s0]; decide
        simp (disch := omega) only [f_X11_act, f_X11_act_0, ↓lm_1, ↓lm_2, ↓lm_3, ↓lm_4, ↓lm_5, ↓lm_6, ↓lm_7, ↓lm_8, ↓lm_9, ↓lm_10, ↓lm_11, li_0, li_1, li_2, li_3, li_4, li_5, li_6, li_7, li_8, li_9, li_10, li_11, li_12, li_13, li_14, li_15, li_16, li_17, li_18, li_19, li_20, li_21, li_22, li_23, li_24, li_25, li_26, li_27, li_28, li_29, li_30, li_31, li_32, li_33, li_34, li_35, li_36, li_37, li_38, li_39, li_40, li_41, li_42, li_43, li_44, li_45, li_46, li_47, li_48, li_49, li_50, li_51, li_52, li_53, li_54, li_55, li_56, li_57, li_58, li_59, li_60, li_61, li_62, li_63, li_64, li_65, li_66, li_96, li_97, li_99, li_100, li_122, li_125, li_126, li_140, li_255, li_256, li_999, li_1000, li_1001, li_1002, li_1100, li_1386, li_1452, li_1518, li_9999, li_1000000, hdr, bd2_s, ↓nm_eq, hS2, hc3, decide_true, ck_t, hheld, bd_s, etz, elz, nI_eq, Nat.zero_ne_one, ↓reduceIte, hns, e]
      · have e : nI (ns G) ≤ nI 0 := by rw [s0]; decide
        have e1 : nI 0 ≤ nI 1 := by decide
        simp (disch := omega) only [f_X13_drawsNight_36, f_X13_drawsNight_114, f_X13_drawsNight_156, f_X13_drawsNight_187, ↓lm_1, ↓lm_2, ↓lm_3, ↓lm_4, ↓lm_5, ↓lm_6, ↓lm_7, ↓lm_8, ↓lm_9, ↓lm_10, ↓lm_11, li_0, li_1, li_2, li_3, li_4, li_5, li_6, li_7, li_8, li_9, li_10, li_11, li_12, li_13, li_14, li_15, li_16, li_17, li_18, li_19, li_20, li_21, li_22, li_23, li_24, li_25, li_26, li_27, li_28, li_29, li_30, li_31, li_32, li_33, li_34, li_35, li_36, li_37, li_38, li_39, li_40, li_41, li_42, li_43, li_44, li_45, li_46, li_47, li_48, li_49, li_50, li_51, li_52, li_53, li_54, li_55, li_56, li_57, li_58, li_59, li_60, li_61, li_62, li_63, li_64, li_65, li_66, li_96, li_97, li_99, li_100, li_122, li_125, li_126, li_140, li_255, li_256, li_999, li_1000, li_1001, li_1002, li_1100, li_1386, li_1452, li_1518, li_9999, li_1000000, ↓reduceIte, mns, bd_s, e, nI_eq, Nat.zero_ne_one, e1, b01_f]
    · have e : ¬ nI (ns G) ≤ nI 0 := nI_ge (by omega) (by omega)
      have hdr3 := x11_draw (fu := fu) (w := S2 (p + 32)) hC2.2.2.2.2.2.1 hd (m := ns G) (by omega) (by omega)
      have hdm3 := m_draw (fu := fu) (w := w2) hM2.2.2.2 hd (m := ns G) (by omega) (by omega)
      have hC3 := YC_a hC2 (v := sJ (S2 (p + 32)) 1 (lN (dr n2))) (n' := dr n2) (z' := z) hC2.2.2.2.1 (by rw [gJ_sJ, if_pos rfl]) hC2.2.2.2.2.2.2
      have hM3 : YM G w0 (sJ w2 40 (lN (dr n2))) q (dr n2) := YM_j hM2
      have hd3 := dr_lt n2
      have hsm : dr n2 / 65536 % ns G < ns G := Nat.mod_lt _ (by omega)
      generalize hS3 : st S2 (p + 32) (sJ (S2 (p + 32)) 1 (lN (dr n2))) = S3 at *
      generalize hw3 : sJ w2 40 (lN (dr n2)) = w3 at *
      generalize dr n2 / 65536 % ns G = s at *
      generalize dr n2 = n3 at *
      have hself3 : mb w3 1452 (fun k => gA w3 24 (1452 + k)) = w3 := mb_self
      have mkd3 := m_kind (fu := fu) hM3.2.2.1 hG ht
      have mh3 := m_hanging (fu := fu) (v := w3) (b := 1452) hf (by omega) hG hM3.2.1 hq
      rw [hself3] at mh3
      -- what is to be copied
      have hco : ∃ i2 j2 : Int32, (if kd G t = 3 then nI (qj q) else i) = i2 ∧ (if kd G t = 3 then nI (qj q) else j) = j2 ∧ ((i2 = j2 ∧ ∃ k, k < qn q ∧ i2 = nI k) ∨ (¬ (∃ k, k < qn q ∧ i2 = nI k) ∧ ¬ ∃ k, k < qn q ∧ j2 = nI k)) := by
        refine ⟨_, _, rfl, rfl, ?_⟩
        by_cases c : kd G t = 3
        · rw [if_pos c, if_pos c]; exact Or.inl ⟨rfl, _, hj, rfl⟩
        · rw [if_neg c, if_neg c]; exact hij
      obtain ⟨i2, j2, hi2, hj2, hij2⟩ := hco
      have act : f_X11_act fu S (p + 32) g (nI t) = bd2 (f_X3_copyOf fu S3 (p + 32 + 1) g (nI t) i2 (nI s)) fun _ S5 => some S5 := by
        have hh := hC2.2.1.2.2.2.1
        simp (disch := omega) only [f_X11_act, f_X11_act_0, f_X11_act_118, ↓lm_1, ↓lm_2, ↓lm_3, ↓lm_4, ↓lm_5, ↓lm_6, ↓lm_7, ↓lm_8, ↓lm_9, ↓lm_10, ↓lm_11, li_0, li_1, li_2, li_3, li_4, li_5, li_6, li_7, li_8, li_9, li_10, li_11, li_12, li_13, li_14, li_15, li_16, li_17, li_18, li_19, li_20, li_21, li_22, li_23, li_24, li_25, li_26, li_27, li_28, li_29, li_30, li_31, li_32, li_33, li_34, li_35, li_36, li_37, li_38, li_39, li_40, li_41, li_42, li_43, li_44, li_45, li_46, li_47, li_48, li_49, li_50, li_51, li_52, li_53, li_54, li_55, li_56, li_57, li_58, li_59, li_60, li_61, li_62, li_63, li_64, li_65, li_66, li_96, li_97, li_99, li_100, li_122, li_125, li_126, li_140, li_255, li_256, li_999, li_1000, li_1001, li_1002, li_1100, li_1386, li_1452, li_1518, li_9999, li_1000000, hdr, bd2_s, ↓nm_eq, hS2, hc3, decide_true, ck_t, hheld, bd_s, etz, elz, nI_eq, Nat.zero_ne_one, ↓reduceIte, hns, e, inb_n, nI_clamp, hk, hh, hdr3, hS3]
        rw [← hi2]
        by_cases c : kd G t = 3
        · rw [if_pos c, if_pos c]
        · rw [if_neg c, if_neg c]
      have mod : f_X13_drawsNight_36 fu w2 (nI t) (nI 0) (nI x) j = f_X13_drawsNight_81 fu w3 (nI t) (nI s) j2 := by
        simp (disch := omega) only [f_X13_drawsNight_36, ↓lm_1, ↓lm_2, ↓lm_3, ↓lm_4, ↓lm_5, ↓lm_6, ↓lm_7, ↓lm_8, ↓lm_9, ↓lm_10, ↓lm_11, li_0, li_1, li_2, li_3, li_4, li_5, li_6, li_7, li_8, li_9, li_10, li_11, li_12, li_13, li_14, li_15, li_16, li_17, li_18, li_19, li_20, li_21, li_22, li_23, li_24, li_25, li_26, li_27, li_28, li_29, li_30, li_31, li_32, li_33, li_34, li_35, li_36, li_37, li_38, li_39, li_40, li_41, li_42, li_43, li_44, li_45, li_46, li_47, li_48, li_49, li_50, li_51, li_52, li_53, li_54, li_55, li_56, li_57, li_58, li_59, li_60, li_61, li_62, li_63, li_64, li_65, li_66, li_96, li_97, li_99, li_100, li_122, li_125, li_126, li_140, li_255, li_256, li_999, li_1000, li_1001, li_1002, li_1100, li_1386, li_1452, li_1518, li_9999, li_1000000, ↓reduceIte, mns, bd_s, e, hdm3, bd2_s, mkd3, nI_eq, mh3]
        rw [← hj2]
        by_cases c : kd G t = 3
        · rw [if_pos c, if_pos c]
        · rw [if_neg c, if_neg c]
      rcases hij2 with ⟨rfl, k, hkq, rfl⟩ | ⟨h1, h2⟩
      · obtain ⟨F, P, ms⟩ := m_mayPaint (fu := fu) (v := w3) (b := 1452) (s := s) hf (by omega) hM3.2.2.1 hG hM3.2.1 hq ht hkq
        rw [hself3] at ms
        rcases x3_copyOf (fu := fu) hf hC3.2.1 hq hC3.2.2.1 hG ht hkq hsm with ⟨e1, S', e3, e4, e5⟩ | ⟨e1, S', e3, e4⟩
        · rcases ms with ⟨_, em⟩ | ⟨c, _⟩
          · have hB2 : MH (fun k => gA (mv w3 1452 F P (fun k => gA w3 24 (1452 + k))) 24 (1452 + k)) q := BH_mv h8 hM3.2.1
            obtain ⟨h', es, eh⟩ := m_paints (fu := fu) (v := mv w3 1452 F P (fun k => gA w3 24 (1452 + k))) (b := 1452) (t := t) (by omega) hG hB2 hq hkq e1.1 (show s < 8 by omega)
            rw [mb_self] at es
            have ok := okq_paint hG hq ht hkq (show s < 8 by omega) e1.1
            refine ⟨_, n3, false, S', mb (mv w3 1452 F P (fun k => gA w3 24 (1452 + k))) 1452 h', ok, hd3, ?_, ?_, ?_, key _ _ ?_⟩
            · rw [act, e3, bd2_s]
            · rw [z0]; exact YC_h hC3 e4 e5
            · exact YM_b' (YM_b hM3 h8 hM3.2.1) ok.1.2.1 eh
            · rw [mod]
              simp only [f_X13_drawsNight_81, f_X13_drawsNight_111, f_X13_drawsNight_187, ↓lm_1, ↓lm_2, ↓lm_3, ↓lm_4, ↓lm_5, ↓lm_6, ↓lm_7, ↓lm_8, ↓lm_9, ↓lm_10, ↓lm_11, li_0, li_1, li_2, li_3, li_4, li_5, li_6, li_7, li_8, li_9, li_10, li_11, li_12, li_13, li_14, li_15, li_16, li_17, li_18, li_19, li_20, li_21, li_22, li_23, li_24, li_25, li_26, li_27, li_28, li_29, li_30, li_31, li_32, li_33, li_34, li_35, li_36, li_37, li_38, li_39, li_40, li_41, li_42, li_43, li_44, li_45, li_46, li_47, li_48, li_49, li_50, li_51, li_52, li_53, li_54, li_55, li_56, li_57, li_58, li_59, li_60, li_61, li_62, li_63, li_64, li_65, li_66, li_96, li_97, li_99, li_100, li_122, li_125, li_126, li_140, li_255, li_256, li_999, li_1000, li_1001, li_1002, li_1100, li_1386, li_1452, li_1518, li_9999, li_1000000, em, bd2_s, n10, ↓reduceIte, es, b01_f]
          · exact absurd e1 c
        · rcases ms with ⟨c, _⟩ | ⟨_, em⟩
          · exact absurd c e1
          · refine ⟨q, n3, false, S', mv w3 1452 F P (fun k => gA w3 24 (1452 + k)), hq, hd3, ?_, ?_, YM_b hM3 h8 hM3.2.1, key _ _ ?_⟩
            · rw [act, e3, bd2_s]
            · rw [z0]
              refine YC_h hC3 (fra_lw e4) ?_
              rw [lw_at e4 (by rw [hC3.2.1.1]; decide)]; exact hC3.2.1
            · rw [mod]
              simp only [f_X13_drawsNight_81, f_X13_drawsNight_111, f_X13_drawsNight_187, ↓lm_1, ↓lm_2, ↓lm_3, ↓lm_4, ↓lm_5, ↓lm_6, ↓lm_7, ↓lm_8, ↓lm_9, ↓lm_10, ↓lm_11, li_0, li_1, li_2, li_3, li_4, li_5, li_6, li_7, li_8, li_9, li_10, li_11, li_12, li_13, li_14, li_15, li_16, li_17, li_18, li_19, li_20, li_21, li_22, li_23, li_24, li_25, li_26, li_27, li_28, li_29, li_30, li_31, li_32, li_33, li_34, li_35, li_36, li_37, li_38, li_39, li_40, li_41, li_42, li_43, li_44, li_45, li_46, li_47, li_48, li_49, li_50, li_51, li_52, li_53, li_54, li_55, li_56, li_57, li_58, li_59, li_60, li_61, li_62, li_63, li_64, li_65, li_66, li_96, li_97, li_99, li_100, li_122, li_125, li_126, li_140, li_255, li_256, li_999, li_1000, li_1001, li_1002, li_1100, li_1386, li_1452, li_1518, li_9999, li_1000000, em, bd2_s, ↓reduceIte, b01_f]
      · have e3 := x3_copyOf_out (fu := fu) hC3.2.1 hq hC3.2.2.1 hG (x := nI t) (y := i2) (z := nI s) (fun c => h1 c.2.1)
        have em := m_mayPaint_out (fu := fu) (v := w3) (b := 1452) (by omega) hM3.2.1 hq (x := nI t) (z := nI s) h2
        rw [hself3] at em
        refine ⟨q, n3, false, S3, w3, hq, hd3, ?_, by rw [z0]; exact hC3, hM3, key _ _ ?_⟩
        · rw [act, e3, bd2_s]
        · rw [mod]
          simp only [f_X13_drawsNight_81, f_X13_drawsNight_111, f_X13_drawsNight_187, ↓lm_1, ↓lm_2, ↓lm_3, ↓lm_4, ↓lm_5, ↓lm_6, ↓lm_7, ↓lm_8, ↓lm_9, ↓lm_10, ↓lm_11, li_0, li_1, li_2, li_3, li_4, li_5, li_6, li_7, li_8, li_9, li_10, li_11, li_12, li_13, li_14, li_15, li_16, li_17, li_18, li_19, li_20, li_21, li_22, li_23, li_24, li_25, li_26, li_27, li_28, li_29, li_30, li_31, li_32, li_33, li_34, li_35, li_36, li_37, li_38, li_39, li_40, li_41, li_42, li_43, li_44, li_45, li_46, li_47, li_48, li_49, li_50, li_51, li_52, li_53, li_54, li_55, li_56, li_57, li_58, li_59, li_60, li_61, li_62, li_63, li_64, li_65, li_66, li_96, li_97, li_99, li_100, li_122, li_125, li_126, li_140, li_255, li_256, li_999, li_1000, li_1001, li_1002, li_1100, li_1386, li_1452, li_1518, li_9999, li_1000000, em, bd2_s, ↓reduceIte, b01_f]
  · -- sell
    have act : f_X11_act fu S (p + 32) g (nI t) = bd2 (f_X3_sale fu S2 (p + 32 + 1) g (nI t) (if x = 0 then mI 1 else nI (ho x))) fun _ S17 => some S17 := by
      simp (disch := omega) only [f_X11_act, f_X11_act_0, ↓lm_1, ↓lm_2, ↓lm_3, ↓lm_4, ↓lm_5, ↓lm_6, ↓lm_7, ↓lm_8, ↓lm_9, ↓lm_10, ↓lm_11, li_0, li_1, li_2, li_3, li_4, li_5, li_6, li_7, li_8, li_9, li_10, li_11, li_12, li_13, li_14, li_15, li_16, li_17, li_18, li_19, li_20, li_21, li_22, li_23, li_24, li_25, li_26, li_27, li_28, li_29, li_30, li_31, li_32, li_33, li_34, li_35, li_36, li_37, li_38, li_39, li_40, li_41, li_42, li_43, li_44, li_45, li_46, li_47, li_48, li_49, li_50, li_51, li_52, li_53, li_54, li_55, li_56, li_57, li_58, li_59, li_60, li_61, li_62, li_63, li_64, li_65, li_66, li_96, li_97, li_99, li_100, li_122, li_125, li_126, li_140, li_255, li_256, li_999, li_1000, li_1001, li_1002, li_1100, li_1386, li_1452, li_1518, li_9999, li_1000000, hdr, bd2_s, ↓nm_eq, hS2, hc3, decide_true, ck_t, hheld, bd_s, etz, elz, ↓reduceIte, e31]
    by_cases c : x = 0
    · have ho0 : ¬ ((∃ j, j < nt G ∧ nI t = nI j) ∧ ∃ j, j < qn q ∧ mI 1 = nI j) := by
        rintro ⟨_, k, hk, e⟩; exact nI_nem (by omega) (by omega) (by omega) e.symm
      have e3 := x3_sale_out (fu := fu) hC2.2.1 hq hC2.2.2.1 hG ho0
      refine ⟨q, n2, false, S2, w2, hq, hd, ?_, by rw [z0]; exact hC2, hM2, key _ _ ?_⟩
      · rw [act, if_pos c, e3, bd2_s]
      · have e1 : nI 1 ≤ nI 1 := by decide
        simp (disch := omega) only [f_X13_drawsNight_36, f_X13_drawsNight_114, f_X13_drawsNight_156, f_X13_drawsNight_187, ↓lm_1, ↓lm_2, ↓lm_3, ↓lm_4, ↓lm_5, ↓lm_6, ↓lm_7, ↓lm_8, ↓lm_9, ↓lm_10, ↓lm_11, li_0, li_1, li_2, li_3, li_4, li_5, li_6, li_7, li_8, li_9, li_10, li_11, li_12, li_13, li_14, li_15, li_16, li_17, li_18, li_19, li_20, li_21, li_22, li_23, li_24, li_25, li_26, li_27, li_28, li_29, li_30, li_31, li_32, li_33, li_34, li_35, li_36, li_37, li_38, li_39, li_40, li_41, li_42, li_43, li_44, li_45, li_46, li_47, li_48, li_49, li_50, li_51, li_52, li_53, li_54, li_55, li_56, li_57, li_58, li_59, li_60, li_61, li_62, li_63, li_64, li_65, li_66, li_96, li_97, li_99, li_100, li_122, li_125, li_126, li_140, li_255, li_256, li_999, li_1000, li_1001, li_1002, li_1100, li_1386, li_1452, li_1518, li_9999, li_1000000, n10, c, ↓reduceIte, e1, b01_f]
    · obtain ⟨h1, h2, h3⟩ := ho_f hx
      have hb := h2 c
      rw [← hxx] at hb
      obtain ⟨hkq, hkt⟩ := hasq_bt hb
      rw [hxx] at hkq hkt
      rcases x3_sale (fu := fu) hf hC2.2.1 hq hC2.2.2.1 hG ht hkq with ⟨e1, S', e3, e4, e5⟩ | ⟨e1, e3⟩
      · obtain ⟨F, P, h', es, eh⟩ := m_sells (v := w2) (b := 1452) hf (by omega) hM2.2.2.1 hG hM2.2.1 hq ht hkq
        rw [hself] at es
        have ok := okq_sell hG hq ht hkq hkt
        refine ⟨_, n2, false, S', mv w2 1452 F P h', ok, hd, ?_, ?_, YM_b hM2 ok.1.2.1 eh, key _ _ ?_⟩
        · rw [act, if_neg c, e3, bd2_s]
        · rw [z0]; exact YC_h hC2 e4 e5
        · have c' : ¬ nI x = nI 0 := by rw [nI_eq (by omega) (by omega)]; exact c
          simp (disch := omega) only [f_X13_drawsNight_36, f_X13_drawsNight_114, ↓lm_1, ↓lm_2, ↓lm_3, ↓lm_4, ↓lm_5, ↓lm_6, ↓lm_7, ↓lm_8, ↓lm_9, ↓lm_10, ↓lm_11, li_0, li_1, li_2, li_3, li_4, li_5, li_6, li_7, li_8, li_9, li_10, li_11, li_12, li_13, li_14, li_15, li_16, li_17, li_18, li_19, li_20, li_21, li_22, li_23, li_24, li_25, li_26, li_27, li_28, li_29, li_30, li_31, li_32, li_33, li_34, li_35, li_36, li_37, li_38, li_39, li_40, li_41, li_42, li_43, li_44, li_45, li_46, li_47, li_48, li_49, li_50, li_51, li_52, li_53, li_54, li_55, li_56, li_57, li_58, li_59, li_60, li_61, li_62, li_63, li_64, li_65, li_66, li_96, li_97, li_99, li_100, li_122, li_125, li_126, li_140, li_255, li_256, li_999, li_1000, li_1001, li_1002, li_1100, li_1386, li_1452, li_1518, li_9999, li_1000000, n10, c', ↓reduceIte, m_most hf hx c es, b01_f]
      · exact absurd hkt e1
  · -- steal
    have d1 : ¬ nI dd = nI 1 := by rw [nI_eq (by omega) (by omega)]; omega
    have d0 : ¬ nI dd = nI 0 := by rw [nI_eq (by omega) (by omega)]; omega
    have d2 : ¬ nI dd ≤ nI 1 := nI_ge (by omega) (by omega)
    have z2 : gI (S2 (p + 32)) 2 = z := hC2.2.2.2.2.2.2
    have act : f_X11_act fu S (p + 32) g (nI t) = bd2 (f_X3_swap fu S2 (p + 32 + 1) g (nI t) i) fun r13 S14 => if r13 = mI 1 then some (st S14 (p + 32) (sI (S14 (p + 32)) 2 (z + nI 0))) else some (st S14 (p + 32) (sI (S14 (p + 32)) 2 (z + nI 1))) := by
      simp (disch := omega) only [f_X11_act, f_X11_act_0, f_X11_act_82, ↓lm_1, ↓lm_2, ↓lm_3, ↓lm_4, ↓lm_5, ↓lm_6, ↓lm_7, ↓lm_8, ↓lm_9, ↓lm_10, ↓lm_11, li_0, li_1, li_2, li_3, li_4, li_5, li_6, li_7, li_8, li_9, li_10, li_11, li_12, li_13, li_14, li_15, li_16, li_17, li_18, li_19, li_20, li_21, li_22, li_23, li_24, li_25, li_26, li_27, li_28, li_29, li_30, li_31, li_32, li_33, li_34, li_35, li_36, li_37, li_38, li_39, li_40, li_41, li_42, li_43, li_44, li_45, li_46, li_47, li_48, li_49, li_50, li_51, li_52, li_53, li_54, li_55, li_56, li_57, li_58, li_59, li_60, li_61, li_62, li_63, li_64, li_65, li_66, li_96, li_97, li_99, li_100, li_122, li_125, li_126, li_140, li_255, li_256, li_999, li_1000, li_1001, li_1002, li_1100, li_1386, li_1452, li_1518, li_9999, li_1000000, hdr, bd2_s, ↓nm_eq, hS2, hc3, decide_true, ck_t, hheld, bd_s, etz, elz, d1, d0, ↓reduceIte, z2]
    have mod : f_X13_drawsNight_36 fu w2 (nI t) (nI dd) (nI x) j = bd (f_X13_maySteal fu w2 (nI 1452) (nI t) j) fun r2 => if r2 = nI 0 then some (nI 0, w2) else bd2 (f_X13_steals fu w2 (nI 1452) (nI t) j) fun _ v5 => some (nI 1, v5) := by
      simp (disch := omega) only [f_X13_drawsNight_36, f_X13_drawsNight_114, f_X13_drawsNight_156, f_X13_drawsNight_187, ↓lm_1, ↓lm_2, ↓lm_3, ↓lm_4, ↓lm_5, ↓lm_6, ↓lm_7, ↓lm_8, ↓lm_9, ↓lm_10, ↓lm_11, li_0, li_1, li_2, li_3, li_4, li_5, li_6, li_7, li_8, li_9, li_10, li_11, li_12, li_13, li_14, li_15, li_16, li_17, li_18, li_19, li_20, li_21, li_22, li_23, li_24, li_25, li_26, li_27, li_28, li_29, li_30, li_31, li_32, li_33, li_34, li_35, li_36, li_37, li_38, li_39, li_40, li_41, li_42, li_43, li_44, li_45, li_46, li_47, li_48, li_49, li_50, li_51, li_52, li_53, li_54, li_55, li_56, li_57, li_58, li_59, li_60, li_61, li_62, li_63, li_64, li_65, li_66, li_96, li_97, li_99, li_100, li_122, li_125, li_126, li_140, li_255, li_256, li_999, li_1000, li_1001, li_1002, li_1100, li_1386, li_1452, li_1518, li_9999, li_1000000, d1, d0, d2, ↓reduceIte]
    have still : f_X3_swap fu S2 (p + 32 + 1) g (nI t) i = some (mI 1, S2) → f_X13_maySteal fu w2 (nI 1452) (nI t) j = some (nI 0) → ∃ q' n' c S' w', okq G q' ∧ n' < 2147483648 ∧ f_X11_act fu S (p + 32) g (nI t) = some S' ∧ YC p g G S0 S' q' n' (z + b01 c) ∧ YM G w0 w' q' n' ∧ (∀ r4 v5, f_X13_draw fu w (nI 4) = some (r4, v5) → (bd (f_X13_hasOf fu v5 (nI 1452) (nI t)) fun r6 => if r6 = nI 0 then f_X13_drawsNight_36 fu v5 (nI t) r4 r6 (mI 1) else bd (f_X13_firstOf fu r6) fun r8 => f_X13_drawsNight_36 fu v5 (nI t) r4 r6 r8) = some (b01 c, w')) := by
      intro e3 em
      refine ⟨q, n2, false, st S2 (p + 32) (sI (S2 (p + 32)) 2 (z + nI 0)), w2, hq, hd, ?_, ?_, hM2, key _ _ ?_⟩
      rotate_left
      · exact YC_a hC2 (v := sI (S2 (p + 32)) 2 (z + nI 0)) hC2.2.2.2.1 hC2.2.2.2.2.2.1 (by rw [gI_sI, if_pos rfl]; rfl)
      · rw [mod, em, bd_s, if_pos rfl, b01_f]
      · rw [act, e3, bd2_s, if_pos rfl]
    rcases hij with ⟨rfl, k, hkq, rfl⟩ | ⟨h1, h2⟩
    · have ms := m_maySteal_in (fu := fu) (v := w2) (b := 1452) (by omega) hM2.2.2.1 hG hM2.2.1 hq ht hkq
      rw [hself] at ms
      rcases x3_swap (fu := fu) hC2.2.1 hq hC2.2.2.1 hG ht hkq with ⟨e1, e2, S', e3, e4, e5⟩ | ⟨e1, e3⟩
      · rcases ms with ⟨_, em⟩ | ⟨c, _⟩
        · obtain ⟨h', es, eh⟩ := m_steals (v := w2) (b := 1452) hf (by omega) hM2.2.2.1 hG hM2.2.1 hq ht hkq e1
          rw [hself] at es
          have ok := okq_swap hG hq ht hkq e1
          have hz : ¬ nI (qj q) = mI 1 := nI_nem (by omega) (by omega) (by omega)
          have hC3 := YC_h hC2 e4 e5
          refine ⟨_, n2, true, st S' (p + 32) (sI (S' (p + 32)) 2 (z + nI 1)), mb w2 1452 h', ok, hd, ?_, ?_, YM_b' hM2 ok.1.2.1 eh, key _ _ ?_⟩
          rotate_left
          · exact YC_a hC3 (v := sI (S' (p + 32)) 2 (z + nI 1)) hC3.2.2.2.1 hC3.2.2.2.2.2.1 (by rw [gI_sI, if_pos rfl]; rfl)
          · rw [mod, em, bd_s, if_neg n10, es, bd2_s, b01_t]
          · rw [act, e3, bd2_s, if_neg hz]
        · exact absurd ⟨e1, e2⟩ c
      · rcases ms with ⟨c, _⟩ | ⟨_, em⟩
        · exact absurd c e1
        · exact still e3 em
    · have em := m_maySteal_out (fu := fu) (v := w2) (b := 1452) (by omega) hM2.2.2.1 hG hM2.2.1 hq ht h2
      rw [hself] at em
      exact still (x3_swap_out (fu := fu) hC2.2.1 hq hC2.2.2.1 hG (fun c => h1 c.2)) em
/-- a night of the years, class and model, and the nights behind it -/
theorem y_nights {S0 : ST} {w0 : GV} (hf : 1101 ≤ fu) (hG : okG G) {N a : Nat} (hN : N ≤ 60) (ha : a < 3) : ∀ m k, k + m = N → ∀ n1 n2, m < n1 → m < n2 → ∀ (S : ST) (w : GV) (q : HP) (n : Nat) (z : Int32), okq G q → n < 2147483648 → YC p g G S0 S q n z → YM G w0 w q n → ∃ x S' w' q' n' z', okq G q' ∧ f_X11_pass_22 fu n1 (p + 32) (p + 9) g (nI N) (nI k) S = some S' ∧ YC p g G S0 S' q' n' z' ∧ x = (if a = 0 then z' else if a = 1 then csum (qc q') 5 else nI (pcn (qo q' (qj q')))) ∧ f_X13_years_59 fu n2 (nI N) (nI a) z (nI k) w = some (x, w') ∧ mscr w0 w' := by
  intro m
  induction m with
  | zero =>
    intro k hk n1 n2 h1 h2 S w q n z hq hn hC hM
    obtain ⟨n1, rfl⟩ : ∃ n, n1 = n + 1 := ⟨n1 - 1, by omega⟩
    obtain ⟨n2, rfl⟩ : ∃ n, n2 = n + 1 := ⟨n2 - 1, by omega⟩
    have hkk : k = N := by omega
    subst hkk
    have hj := hq.1.2.2.1
    have h8 := hq.1.2.1
    have hself : mb w 1452 (fun k => gA w 24 (1452 + k)) = w := mb_self
    refine ⟨_, S, w, q, n, z, hq, ?_, hC, rfl, ?_, hM.1⟩
    · simp (disch := omega) only [f_X11_pass_22, lq2_s, f_X11_pass_22s, nI_leI, Nat.le_refl, ↓reduceIte]
    · have eh := m_hanging (fu := fu) (v := w) (b := 1452) hf (by omega) hG hM.2.1 hq
      have ec := m_coinsOf (fu := fu) (v := w) (b := 1452) hf (by omega) hM.2.2.1 hG hM.2.1 hq
      rw [hself] at eh ec
      have li : (1455 : Int32) = nI 1455 := by decide
      have e3 : gA w 24 (1455 + qj q) = nI (qo q (qj q)) := by
        have := (hM.2.1.2.2.2.1 (qj q) hj).1
        rwa [show 1455 + qj q = 1452 + (3 + qj q) by omega]
      have b1 := (hq.2.1 (qj q) hj).1
      simp (disch := omega) only [f_X13_years_59, lq3_s, f_X13_years_59s, ↓lm_1, ↓lm_2, ↓lm_3, ↓lm_4, ↓lm_5, ↓lm_6, ↓lm_7, ↓lm_8, ↓lm_9, ↓lm_10, ↓lm_11, li_0, li_1, li_2, li_3, li_4, li_5, li_6, li_7, li_8, li_9, li_10, li_11, li_12, li_13, li_14, li_15, li_16, li_17, li_18, li_19, li_20, li_21, li_22, li_23, li_24, li_25, li_26, li_27, li_28, li_29, li_30, li_31, li_32, li_33, li_34, li_35, li_36, li_37, li_38, li_39, li_40, li_41, li_42, li_43, li_44, li_45, li_46, li_47, li_48, li_49, li_50, li_51, li_52, li_53, li_54, li_55, li_56, li_57, li_58, li_59, li_60, li_61, li_62, li_63, li_64, li_65, li_66, li_96, li_97, li_99, li_100, li_122, li_125, li_126, li_140, li_255, li_256, li_999, li_1000, li_1001, li_1002, li_1100, li_1386, li_1452, li_1518, li_9999, li_1000000, li, nI_leI, Nat.le_refl, ↓reduceIte, nI_eq, eh, ec, bd_s, nI_add, nm_eq, inb_n, ck_t, nI_clamp, e3, x13_bits]
      by_cases a0 : a = 0
      · rw [if_pos a0, if_pos a0]
      · rw [if_neg a0, if_neg a0]
        by_cases a1 : a = 1
        · rw [if_pos a1, if_pos a1]
        · rw [if_neg a1, if_neg a1]
  | succ m ih =>
    intro k hk n1 n2 h1 h2 S w q n z hq hn hC hM
    obtain ⟨n1, rfl⟩ : ∃ n, n1 = n + 1 := ⟨n1 - 1, by omega⟩
    obtain ⟨n2, rfl⟩ : ∃ n, n2 = n + 1 := ⟨n2 - 1, by omega⟩
    have h5 := hG.2.1
    have hl : ¬ nI N ≤ nI k := nI_ge (by omega) (by omega)
    have hth := hC.2.2.1.2.2.1
    have mth := x13_thieves (fu := fu) hM.2.2.1.2.1
    -- the deeds of the night
    have deeds : ∃ q1 n' c S1 w1, okq G q1 ∧ n' < 2147483648 ∧ YC p g G S0 S1 q1 n' (z + b01 c) ∧ YM G w0 w1 q1 n' ∧ f_X11_pass_22 fu (n1 + 1) (p + 32) (p + 9) g (nI N) (nI k) S = f_X11_pass_49 fu (f_X11_pass_22 fu n1 (p + 32) (p + 9) g (nI N)) S1 (p + 32) (p + 9) g (nI N) (nI k) ∧ f_X13_years_59 fu (n2 + 1) (nI N) (nI a) z (nI k) w = f_X13_years_86 fu (f_X13_years_59 fu n2 (nI N) (nI a)) w1 (nI N) (nI a) (nI k) z (b01 c) := by
      by_cases c0 : nt G = 0
      · refine ⟨q, n, false, S, w, hq, hn, by rw [b01_f, show z + nI 0 = z from Int32.add_zero z]; exact hC, hM, ?_, ?_⟩
        · have e : nI (nt G) ≤ nI 0 := by rw [c0]; decide
          simp only [f_X11_pass_22, lq2_s, f_X11_pass_22s, ↓lm_1, ↓lm_2, ↓lm_3, ↓lm_4, ↓lm_5, ↓lm_6, ↓lm_7, ↓lm_8, ↓lm_9, ↓lm_10, ↓lm_11, li_0, li_1, li_2, li_3, li_4, li_5, li_6, li_7, li_8, li_9, li_10, li_11, li_12, li_13, li_14, li_15, li_16, li_17, li_18, li_19, li_20, li_21, li_22, li_23, li_24, li_25, li_26, li_27, li_28, li_29, li_30, li_31, li_32, li_33, li_34, li_35, li_36, li_37, li_38, li_39, li_40, li_41, li_42, li_43, li_44, li_45, li_46, li_47, li_48, li_49, li_50, li_51, li_52, li_53, li_54, li_55, li_56, li_57, li_58, li_59, li_60, li_61, li_62, li_63, li_64, li_65, li_66, li_96, li_97, li_99, li_100, li_122, li_125, li_126, li_140, li_255, li_256, li_999, li_1000, li_1001, li_1002, li_1100, li_1386, li_1452, li_1518, li_9999, li_1000000, hl, ↓reduceIte, hth, e]
        · have e : nI (nt G) ≤ nI 0 := by rw [c0]; decide
          simp only [f_X13_years_59, lq3_s, f_X13_years_59s, f_X13_years_85, ↓lm_1, ↓lm_2, ↓lm_3, ↓lm_4, ↓lm_5, ↓lm_6, ↓lm_7, ↓lm_8, ↓lm_9, ↓lm_10, ↓lm_11, li_0, li_1, li_2, li_3, li_4, li_5, li_6, li_7, li_8, li_9, li_10, li_11, li_12, li_13, li_14, li_15, li_16, li_17, li_18, li_19, li_20, li_21, li_22, li_23, li_24, li_25, li_26, li_27, li_28, li_29, li_30, li_31, li_32, li_33, li_34, li_35, li_36, li_37, li_38, li_39, li_40, li_41, li_42, li_43, li_44, li_45, li_46, li_47, li_48, li_49, li_50, li_51, li_52, li_53, li_54, li_55, li_56, li_57, li_58, li_59, li_60, li_61, li_62, li_63, li_64, li_65, li_66, li_96, li_97, li_99, li_100, li_122, li_125, li_126, li_140, li_255, li_256, li_999, li_1000, li_1001, li_1002, li_1100, li_1386, li_1452, li_1518, li_9999, li_1000000, hl, ↓reduceIte, mth, bd_s, e, b01_f]
      · have e : ¬ nI (nt G) ≤ nI 0 := nI_ge (by omega) (by omega)
        have hdr := x11_draw (fu := fu) (w := S (p + 32)) hC.2.2.2.2.2.1 hn (m := nt G) (by omega) (by omega)
        have hdm := m_draw (fu := fu) (w := w) hM.2.2.2 hn (m := nt G) (by omega) (by omega)
        have hC2 := YC_a hC (v := sJ (S (p + 32)) 1 (lN (dr n))) (n' := dr n) (z' := z) hC.2.2.2.1 (by rw [gJ_sJ, if_pos rfl]) hC.2.2.2.2.2.2
        have hM2 : YM G w0 (sJ w 40 (lN (dr n))) q (dr n) := YM_j hM
        have htt : dr n / 65536 % nt G < nt G := Nat.mod_lt _ (by omega)
        obtain ⟨q1, n', c, S1, w1, k1, k2, k3, k4, k5, k6⟩ := y_act hf hG hq hC2 hM2 (dr_lt n) htt
        refine ⟨q1, n', c, S1, w1, k1, k2, k4, k5, ?_, ?_⟩
        · simp only [f_X11_pass_22, lq2_s, f_X11_pass_22s, ↓lm_1, ↓lm_2, ↓lm_3, ↓lm_4, ↓lm_5, ↓lm_6, ↓lm_7, ↓lm_8, ↓lm_9, ↓lm_10, ↓lm_11, li_0, li_1, li_2, li_3, li_4, li_5, li_6, li_7, li_8, li_9, li_10, li_11, li_12, li_13, li_14, li_15, li_16, li_17, li_18, li_19, li_20, li_21, li_22, li_23, li_24, li_25, li_26, li_27, li_28, li_29, li_30, li_31, li_32, li_33, li_34, li_35, li_36, li_37, li_38, li_39, li_40, li_41, li_42, li_43, li_44, li_45, li_46, li_47, li_48, li_49, li_50, li_51, li_52, li_53, li_54, li_55, li_56, li_57, li_58, li_59, li_60, li_61, li_62, li_63, li_64, li_65, li_66, li_96, li_97, li_99, li_100, li_122, li_125, li_126, li_140, li_255, li_256, li_999, li_1000, li_1001, li_1002, li_1100, li_1386, li_1452, li_1518, li_9999, li_1000000, hl, ↓reduceIte, hth, e, hdr, bd2_s, nm_eq, k3, bd_s]
        · have hdm4 := m_draw (fu := fu) (w := sJ w 40 (lN (dr n))) hM2.2.2.2 (dr_lt n) (m := 4) (by omega) (by omega)
          have ek := k6 _ _ hdm4
          have dn : f_X13_drawsNight fu w = some (b01 c, w1) := by
            rw [← ek]
            simp only [f_X13_drawsNight, f_X13_drawsNight_0, ↓lm_1, ↓lm_2, ↓lm_3, ↓lm_4, ↓lm_5, ↓lm_6, ↓lm_7, ↓lm_8, ↓lm_9, ↓lm_10, ↓lm_11, li_0, li_1, li_2, li_3, li_4, li_5, li_6, li_7, li_8, li_9, li_10, li_11, li_12, li_13, li_14, li_15, li_16, li_17, li_18, li_19, li_20, li_21, li_22, li_23, li_24, li_25, li_26, li_27, li_28, li_29, li_30, li_31, li_32, li_33, li_34, li_35, li_36, li_37, li_38, li_39, li_40, li_41, li_42, li_43, li_44, li_45, li_46, li_47, li_48, li_49, li_50, li_51, li_52, li_53, li_54, li_55, li_56, li_57, li_58, li_59, li_60, li_61, li_62, li_63, li_64, li_65, li_66, li_96, li_97, li_99, li_100, li_122, li_125, li_126, li_140, li_255, li_256, li_999, li_1000, li_1001, li_1002, li_1100, li_1386, li_1452, li_1518, li_9999, li_1000000, mth, bd_s, hdm, bd2_s, hdm4]
          simp only [f_X13_years_59, lq3_s, f_X13_years_59s, f_X13_years_85, ↓lm_1, ↓lm_2, ↓lm_3, ↓lm_4, ↓lm_5, ↓lm_6, ↓lm_7, ↓lm_8, ↓lm_9, ↓lm_10, ↓lm_11, li_0, li_1, li_2, li_3, li_4, li_5, li_6, li_7, li_8, li_9, li_10, li_11, li_12, li_13, li_14, li_15, li_16, li_17, li_18, li_19, li_20, li_21, li_22, li_23, li_24, li_25, li_26, li_27, li_28, li_29, li_30, li_31, li_32, li_33, li_34, li_35, li_36, li_37, li_38, li_39, li_40, li_41, li_42, li_43, li_44, li_45, li_46, li_47, li_48, li_49, li_50, li_51, li_52, li_53, li_54, li_55, li_56, li_57, li_58, li_59, li_60, li_61, li_62, li_63, li_64, li_65, li_66, li_96, li_97, li_99, li_100, li_122, li_125, li_126, li_140, li_255, li_256, li_999, li_1000, li_1001, li_1002, li_1100, li_1386, li_1452, li_1518, li_9999, li_1000000, hl, ↓reduceIte, mth, bd_s, e, dn, bd2_s]
          cases c
          · simp only [b01_f, ↓reduceIte]
          · simp only [b01_t, n10, ↓reduceIte]
    obtain ⟨q1, n', c, S1, w1, k1, k2, k3, k4, k5, k6⟩ := deeds
    obtain ⟨w7, e7, ch7, l7⟩ := x3_passNight (fu := fu) k3.2.1 k1
    have hself : mb w1 1452 (fun k => gA w1 24 (1452 + k)) = w1 := mb_self
    obtain ⟨h', es, eh⟩ := m_passes (v := w1) (b := 1452) hf (by omega) hG k4.2.1 k1
    rw [hself] at es
    have ok := okq_night k1
    have hc3 := k3.2.1.1
    have hC3 : YC p g G S0 (st S1 (p + 32 + 1) w7) (pnight q1) n' (z + b01 c) := YC_h k3 (fra_st (fra_refl _ _) (by rw [ch7.1, hc3]) l7) (by rw [st_same]; exact ch7)
    obtain ⟨x, S2, w2, q2, n'', z', j1, j2, j3, j4, j5, j6⟩ := ih (k + 1) (by omega) n1 n2 (by omega) (by omega) _ (mb w1 1452 h') _ n' _ ok k2 hC3 (YM_b' k4 ok.1.2.1 eh)
    refine ⟨x, S2, w2, q2, n'', z', j1, ?_, j3, j4, ?_, j6⟩
    · rw [k5, ← j2]
      simp only [f_X11_pass_49, ↓lm_1, ↓lm_2, ↓lm_3, ↓lm_4, ↓lm_5, ↓lm_6, ↓lm_7, ↓lm_8, ↓lm_9, ↓lm_10, ↓lm_11, li_0, li_1, li_2, li_3, li_4, li_5, li_6, li_7, li_8, li_9, li_10, li_11, li_12, li_13, li_14, li_15, li_16, li_17, li_18, li_19, li_20, li_21, li_22, li_23, li_24, li_25, li_26, li_27, li_28, li_29, li_30, li_31, li_32, li_33, li_34, li_35, li_36, li_37, li_38, li_39, li_40, li_41, li_42, li_43, li_44, li_45, li_46, li_47, li_48, li_49, li_50, li_51, li_52, li_53, li_54, li_55, li_56, li_57, li_58, li_59, li_60, li_61, li_62, li_63, li_64, li_65, li_66, li_96, li_97, li_99, li_100, li_122, li_125, li_126, li_140, li_255, li_256, li_999, li_1000, li_1001, li_1002, li_1100, li_1386, li_1452, li_1518, li_9999, li_1000000, hc3, decide_true, ck_t, e7, bd_s, nm_eq, nI_add]
    · rw [k6, ← j5]
      simp only [f_X13_years_86, ↓lm_1, ↓lm_2, ↓lm_3, ↓lm_4, ↓lm_5, ↓lm_6, ↓lm_7, ↓lm_8, ↓lm_9, ↓lm_10, ↓lm_11, li_0, li_1, li_2, li_3, li_4, li_5, li_6, li_7, li_8, li_9, li_10, li_11, li_12, li_13, li_14, li_15, li_16, li_17, li_18, li_19, li_20, li_21, li_22, li_23, li_24, li_25, li_26, li_27, li_28, li_29, li_30, li_31, li_32, li_33, li_34, li_35, li_36, li_37, li_38, li_39, li_40, li_41, li_42, li_43, li_44, li_45, li_46, li_47, li_48, li_49, li_50, li_51, li_52, li_53, li_54, li_55, li_56, li_57, li_58, li_59, li_60, li_61, li_62, li_63, li_64, li_65, li_66, li_96, li_97, li_99, li_100, li_122, li_125, li_126, li_140, li_255, li_256, li_999, li_1000, li_1001, li_1002, li_1100, li_1386, li_1452, li_1518, li_9999, li_1000000, nm_eq, es, bd_s, nI_add]
end Y
theorem w1_in {fu j n : Nat} (h0 : 1 ≤ j) (hj : j ≤ n) (hn : n ≤ 100000) : f_X13_within fu (nI j) (nI 1) (nI n) = some (nI 1) := by
  have e1 : ¬ nI j < nI 1 := nI_nlt h0 (by omega)
  have e2 : ¬ nI n < nI j := nI_nlt hj (by omega)
  simp only [f_X13_within_14, f_X13_within_0, f_X13_within, ↓lm_1, ↓lm_2, ↓lm_3, ↓lm_4, ↓lm_5, ↓lm_6, ↓lm_7, ↓lm_8, ↓lm_9, ↓lm_10, ↓lm_11, li_0, li_1, li_2, li_3, li_4, li_5, li_6, li_7, li_8, li_9, li_10, li_11, li_12, li_13, li_14, li_15, li_16, li_17, li_18, li_19, li_20, li_21, li_22, li_23, li_24, li_25, li_26, li_27, li_28, li_29, li_30, li_31, li_32, li_33, li_34, li_35, li_36, li_37, li_38, li_39, li_40, li_41, li_42, li_43, li_44, li_45, li_46, li_47, li_48, li_49, li_50, li_51, li_52, li_53, li_54, li_55, li_56, li_57, li_58, li_59, li_60, li_61, li_62, li_63, li_64, li_65, li_66, li_96, li_97, li_99, li_100, li_122, li_125, li_126, li_140, li_255, li_256, li_999, li_1000, li_1001, li_1002, li_1100, li_1386, li_1452, li_1518, li_9999, li_1000000, e1, e2, ↓reduceIte]
theorem w1_out {fu n : Nat} {x : Int32} (hn : n ≤ 100000) (hx : ¬ ∃ j, 1 ≤ j ∧ j ≤ n ∧ x = nI j) : (x < nI 1 ∨ nI n < x) ∧ f_X13_within fu x (nI 1) (nI n) = some (nI 0) := by
  have key : x < nI 1 ∨ nI n < x := by
    by_cases c1 : x < nI 1
    · exact Or.inl c1
    · by_cases c2 : nI n < x
      · exact Or.inr c2
      · exfalso
        have e1 : (nI 1).toInt = 1 := by decide
        have e2 : (nI n).toInt = n := nI_toInt (by omega)
        rw [Int32.lt_iff_toInt_lt] at c1 c2
        exact hx ⟨x.toInt.toNat, by omega, by omega, Int32.toInt_inj.mp (by rw [nI_toInt (by omega)]; omega)⟩
  refine ⟨key, ?_⟩
  simp only [f_X13_within_14, f_X13_within_0, f_X13_within, ↓lm_1, ↓lm_2, ↓lm_3, ↓lm_4, ↓lm_5, ↓lm_6, ↓lm_7, ↓lm_8, ↓lm_9, ↓lm_10, ↓lm_11, li_0, li_1, li_2, li_3, li_4, li_5, li_6, li_7, li_8, li_9, li_10, li_11, li_12, li_13, li_14, li_15, li_16, li_17, li_18, li_19, li_20, li_21, li_22, li_23, li_24, li_25, li_26, li_27, li_28, li_29, li_30, li_31, li_32, li_33, li_34, li_35, li_36, li_37, li_38, li_39, li_40, li_41, li_42, li_43, li_44, li_45, li_46, li_47, li_48, li_49, li_50, li_51, li_52, li_53, li_54, li_55, li_56, li_57, li_58, li_59, li_60, li_61, li_62, li_63, li_64, li_65, li_66, li_96, li_97, li_99, li_100, li_122, li_125, li_126, li_140, li_255, li_256, li_999, li_1000, li_1001, li_1002, li_1100, li_1386, li_1452, li_1518, li_9999, li_1000000]
  by_cases c1 : x < nI 1
  · rw [if_pos c1]
  · rw [if_neg c1]
    rcases key with c | c
    · exact absurd c c1
    · rw [if_pos c]
theorem w0_out {n : Nat} {x : Int32} (hn : n ≤ 100000) (hx : ¬ ∃ j, j < n + 1 ∧ x = nI j) : x < nI 0 ∨ (¬ x < nI 0 ∧ nI n < x) := by
  by_cases c1 : x < nI 0
  · exact Or.inl c1
  · refine Or.inr ⟨c1, ?_⟩
    rcases pk_ix x (n := n + 1) (by omega) with h | h | h
    · exact absurd h c1
    · rw [Int32.lt_iff_toInt_lt, nI_toInt (by omega)]
      rw [Int32.le_iff_toInt_le, nI_toInt (by omega)] at h
      omega
    · exact absurd h hx
theorem r_years {fu p : Nat} {S : ST} {v : GV} (hf : 1101 ≤ fu) (h : RR p S v) (x y x3 : Int32) : ∃ z S' v', f_X12_years fu S p x y x3 = some (z, S') ∧ f_X13_years fu v x y x3 = some (z, v') ∧ RR p S' v' := by
  obtain ⟨A, hA, hC, hM⟩ := h
  obtain ⟨t, d, ln, dl, f, hP, hK⟩ := id hC
  have hno : RR p S (sI v 0 (nI 0)) := RR_q hA hC hM (scr_refl p S) (q1 v)
  by_cases hx : ∃ j, j < 9999 + 1 ∧ x = nI j
  · obtain ⟨s, hs, rfl⟩ := hx
    have a1 : ¬ nI s < nI 0 := nI_nlt (by omega) (by omega)
    have a2 : ¬ nI 9999 < nI s := nI_nlt (by omega) (by omega)
    by_cases hy : ∃ j, 1 ≤ j ∧ j ≤ 60 ∧ y = nI j
    · obtain ⟨N, hN1, hN, rfl⟩ := hy
      have b1 : ¬ nI N < nI 1 := nI_nlt (by omega) (by omega)
      have b2 : ¬ nI 60 < nI N := nI_nlt (by omega) (by omega)
      by_cases hz : ∃ j, j < 2 + 1 ∧ x3 = nI j
      · obtain ⟨a, ha, rfl⟩ := hz
        have c1 : ¬ nI a < nI 0 := nI_nlt (by omega) (by omega)
        have c2 : nI a ≤ nI 2 := nI_le (by omega) (by omega)
        have c32 := hP.1.2.2.2.2.2.2.1
        have c33 : gC (S (p + 32 + 1)) = 3 := hP.1.2.2.2.2.2.2.2
        have c9 := hP.1.2.2.1
        have hct := hP.2.1.1
        have hrt := hP.2.2.2.2.1.1
        have td := hP.2.2.2.2.2.1
        have hq := hA.2.1.1
        have h8 := hq.1.2.1
        have tk := x3_takeNights (fu := fu) (S := S) (a := p + 32 + 1) (g := p + 9) (by omega)
        have hne : t ≠ p + 32 + 1 := by omega
        -- the class begins
        have sc : scr p S (st S (p + 32 + 1) (tkN (S (p + 32 + 1)) (S (p + 9)))) := scr_st (scr_refl p S) (by omega) (by rw [gC_tkN])
        have hC0 : YC p t (aG A) S (st (st S (p + 32 + 1) (tkN (S (p + 32 + 1)) (S (p + 9)))) (p + 32) (sI (sJ (S (p + 32)) 1 (lN s)) 2 (nI 0))) (aQ A).1 s (nI 0) := by
          refine ⟨scr_st sc (by omega) (by rw [st_ne _ _ (by omega)]; rfl), ?_, ?_, by rw [st_same]; exact c32, by rw [st_ne _ _ (by omega), st_ne _ _ (by omega)]; exact hP.1.1, by rw [st_same, gJ_sI, gJ_sJ, if_pos rfl], by rw [st_same, gI_sI, if_pos rfl]⟩
          · rw [st_ne _ _ (by omega), st_same]; exact CH_tkN hK.1.1 c33 h8
          · refine CG_keep hK.2.1 (by rw [st_ne _ _ (by omega), st_ne _ _ hne]) (fun b hb => Or.inl ?_)
            rw [st_ne _ _ (by rintro rfl; omega), st_ne _ _ (by rintro rfl; omega)]
        have cp := m_copies (fu := fu) (v := sI v 0 (nI 0)) hf (a := 0) (b := 1452) (n := 48) (by omega) (by omega) (by omega) (by omega)
        have hM0 : YM (aG A) v (sJ (sAf (sI v 0 (nI 0)) 24 (va_cpy (gA (sI v 0 (nI 0)) 24) (gA (sI v 0 (nI 0)) 24) 0 1452 48)) 40 (lN s)) (aQ A).1 s := by
          refine ⟨⟨fun j hj => ?_, fun y hy => ?_, rfl, rfl, rfl, rfl, rfl, rfl⟩, ?_, ?_, by rw [gJ_sJ, if_pos rfl]⟩
          · rw [gA_sJ, gA_sAfn _ _ (by omega)]; rfl
          · rw [gA_sJ, gA_sAf, pk_cpy_out (by omega)]; rfl
          · have := MH_cpy (f := gA v 24) (a := 0) (b := 1452) (n := 48) h8 (by omega) (by simp only [Nat.zero_add]; exact hM.2.2.1.1)
            refine MH_ext (fun k hk => ?_) h8 this
            rw [gA_sJ, gA_sAf]; rfl
          · exact MG_of hM.2.1 (by rw [gA_sJ, gA_sAfn _ _ (by decide)]; rfl) (by rw [gA_sJ, gA_sAfn _ _ (by decide)]; rfl) (by rw [gA_sJ, gA_sAfn _ _ (by decide)]; rfl)
        obtain ⟨z, S2, w2, q2, n2, z2, k1, k2, k3, k4, k5, k6⟩ := y_nights (fu := fu) (p := p) (g := t) hf hA.1 hN (show a < 3 by omega) N 0 (by omega) fu fu (by omega) (by omega) _ _ _ s (nI 0) hq (by omega) hC0 hM0
        refine ⟨z, S2, w2, ?_, ?_, RR_q hA hC hM k3.1 k6⟩
        · have ps : f_X11_pass fu S (p + 32) (p + 9) t (nI s) (nI N) = some S2 := by
            rw [← k2]
            simp (disch := omega) only [f_X11_pass, f_X11_pass_0, ↓lm_1, ↓lm_2, ↓lm_3, ↓lm_4, ↓lm_5, ↓lm_6, ↓lm_7, ↓lm_8, ↓lm_9, ↓lm_10, ↓lm_11, li_0, li_1, li_2, li_3, li_4, li_5, li_6, li_7, li_8, li_9, li_10, li_11, li_12, li_13, li_14, li_15, li_16, li_17, li_18, li_19, li_20, li_21, li_22, li_23, li_24, li_25, li_26, li_27, li_28, li_29, li_30, li_31, li_32, li_33, li_34, li_35, li_36, li_37, li_38, li_39, li_40, li_41, li_42, li_43, li_44, li_45, li_46, li_47, li_48, li_49, li_50, li_51, li_52, li_53, li_54, li_55, li_56, li_57, li_58, li_59, li_60, li_61, li_62, li_63, li_64, li_65, li_66, li_96, li_97, li_99, li_100, li_122, li_125, li_126, li_140, li_255, li_256, li_999, li_1000, li_1001, li_1002, li_1100, li_1386, li_1452, li_1518, li_9999, li_1000000, c33, decide_true, ck_t, tk, bd_s, nm_eq, st_ne, st_same, st_st, nI_l]
          have hj2 := k1.1.2.2.1
          have e8 := k3.2.1.2.2.2.1
          have ec := x3_allCoins hf k3.2.1
          have es := x3_slipsOn (fu := fu) k3.2.1 k1 hj2
          have cc3 : gC (S2 (p + 32 + 1)) = 3 := k3.2.1.1
          simp (disch := omega) only [f_X12_years, f_X12_years_0, f_X12_years_27, ↓lm_1, ↓lm_2, ↓lm_3, ↓lm_4, ↓lm_5, ↓lm_6, ↓lm_7, ↓lm_8, ↓lm_9, ↓lm_10, ↓lm_11, li_0, li_1, li_2, li_3, li_4, li_5, li_6, li_7, li_8, li_9, li_10, li_11, li_12, li_13, li_14, li_15, li_16, li_17, li_18, li_19, li_20, li_21, li_22, li_23, li_24, li_25, li_26, li_27, li_28, li_29, li_30, li_31, li_32, li_33, li_34, li_35, li_36, li_37, li_38, li_39, li_40, li_41, li_42, li_43, li_44, li_45, li_46, li_47, li_48, li_49, li_50, li_51, li_52, li_53, li_54, li_55, li_56, li_57, li_58, li_59, li_60, li_61, li_62, li_63, li_64, li_65, li_66, li_96, li_97, li_99, li_100, li_122, li_125, li_126, li_140, li_255, li_256, li_999, li_1000, li_1001, li_1002, li_1100, li_1386, li_1452, li_1518, li_9999, li_1000000, a1, a2, b1, b2, c1, c2, n10, ↓reduceIte, c32, c9, hct, decide_true, ck_t, hrt, bd_s, ps, k3.2.2.2.2.2.2, cc3, ec, e8, es, nI_eq, Nat.one_ne_zero]
          rw [k4]
          by_cases a0 : a = 0
          · rw [if_pos a0, if_pos a0]
          · rw [if_neg a0, if_neg a0]
            by_cases a1 : a = 1
            · rw [if_pos a1, if_pos a1]
            · rw [if_neg a1, if_neg a1]
        · rw [← k5]
          simp (disch := omega) only [f_X13_years, f_X13_years_0, ↓lm_1, ↓lm_2, ↓lm_3, ↓lm_4, ↓lm_5, ↓lm_6, ↓lm_7, ↓lm_8, ↓lm_9, ↓lm_10, ↓lm_11, li_0, li_1, li_2, li_3, li_4, li_5, li_6, li_7, li_8, li_9, li_10, li_11, li_12, li_13, li_14, li_15, li_16, li_17, li_18, li_19, li_20, li_21, li_22, li_23, li_24, li_25, li_26, li_27, li_28, li_29, li_30, li_31, li_32, li_33, li_34, li_35, li_36, li_37, li_38, li_39, li_40, li_41, li_42, li_43, li_44, li_45, li_46, li_47, li_48, li_49, li_50, li_51, li_52, li_53, li_54, li_55, li_56, li_57, li_58, li_59, li_60, li_61, li_62, li_63, li_64, li_65, li_66, li_96, li_97, li_99, li_100, li_122, li_125, li_126, li_140, li_255, li_256, li_999, li_1000, li_1001, li_1002, li_1100, li_1386, li_1452, li_1518, li_9999, li_1000000, nm_eq, w_in, w1_in, bd_s, n10, ↓reduceIte, cp, nI_l]
      · refine ⟨mI 1, S, sI v 0 (nI 0), ?_, ?_, hno⟩
        · simp only [f_X12_years, f_X12_years_0, f_X12_years_27, f_X12_years_43, ↓lm_1, ↓lm_2, ↓lm_3, ↓lm_4, ↓lm_5, ↓lm_6, ↓lm_7, ↓lm_8, ↓lm_9, ↓lm_10, ↓lm_11, li_0, li_1, li_2, li_3, li_4, li_5, li_6, li_7, li_8, li_9, li_10, li_11, li_12, li_13, li_14, li_15, li_16, li_17, li_18, li_19, li_20, li_21, li_22, li_23, li_24, li_25, li_26, li_27, li_28, li_29, li_30, li_31, li_32, li_33, li_34, li_35, li_36, li_37, li_38, li_39, li_40, li_41, li_42, li_43, li_44, li_45, li_46, li_47, li_48, li_49, li_50, li_51, li_52, li_53, li_54, li_55, li_56, li_57, li_58, li_59, li_60, li_61, li_62, li_63, li_64, li_65, li_66, li_96, li_97, li_99, li_100, li_122, li_125, li_126, li_140, li_255, li_256, li_999, li_1000, li_1001, li_1002, li_1100, li_1386, li_1452, li_1518, li_9999, li_1000000, a1, a2, b1, b2, n10, ↓reduceIte]
          rcases w0_out (by omega) hz with c | ⟨c, c2⟩
          · rw [if_pos c]
          · rw [if_neg c, if_neg]
            rw [Int32.lt_iff_toInt_lt] at c2
            rw [Int32.le_iff_toInt_le]; omega
        · simp (disch := omega) only [f_X13_years, f_X13_years_0, f_X13_years_35, ↓lm_1, ↓lm_2, ↓lm_3, ↓lm_4, ↓lm_5, ↓lm_6, ↓lm_7, ↓lm_8, ↓lm_9, ↓lm_10, ↓lm_11, li_0, li_1, li_2, li_3, li_4, li_5, li_6, li_7, li_8, li_9, li_10, li_11, li_12, li_13, li_14, li_15, li_16, li_17, li_18, li_19, li_20, li_21, li_22, li_23, li_24, li_25, li_26, li_27, li_28, li_29, li_30, li_31, li_32, li_33, li_34, li_35, li_36, li_37, li_38, li_39, li_40, li_41, li_42, li_43, li_44, li_45, li_46, li_47, li_48, li_49, li_50, li_51, li_52, li_53, li_54, li_55, li_56, li_57, li_58, li_59, li_60, li_61, li_62, li_63, li_64, li_65, li_66, li_96, li_97, li_99, li_100, li_122, li_125, li_126, li_140, li_255, li_256, li_999, li_1000, li_1001, li_1002, li_1100, li_1386, li_1452, li_1518, li_9999, li_1000000, nm_eq, w_in, w1_in, w_out hz, bd_s, n10, ↓reduceIte]
    · obtain ⟨ho, hwo⟩ := w1_out (fu := fu) (by omega) hy
      refine ⟨mI 1, S, sI v 0 (nI 0), ?_, ?_, hno⟩
      · simp only [f_X12_years, f_X12_years_0, f_X12_years_26, f_X12_years_27, f_X12_years_43, ↓lm_1, ↓lm_2, ↓lm_3, ↓lm_4, ↓lm_5, ↓lm_6, ↓lm_7, ↓lm_8, ↓lm_9, ↓lm_10, ↓lm_11, li_0, li_1, li_2, li_3, li_4, li_5, li_6, li_7, li_8, li_9, li_10, li_11, li_12, li_13, li_14, li_15, li_16, li_17, li_18, li_19, li_20, li_21, li_22, li_23, li_24, li_25, li_26, li_27, li_28, li_29, li_30, li_31, li_32, li_33, li_34, li_35, li_36, li_37, li_38, li_39, li_40, li_41, li_42, li_43, li_44, li_45, li_46, li_47, li_48, li_49, li_50, li_51, li_52, li_53, li_54, li_55, li_56, li_57, li_58, li_59, li_60, li_61, li_62, li_63, li_64, li_65, li_66, li_96, li_97, li_99, li_100, li_122, li_125, li_126, li_140, li_255, li_256, li_999, li_1000, li_1001, li_1002, li_1100, li_1386, li_1452, li_1518, li_9999, li_1000000, a1, a2, ↓reduceIte]
        by_cases c : y < nI 1
        · rw [if_pos c]
        · rw [if_neg c]
          rcases ho with h | h
          · exact absurd h c
          · rw [if_pos h]
      · simp (disch := omega) only [f_X13_years, f_X13_years_0, f_X13_years_35, ↓lm_1, ↓lm_2, ↓lm_3, ↓lm_4, ↓lm_5, ↓lm_6, ↓lm_7, ↓lm_8, ↓lm_9, ↓lm_10, ↓lm_11, li_0, li_1, li_2, li_3, li_4, li_5, li_6, li_7, li_8, li_9, li_10, li_11, li_12, li_13, li_14, li_15, li_16, li_17, li_18, li_19, li_20, li_21, li_22, li_23, li_24, li_25, li_26, li_27, li_28, li_29, li_30, li_31, li_32, li_33, li_34, li_35, li_36, li_37, li_38, li_39, li_40, li_41, li_42, li_43, li_44, li_45, li_46, li_47, li_48, li_49, li_50, li_51, li_52, li_53, li_54, li_55, li_56, li_57, li_58, li_59, li_60, li_61, li_62, li_63, li_64, li_65, li_66, li_96, li_97, li_99, li_100, li_122, li_125, li_126, li_140, li_255, li_256, li_999, li_1000, li_1001, li_1002, li_1100, li_1386, li_1452, li_1518, li_9999, li_1000000, nm_eq, w_in, hwo, bd_s, n10, ↓reduceIte]
  · refine ⟨mI 1, S, sI v 0 (nI 0), ?_, ?_, hno⟩
    · simp only [f_X12_years, f_X12_years_0, f_X12_years_26, f_X12_years_27, f_X12_years_43, ↓lm_1, ↓lm_2, ↓lm_3, ↓lm_4, ↓lm_5, ↓lm_6, ↓lm_7, ↓lm_8, ↓lm_9, ↓lm_10, ↓lm_11, li_0, li_1, li_2, li_3, li_4, li_5, li_6, li_7, li_8, li_9, li_10, li_11, li_12, li_13, li_14, li_15, li_16, li_17, li_18, li_19, li_20, li_21, li_22, li_23, li_24, li_25, li_26, li_27, li_28, li_29, li_30, li_31, li_32, li_33, li_34, li_35, li_36, li_37, li_38, li_39, li_40, li_41, li_42, li_43, li_44, li_45, li_46, li_47, li_48, li_49, li_50, li_51, li_52, li_53, li_54, li_55, li_56, li_57, li_58, li_59, li_60, li_61, li_62, li_63, li_64, li_65, li_66, li_96, li_97, li_99, li_100, li_122, li_125, li_126, li_140, li_255, li_256, li_999, li_1000, li_1001, li_1002, li_1100, li_1386, li_1452, li_1518, li_9999, li_1000000, ↓reduceIte]
      rcases w0_out (by omega) hx with c | ⟨c, c2⟩
      · rw [if_pos c]
      · rw [if_neg c, if_pos c2]
    · simp (disch := omega) only [f_X13_years, f_X13_years_0, f_X13_years_35, ↓lm_1, ↓lm_2, ↓lm_3, ↓lm_4, ↓lm_5, ↓lm_6, ↓lm_7, ↓lm_8, ↓lm_9, ↓lm_10, ↓lm_11, li_0, li_1, li_2, li_3, li_4, li_5, li_6, li_7, li_8, li_9, li_10, li_11, li_12, li_13, li_14, li_15, li_16, li_17, li_18, li_19, li_20, li_21, li_22, li_23, li_24, li_25, li_26, li_27, li_28, li_29, li_30, li_31, li_32, li_33, li_34, li_35, li_36, li_37, li_38, li_39, li_40, li_41, li_42, li_43, li_44, li_45, li_46, li_47, li_48, li_49, li_50, li_51, li_52, li_53, li_54, li_55, li_56, li_57, li_58, li_59, li_60, li_61, li_62, li_63, li_64, li_65, li_66, li_96, li_97, li_99, li_100, li_122, li_125, li_126, li_140, li_255, li_256, li_999, li_1000, li_1001, li_1002, li_1100, li_1386, li_1452, li_1518, li_9999, li_1000000, nm_eq, w_out hx, bd_s, ↓reduceIte]
