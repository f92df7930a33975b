/-! ===== painters, painter: the class, by states ===== -/
theorem uni_at {t : Nat} (ht : t < 5) : uni.getD t 0 = nI (3 ^ t) := by
  have h : (List.range 5).all (fun t => decide (uni.getD t 0 = nI (3 ^ t))) = true := by decide +kernel
  exact co_dec h ht
theorem p3_pos {t : Nat} (ht : t < 5) : 0 < 3 ^ t ∧ 3 ^ t < 82 := by
  rcases (show t = 0 ∨ t = 1 ∨ t = 2 ∨ t = 3 ∨ t = 4 by omega) with rfl | rfl | rfl | rfl | rfl <;> decide
theorem p3_I {x t : Nat} (hx : x < 243) (ht : t < 5) : nI x / nI (3 ^ t) - nI x / nI (3 ^ t) / nI 3 * nI 3 = nI (p3 x t) := by
  have h := p3_pos ht
  have : x / 3 ^ t ≤ x := Nat.div_le_self _ _
  rw [pk_div (by omega) h.1 (by omega), pk_rem (by omega) (by omega) (by omega)]; rfl
theorem giv_le {x : Nat} : giv x ≤ 10 := by
  have h0 := p3_lt x 0
  have h1 := p3_lt x 1
  have h2 := p3_lt x 2
  have h3 := p3_lt x 3
  have h4 := p3_lt x 4
  unfold giv; omega
theorem x7_given {fu x : Nat} (hf : 1101 ≤ fu) (hx : x < 243) : f_X7_given fu (nI x) = some (nI (giv x)) := by
  have e : giv x = sm (p3 x) 5 := by rw [sm_5]; rfl
  rw [e]
  simp only [f_X7_given, f_X7_given_0, f_X7_given_4, ↓lm_1, ↓lm_2, ↓lm_3, ↓lm_4, ↓lm_5, ↓lm_6, ↓lm_7, ↓lm_8, ↓lm_9, ↓lm_10, ↓lm_11, li_0, li_1, li_2, li_3, li_4, li_5, li_6, li_7, li_8, li_9, li_10, li_11, li_12, li_13, li_14, li_15, li_16, li_17, li_18, li_19, li_20, li_21, li_22, li_23, li_24, li_25, li_26, li_27, li_28, li_29, li_30, li_31, li_32, li_33, li_34, li_35, li_36, li_37, li_38, li_39, li_40, li_41, li_42, li_43, li_44, li_45, li_46, li_47, li_48, li_49, li_50, li_51, li_52, li_53, li_54, li_55, li_56, li_57, li_58, li_59, li_60, li_61, li_62, li_63, li_64, li_65, li_66, li_96, li_97, li_99, li_100, li_122, li_125, li_126, li_140, li_255, li_256, li_999, li_1000, li_1001, li_1002, li_1100, li_1386, li_1452, li_1518, li_9999, li_1000000]
  refine for2 _ (fun t => nI (sm (p3 x) t)) (fun t => nI t) 0 5 _ ?_ ?_ fu (by omega) (by omega)
  · intro rec
    have e5 : nI 5 ≤ nI 5 := by decide
    simp only [f_X7_given_4s, ↓lm_1, ↓lm_2, ↓lm_3, ↓lm_4, ↓lm_5, ↓lm_6, ↓lm_7, ↓lm_8, ↓lm_9, ↓lm_10, ↓lm_11, li_0, li_1, li_2, li_3, li_4, li_5, li_6, li_7, li_8, li_9, li_10, li_11, li_12, li_13, li_14, li_15, li_16, li_17, li_18, li_19, li_20, li_21, li_22, li_23, li_24, li_25, li_26, li_27, li_28, li_29, li_30, li_31, li_32, li_33, li_34, li_35, li_36, li_37, li_38, li_39, li_40, li_41, li_42, li_43, li_44, li_45, li_46, li_47, li_48, li_49, li_50, li_51, li_52, li_53, li_54, li_55, li_56, li_57, li_58, li_59, li_60, li_61, li_62, li_63, li_64, li_65, li_66, li_96, li_97, li_99, li_100, li_122, li_125, li_126, li_140, li_255, li_256, li_999, li_1000, li_1001, li_1002, li_1100, li_1386, li_1452, li_1518, li_9999, li_1000000, e5, ↓reduceIte]
  · intro t rec _ ht
    have e5 : ¬ nI 5 ≤ nI t := nI_ge ht (by omega)
    have h := p3_pos ht
    have e0 : ¬ nI (3 ^ t) = nI 0 := by rw [nI_eq (by omega) (by omega)]; omega
    have u := uni_at ht
    simp only [li_0] at u
    simp (disch := omega) only [f_X7_given_4s, ↓lm_1, ↓lm_2, ↓lm_3, ↓lm_4, ↓lm_5, ↓lm_6, ↓lm_7, ↓lm_8, ↓lm_9, ↓lm_10, ↓lm_11, li_0, li_1, li_2, li_3, li_4, li_5, li_6, li_7, li_8, li_9, li_10, li_11, li_12, li_13, li_14, li_15, li_16, li_17, li_18, li_19, li_20, li_21, li_22, li_23, li_24, li_25, li_26, li_27, li_28, li_29, li_30, li_31, li_32, li_33, li_34, li_35, li_36, li_37, li_38, li_39, li_40, li_41, li_42, li_43, li_44, li_45, li_46, li_47, li_48, li_49, li_50, li_51, li_52, li_53, li_54, li_55, li_56, li_57, li_58, li_59, li_60, li_61, li_62, li_63, li_64, li_65, li_66, li_96, li_97, li_99, li_100, li_122, li_125, li_126, li_140, li_255, li_256, li_999, li_1000, li_1001, li_1002, li_1100, li_1386, li_1452, li_1518, li_9999, li_1000000, e5, ↓reduceIte, inb_n, ck_t, nI_clamp, u, nm_eq, e0, not_false_eq_true, decide_true, p3_I hx ht, nI_add, sm]
/-- ways from a state that has given as many as it has -/
def WV (ab : Nat → Nat → Bool) (n s : Nat) : Nat := if 1 + giv s ≤ n then nWy ab (n - (1 + giv s)) (1 + giv s) s else 0
theorem WV_le (ab : Nat → Nat → Bool) {n : Nat} (h8 : n ≤ 8) (s : Nat) : WV ab n s < 1000000 := by
  unfold WV
  split
  · have h1 := nWy_le ab (n - (1 + giv s)) (1 + giv s) s
    have h2 : 5 ^ (n - (1 + giv s)) ≤ 5 ^ 7 := Nat.pow_le_pow_right (by decide) (by omega)
    have h57 : (5 : Nat) ^ 7 = 78125 := by decide
    omega
  · omega
section C
variable {fu n : Nat} {ab : Nat → Nat → Bool} {w : GV}
/-- the class knows who is able -/
def PC (w : GV) (n : Nat) (ab : Nat → Nat → Bool) : Prop := gC w = 7 ∧ gI w 2 = nI n ∧ ∀ c, 1 ≤ c → c < n → gA w 0 c = nI (setb (ab c) 5)
theorem x7_waysWith (h8 : n ≤ 8) (hP : PC w n ab) {s c t : Nat} (hs : s < 243) (hc1 : 1 ≤ c) (hc : c < n) (ht : t < 5) : f_X7_waysWith fu w (nI s) (nI c) (nI t) = some (if ab c t = true ∧ p3 s t < 2 then gA w 1 (s + 3 ^ t) else nI 0) := by
  have hb := setb_lt' (ab c) (k := 5) (by omega)
  have hbt := bt_setb (ab c) 5 t
  have h := p3_pos ht
  have e0 : ¬ nI (3 ^ t) = nI 0 := by rw [nI_eq (by omega) (by omega)]; omega
  have u := uni_at ht
  simp only [li_0] at u
  have hp := p3_lt s t
  by_cases a : ab c t = true
  · rw [if_pos ⟨ht, a⟩] at hbt
    by_cases b : p3 s t < 2
    · have hg := (giv_up hs ht b).1
      have c2 : ¬ nI 2 ≤ nI (p3 s t) := nI_ge b (by omega)
      rw [if_pos ⟨a, b⟩]
      simp (disch := omega) only [f_X7_waysWith, f_X7_waysWith_0, f_X7_waysWith_31, ↓lm_1, ↓lm_2, ↓lm_3, ↓lm_4, ↓lm_5, ↓lm_6, ↓lm_7, ↓lm_8, ↓lm_9, ↓lm_10, ↓lm_11, li_0, li_1, li_2, li_3, li_4, li_5, li_6, li_7, li_8, li_9, li_10, li_11, li_12, li_13, li_14, li_15, li_16, li_17, li_18, li_19, li_20, li_21, li_22, li_23, li_24, li_25, li_26, li_27, li_28, li_29, li_30, li_31, li_32, li_33, li_34, li_35, li_36, li_37, li_38, li_39, li_40, li_41, li_42, li_43, li_44, li_45, li_46, li_47, li_48, li_49, li_50, li_51, li_52, li_53, li_54, li_55, li_56, li_57, li_58, li_59, li_60, li_61, li_62, li_63, li_64, li_65, li_66, li_96, li_97, li_99, li_100, li_122, li_125, li_126, li_140, li_255, li_256, li_999, li_1000, li_1001, li_1002, li_1100, li_1386, li_1452, li_1518, li_9999, li_1000000, inb_n, ck_t, nI_clamp, hP.2.2 c hc1 hc, nI_and31, nI_bt, hbt, n10, ↓reduceIte, u, nm_eq, e0, not_false_eq_true, decide_true, p3_I hs ht, c2, nI_add]
    · have c2 : nI 2 ≤ nI (p3 s t) := nI_le (by omega) (by omega)
      rw [if_neg (fun z => b z.2)]
      simp (disch := omega) only [f_X7_waysWith, f_X7_waysWith_0, f_X7_waysWith_30, f_X7_waysWith_31, ↓lm_1, ↓lm_2, ↓lm_3, ↓lm_4, ↓lm_5, ↓lm_6, ↓lm_7, ↓lm_8, ↓lm_9, ↓lm_10, ↓lm_11, li_0, li_1, li_2, li_3, li_4, li_5, li_6, li_7, li_8, li_9, li_10, li_11, li_12, li_13, li_14, li_15, li_16, li_17, li_18, li_19, li_20, li_21, li_22, li_23, li_24, li_25, li_26, li_27, li_28, li_29, li_30, li_31, li_32, li_33, li_34, li_35, li_36, li_37, li_38, li_39, li_40, li_41, li_42, li_43, li_44, li_45, li_46, li_47, li_48, li_49, li_50, li_51, li_52, li_53, li_54, li_55, li_56, li_57, li_58, li_59, li_60, li_61, li_62, li_63, li_64, li_65, li_66, li_96, li_97, li_99, li_100, li_122, li_125, li_126, li_140, li_255, li_256, li_999, li_1000, li_1001, li_1002, li_1100, li_1386, li_1452, li_1518, li_9999, li_1000000, inb_n, ck_t, nI_clamp, hP.2.2 c hc1 hc, nI_and31, nI_bt, hbt, n10, ↓reduceIte, u, nm_eq, e0, not_false_eq_true, decide_true, p3_I hs ht, c2]
  · rw [if_neg (fun z => a z.2)] at hbt
    rw [if_neg (fun z => a z.1)]
    simp (disch := omega) only [f_X7_waysWith, f_X7_waysWith_0, f_X7_waysWith_30, f_X7_waysWith_31, ↓lm_1, ↓lm_2, ↓lm_3, ↓lm_4, ↓lm_5, ↓lm_6, ↓lm_7, ↓lm_8, ↓lm_9, ↓lm_10, ↓lm_11, li_0, li_1, li_2, li_3, li_4, li_5, li_6, li_7, li_8, li_9, li_10, li_11, li_12, li_13, li_14, li_15, li_16, li_17, li_18, li_19, li_20, li_21, li_22, li_23, li_24, li_25, li_26, li_27, li_28, li_29, li_30, li_31, li_32, li_33, li_34, li_35, li_36, li_37, li_38, li_39, li_40, li_41, li_42, li_43, li_44, li_45, li_46, li_47, li_48, li_49, li_50, li_51, li_52, li_53, li_54, li_55, li_56, li_57, li_58, li_59, li_60, li_61, li_62, li_63, li_64, li_65, li_66, li_96, li_97, li_99, li_100, li_122, li_125, li_126, li_140, li_255, li_256, li_999, li_1000, li_1001, li_1002, li_1100, li_1386, li_1452, li_1518, li_9999, li_1000000, inb_n, ck_t, nI_clamp, hP.2.2 c hc1 hc, nI_and31, nI_bt, hbt, ↓reduceIte]
/-- a state, those behind it known -/
theorem x7_state (hf : 1101 ≤ fu) (h1 : 1 ≤ n) (h8 : n ≤ 8) (hP : PC w n ab) {s : Nat} (hs : s < 243) {f : Nat → Int32} (hff : ∀ s', s < s' → s' < 243 → f s' = nI (WV ab n s')) : ∃ f', (∀ s', s ≤ s' → s' < 243 → f' s' = nI (WV ab n s')) ∧ ∀ k4, f_X7_countWays_4s fu k4 (nI s) (sAf w 1 f) = k4 (nI s + mI 1) (sAf w 1 f') := by
  have hg := giv_le (x := s)
  have hgv := x7_given (fu := fu) hf hs
  have e0 : ¬ nI s < nI 0 := nI_nlt (by omega) (by omega)
  have e2 : ∀ f, gI (sAf w 1 f) 2 = nI n := fun f => hP.2.1
  by_cases c : 1 + giv s < n
  · -- copies are left
    have hPf : ∀ f, PC (sAf w 1 f) n ab := fun f => ⟨hP.1, hP.2.1, fun c h1 h2 => by rw [gA_sAfn _ _ (by decide)]; exact hP.2.2 c h1 h2⟩
    have ne : ¬ nI (1 + giv s) = nI n := by rw [nI_eq (by omega) (by omega)]; omega
    have key := lpC2 (fun k4 k36 => f_X7_countWays_36s fu k4 k36 (nI s) (nI (1 + giv s))) (fun t y w' => y = nI t ∧ ∃ f', w' = sAf w 1 f' ∧ f' s = nI (sm (Fm ab (n - (1 + giv s) - 1) (1 + giv s) s) t) ∧ ∀ s', s < s' → s' < 243 → f' s' = nI (WV ab n s')) (fun y w' => y = nI s + mI 1 ∧ ∃ f', w' = sAf w 1 f' ∧ ∀ s', s ≤ s' → s' < 243 → f' s' = nI (WV ab n s')) 5 ?_ ?_ fu 0 (nI 0) (sAf w 1 (upd f s (nI 0))) ⟨rfl, _, rfl, by rw [pk_us]; rfl, fun s' a b => by rw [pk_un (by omega)]; exact hff s' a b⟩ (by omega) (by omega)
    · obtain ⟨y, w', ⟨rfl, f', rfl, h2⟩, h3⟩ := key
      refine ⟨f', h2, fun k4 => ?_⟩
      rw [← h3 k4]
      simp (disch := omega) only [f_X7_countWays_4s, f_X7_countWays_33, f_X7_countWays_36, ↓lm_1, ↓lm_2, ↓lm_3, ↓lm_4, ↓lm_5, ↓lm_6, ↓lm_7, ↓lm_8, ↓lm_9, ↓lm_10, ↓lm_11, li_0, li_1, li_2, li_3, li_4, li_5, li_6, li_7, li_8, li_9, li_10, li_11, li_12, li_13, li_14, li_15, li_16, li_17, li_18, li_19, li_20, li_21, li_22, li_23, li_24, li_25, li_26, li_27, li_28, li_29, li_30, li_31, li_32, li_33, li_34, li_35, li_36, li_37, li_38, li_39, li_40, li_41, li_42, li_43, li_44, li_45, li_46, li_47, li_48, li_49, li_50, li_51, li_52, li_53, li_54, li_55, li_56, li_57, li_58, li_59, li_60, li_61, li_62, li_63, li_64, li_65, li_66, li_96, li_97, li_99, li_100, li_122, li_125, li_126, li_140, li_255, li_256, li_999, li_1000, li_1001, li_1002, li_1100, li_1386, li_1452, li_1518, li_9999, li_1000000, e0, ↓reduceIte, hgv, bd_s, nm_eq, nI_add, e2, ne, inb_n, ck_t, nI_clamp, sA, sAf_sAf, gA_sAf]
    · rintro y w' ⟨rfl, f', rfl, g1, g2⟩
      refine ⟨_, _, ⟨rfl, f', rfl, fun s' a b => ?_⟩, fun k rec => ?_⟩
      · by_cases e : s' = s
        · rw [e, g1, WV, if_pos (by omega), ← nWy_s, show n - (1 + giv s) - 1 + 1 = n - (1 + giv s) by omega]
        · exact g2 s' (by omega) b
      · have e5 : nI 5 ≤ nI 5 := by decide
        simp only [f_X7_countWays_36s, f_X7_countWays_71, ↓lm_1, ↓lm_2, ↓lm_3, ↓lm_4, ↓lm_5, ↓lm_6, ↓lm_7, ↓lm_8, ↓lm_9, ↓lm_10, ↓lm_11, li_0, li_1, li_2, li_3, li_4, li_5, li_6, li_7, li_8, li_9, li_10, li_11, li_12, li_13, li_14, li_15, li_16, li_17, li_18, li_19, li_20, li_21, li_22, li_23, li_24, li_25, li_26, li_27, li_28, li_29, li_30, li_31, li_32, li_33, li_34, li_35, li_36, li_37, li_38, li_39, li_40, li_41, li_42, li_43, li_44, li_45, li_46, li_47, li_48, li_49, li_50, li_51, li_52, li_53, li_54, li_55, li_56, li_57, li_58, li_59, li_60, li_61, li_62, li_63, li_64, li_65, li_66, li_96, li_97, li_99, li_100, li_122, li_125, li_126, li_140, li_255, li_256, li_999, li_1000, li_1001, li_1002, li_1100, li_1386, li_1452, li_1518, li_9999, li_1000000, e5, ↓reduceIte, nm_eq]
    · rintro t y w' ht ⟨rfl, f', rfl, g1, g2⟩
      have e5 : ¬ nI 5 ≤ nI t := nI_ge ht (by omega)
      have en : ¬ nI n ≤ nI (1 + giv s) := nI_ge c (by omega)
      have ww := x7_waysWith (fu := fu) h8 (hPf f') hs (show 1 ≤ 1 + giv s by omega) c ht
      have hwv : (if ab (1 + giv s) t = true ∧ p3 s t < 2 then gA (sAf w 1 f') 1 (s + 3 ^ t) else nI 0) = nI (Fm ab (n - (1 + giv s) - 1) (1 + giv s) s t) := by
        unfold Fm
        by_cases a : ab (1 + giv s) t = true ∧ p3 s t < 2
        · obtain ⟨a1, a2⟩ := giv_up hs ht a.2
          have p := p3_pos ht
          rw [if_pos a, if_pos a, gA_sAf, g2 _ (by omega) a1, WV, a2, if_pos (by omega), show n - (1 + (giv s + 1)) = n - (1 + giv s) - 1 by omega, show 1 + (giv s + 1) = 1 + giv s + 1 by omega]
        · rw [if_neg a, if_neg a]
      rw [hwv] at ww
      refine ⟨nI (t + 1), sAf w 1 (upd f' s (nI (sm (Fm ab (n - (1 + giv s) - 1) (1 + giv s) s) t + Fm ab (n - (1 + giv s) - 1) (1 + giv s) s t))), ⟨rfl, _, rfl, by rw [pk_us]; rfl, fun s' a b => by rw [pk_un (by omega)]; exact g2 s' a b⟩, fun k rec => ?_⟩
      simp (disch := omega) only [f_X7_countWays_36s, ↓lm_1, ↓lm_2, ↓lm_3, ↓lm_4, ↓lm_5, ↓lm_6, ↓lm_7, ↓lm_8, ↓lm_9, ↓lm_10, ↓lm_11, li_0, li_1, li_2, li_3, li_4, li_5, li_6, li_7, li_8, li_9, li_10, li_11, li_12, li_13, li_14, li_15, li_16, li_17, li_18, li_19, li_20, li_21, li_22, li_23, li_24, li_25, li_26, li_27, li_28, li_29, li_30, li_31, li_32, li_33, li_34, li_35, li_36, li_37, li_38, li_39, li_40, li_41, li_42, li_43, li_44, li_45, li_46, li_47, li_48, li_49, li_50, li_51, li_52, li_53, li_54, li_55, li_56, li_57, li_58, li_59, li_60, li_61, li_62, li_63, li_64, li_65, li_66, li_96, li_97, li_99, li_100, li_122, li_125, li_126, li_140, li_255, li_256, li_999, li_1000, li_1001, li_1002, li_1100, li_1386, li_1452, li_1518, li_9999, li_1000000, e5, e2, en, ↓reduceIte, inb_n, ck_t, ww, bd_s, nI_clamp, gA_sAf, g1, nI_add, nm_eq, sA, sAf_sAf]
  · -- none is left, or too many are given
    obtain ⟨fu', hfu⟩ : ∃ m, fu = m + 1 := ⟨fu - 1, by omega⟩
    have en : nI n ≤ nI (1 + giv s) := nI_le (by omega) (by omega)
    have e5 : ¬ nI 5 ≤ nI 0 := by decide
    have out : ∀ k4 v', gI v' 2 = nI n → f_X7_countWays_36 fu fu k4 (nI s) (nI (1 + giv s)) (nI 0) v' = k4 (nI s + mI 1) v' := by
      intro k4 v' hv'
      rw [f_X7_countWays_36]
      conv => lhs; rw [show (lq_2 (fun k36 => f_X7_countWays_36s fu k4 k36 (nI s) (nI (1 + giv s))) fu) = (lq_2 (fun k36 => f_X7_countWays_36s fu k4 k36 (nI s) (nI (1 + giv s))) (fu' + 1)) by rw [← hfu], lq2_s]
      simp only [f_X7_countWays_36s, f_X7_countWays_71, ↓lm_1, ↓lm_2, ↓lm_3, ↓lm_4, ↓lm_5, ↓lm_6, ↓lm_7, ↓lm_8, ↓lm_9, ↓lm_10, ↓lm_11, li_0, li_1, li_2, li_3, li_4, li_5, li_6, li_7, li_8, li_9, li_10, li_11, li_12, li_13, li_14, li_15, li_16, li_17, li_18, li_19, li_20, li_21, li_22, li_23, li_24, li_25, li_26, li_27, li_28, li_29, li_30, li_31, li_32, li_33, li_34, li_35, li_36, li_37, li_38, li_39, li_40, li_41, li_42, li_43, li_44, li_45, li_46, li_47, li_48, li_49, li_50, li_51, li_52, li_53, li_54, li_55, li_56, li_57, li_58, li_59, li_60, li_61, li_62, li_63, li_64, li_65, li_66, li_96, li_97, li_99, li_100, li_122, li_125, li_126, li_140, li_255, li_256, li_999, li_1000, li_1001, li_1002, li_1100, li_1386, li_1452, li_1518, li_9999, li_1000000, e5, hv', en, ↓reduceIte, nm_eq]
    refine ⟨upd f s (nI (WV ab n s)), fun s' a b => ?_, fun k4 => ?_⟩
    · by_cases e : s' = s
      · rw [e, pk_us]
      · rw [pk_un e]; exact hff s' (by omega) b
    · have o := out k4 (sAf w 1 (upd f s (nI (WV ab n s)))) (e2 _)
      rw [← o]
      by_cases e : 1 + giv s = n
      · have ne : nI (1 + giv s) = nI n := by rw [e]
        have hv : WV ab n s = 1 := by rw [WV, if_pos (by omega), show n - (1 + giv s) = 0 by omega]; rfl
        simp (disch := omega) only [f_X7_countWays_4s, f_X7_countWays_33, ↓lm_1, ↓lm_2, ↓lm_3, ↓lm_4, ↓lm_5, ↓lm_6, ↓lm_7, ↓lm_8, ↓lm_9, ↓lm_10, ↓lm_11, li_0, li_1, li_2, li_3, li_4, li_5, li_6, li_7, li_8, li_9, li_10, li_11, li_12, li_13, li_14, li_15, li_16, li_17, li_18, li_19, li_20, li_21, li_22, li_23, li_24, li_25, li_26, li_27, li_28, li_29, li_30, li_31, li_32, li_33, li_34, li_35, li_36, li_37, li_38, li_39, li_40, li_41, li_42, li_43, li_44, li_45, li_46, li_47, li_48, li_49, li_50, li_51, li_52, li_53, li_54, li_55, li_56, li_57, li_58, li_59, li_60, li_61, li_62, li_63, li_64, li_65, li_66, li_96, li_97, li_99, li_100, li_122, li_125, li_126, li_140, li_255, li_256, li_999, li_1000, li_1001, li_1002, li_1100, li_1386, li_1452, li_1518, li_9999, li_1000000, e0, ↓reduceIte, hgv, bd_s, nm_eq, nI_add, e2, if_pos ne, inb_n, ck_t, nI_clamp, sA, sAf_sAf, gA_sAf, hv]
      · have ne : ¬ nI (1 + giv s) = nI n := by rw [nI_eq (by omega) (by omega)]; omega
        have hv : WV ab n s = 0 := by rw [WV, if_neg (by omega)]
        simp (disch := omega) only [f_X7_countWays_4s, f_X7_countWays_33, ↓lm_1, ↓lm_2, ↓lm_3, ↓lm_4, ↓lm_5, ↓lm_6, ↓lm_7, ↓lm_8, ↓lm_9, ↓lm_10, ↓lm_11, li_0, li_1, li_2, li_3, li_4, li_5, li_6, li_7, li_8, li_9, li_10, li_11, li_12, li_13, li_14, li_15, li_16, li_17, li_18, li_19, li_20, li_21, li_22, li_23, li_24, li_25, li_26, li_27, li_28, li_29, li_30, li_31, li_32, li_33, li_34, li_35, li_36, li_37, li_38, li_39, li_40, li_41, li_42, li_43, li_44, li_45, li_46, li_47, li_48, li_49, li_50, li_51, li_52, li_53, li_54, li_55, li_56, li_57, li_58, li_59, li_60, li_61, li_62, li_63, li_64, li_65, li_66, li_96, li_97, li_99, li_100, li_122, li_125, li_126, li_140, li_255, li_256, li_999, li_1000, li_1001, li_1002, li_1100, li_1386, li_1452, li_1518, li_9999, li_1000000, e0, ↓reduceIte, hgv, bd_s, nm_eq, nI_add, e2, ne, inb_n, ck_t, nI_clamp, sA, sAf_sAf, gA_sAf, hv]
theorem x7_countWays (hf : 1101 ≤ fu) (h1 : 1 ≤ n) (h8 : n ≤ 8) (hP : PC w n ab) : ∃ f', f_X7_countWays fu w = some (sAf w 1 f') ∧ ∀ s, s < 243 → f' s = nI (WV ab n s) := by
  have li : (242 : Int32) = nI 242 := by decide
  have key := lpI2 (fun k4 => f_X7_countWays_4s fu k4) (fun j y w' => y = (if j < 243 then nI (242 - j) else mI 1) ∧ ∃ f', w' = sAf w 1 f' ∧ ∀ s, 242 < s + j → s < 243 → f' s = nI (WV ab n s)) (fun r => ∃ f', r = some (sAf w 1 f') ∧ ∀ s, s < 243 → f' s = nI (WV ab n s)) 243 ?_ ?_ fu 0 (nI 242) w ⟨rfl, _, (sAf_self w 1).symm, fun s a b => by omega⟩ (by omega) (by omega)
  · obtain ⟨r, ⟨f', e, h⟩, e2⟩ := key
    refine ⟨f', ?_, h⟩
    rw [← e, ← e2]
    simp only [f_X7_countWays, f_X7_countWays_0, f_X7_countWays_4, li]
  · rintro y w' ⟨rfl, f', rfl, g⟩
    refine ⟨_, ⟨f', rfl, fun s hs => g s (by omega) hs⟩, fun rec => ?_⟩
    have e : mI 1 < nI 0 := by decide
    rw [if_neg (by omega)]
    simp only [f_X7_countWays_4s, ↓lm_1, ↓lm_2, ↓lm_3, ↓lm_4, ↓lm_5, ↓lm_6, ↓lm_7, ↓lm_8, ↓lm_9, ↓lm_10, ↓lm_11, li_0, li_1, li_2, li_3, li_4, li_5, li_6, li_7, li_8, li_9, li_10, li_11, li_12, li_13, li_14, li_15, li_16, li_17, li_18, li_19, li_20, li_21, li_22, li_23, li_24, li_25, li_26, li_27, li_28, li_29, li_30, li_31, li_32, li_33, li_34, li_35, li_36, li_37, li_38, li_39, li_40, li_41, li_42, li_43, li_44, li_45, li_46, li_47, li_48, li_49, li_50, li_51, li_52, li_53, li_54, li_55, li_56, li_57, li_58, li_59, li_60, li_61, li_62, li_63, li_64, li_65, li_66, li_96, li_97, li_99, li_100, li_122, li_125, li_126, li_140, li_255, li_256, li_999, li_1000, li_1001, li_1002, li_1100, li_1386, li_1452, li_1518, li_9999, li_1000000, e, ↓reduceIte]
  · rintro j y w' hj ⟨rfl, f', rfl, g⟩
    rw [if_pos hj]
    obtain ⟨f2, g2, e2⟩ := x7_state (fu := fu) hf h1 h8 hP (show 242 - j < 243 by omega) (f := f') (fun s' a b => g s' (by omega) b)
    refine Or.inl ⟨_, sAf w 1 f2, ⟨?_, f2, rfl, fun s a b => g2 s (by omega) b⟩, fun rec => e2 rec⟩
    by_cases c : j + 1 < 243
    · rw [if_pos c]
      have := mI_sub1 (242 - (j + 1))
      rwa [show 242 - (j + 1) + 1 = 242 - j by omega] at this
    · rw [if_neg c, show 242 - j = 0 by omega]; decide
theorem x7_firstWith (hf : 1101 ≤ fu) (h8 : n ≤ 8) (hP : PC w n ab) (hW : ∀ s, s < 243 → gA w 1 s = nI (WV ab n s)) {s c : Nat} (hs : s < 243) (hc : c = 1 + giv s) (hcn : c < n) : f_X7_firstWith fu w (nI s) (nI c) = some (if 0 < nWy ab (n - c) c s then nI (ftn (Fm ab (n - c - 1) c s) 5) else mI 1) := by
  have eN : nWy ab (n - c) c s = sm (Fm ab (n - c - 1) c s) 5 := by rw [← nWy_s, show n - c - 1 + 1 = n - c by omega]
  have hval : ∀ t, t < 5 → f_X7_waysWith fu w (nI s) (nI c) (nI t) = some (nI (Fm ab (n - c - 1) c s t)) ∧ Fm ab (n - c - 1) c s t < 1000000 := by
    intro t ht
    rw [x7_waysWith h8 hP hs (by omega) hcn ht]
    unfold Fm
    by_cases a : ab c t = true ∧ p3 s t < 2
    · obtain ⟨a1, a2⟩ := giv_up hs ht a.2
      have e : WV ab n (s + 3 ^ t) = nWy ab (n - c - 1) (c + 1) (s + 3 ^ t) := by
        rw [WV, a2, if_pos (by omega), show n - (1 + (giv s + 1)) = n - c - 1 by omega, show 1 + (giv s + 1) = c + 1 by omega]
      rw [if_pos a, if_pos a, hW _ a1, e]
      exact ⟨rfl, by rw [← e]; exact WV_le ab h8 _⟩
    · rw [if_neg a, if_neg a]; exact ⟨rfl, by omega⟩
  have key := lpI1 (fun k2 => f_X7_firstWith_2s fu k2 w (nI s) (nI c)) (fun t y => y = nI t ∧ sm (Fm ab (n - c - 1) c s) t = 0) (fun r => r = some (if 0 < nWy ab (n - c) c s then nI (ftn (Fm ab (n - c - 1) c s) 5) else mI 1)) 5 ?_ ?_ fu 0 (nI 0) ⟨rfl, rfl⟩ (by omega) (by omega)
  · obtain ⟨r, hr, e2⟩ := key
    rw [← hr, ← e2]
    simp only [f_X7_firstWith, f_X7_firstWith_0, f_X7_firstWith_2, ↓lm_1, ↓lm_2, ↓lm_3, ↓lm_4, ↓lm_5, ↓lm_6, ↓lm_7, ↓lm_8, ↓lm_9, ↓lm_10, ↓lm_11, li_0, li_1, li_2, li_3, li_4, li_5, li_6, li_7, li_8, li_9, li_10, li_11, li_12, li_13, li_14, li_15, li_16, li_17, li_18, li_19, li_20, li_21, li_22, li_23, li_24, li_25, li_26, li_27, li_28, li_29, li_30, li_31, li_32, li_33, li_34, li_35, li_36, li_37, li_38, li_39, li_40, li_41, li_42, li_43, li_44, li_45, li_46, li_47, li_48, li_49, li_50, li_51, li_52, li_53, li_54, li_55, li_56, li_57, li_58, li_59, li_60, li_61, li_62, li_63, li_64, li_65, li_66, li_96, li_97, li_99, li_100, li_122, li_125, li_126, li_140, li_255, li_256, li_999, li_1000, li_1001, li_1002, li_1100, li_1386, li_1452, li_1518, li_9999, li_1000000]
  · rintro y ⟨rfl, hz⟩
    refine ⟨_, rfl, fun rec => ?_⟩
    have e5 : nI 5 ≤ nI 5 := by decide
    rw [eN, hz, if_neg (by omega)]
    simp only [f_X7_firstWith_2s, ↓lm_1, ↓lm_2, ↓lm_3, ↓lm_4, ↓lm_5, ↓lm_6, ↓lm_7, ↓lm_8, ↓lm_9, ↓lm_10, ↓lm_11, li_0, li_1, li_2, li_3, li_4, li_5, li_6, li_7, li_8, li_9, li_10, li_11, li_12, li_13, li_14, li_15, li_16, li_17, li_18, li_19, li_20, li_21, li_22, li_23, li_24, li_25, li_26, li_27, li_28, li_29, li_30, li_31, li_32, li_33, li_34, li_35, li_36, li_37, li_38, li_39, li_40, li_41, li_42, li_43, li_44, li_45, li_46, li_47, li_48, li_49, li_50, li_51, li_52, li_53, li_54, li_55, li_56, li_57, li_58, li_59, li_60, li_61, li_62, li_63, li_64, li_65, li_66, li_96, li_97, li_99, li_100, li_122, li_125, li_126, li_140, li_255, li_256, li_999, li_1000, li_1001, li_1002, li_1100, li_1386, li_1452, li_1518, li_9999, li_1000000, e5, ↓reduceIte]
  · rintro t y ht ⟨rfl, hz⟩
    have e5 : ¬ nI 5 ≤ nI t := nI_ge ht (by omega)
    obtain ⟨v1, v2⟩ := hval t ht
    have sms : sm (Fm ab (n - c - 1) c s) (t + 1) = sm (Fm ab (n - c - 1) c s) t + Fm ab (n - c - 1) c s t := rfl
    by_cases z : Fm ab (n - c - 1) c s t = 0
    · refine Or.inl ⟨nI (t + 1), ⟨rfl, by omega⟩, fun rec => ?_⟩
      have e : nI 0 ≤ nI 0 := by decide
      simp only [f_X7_firstWith_2s, ↓lm_1, ↓lm_2, ↓lm_3, ↓lm_4, ↓lm_5, ↓lm_6, ↓lm_7, ↓lm_8, ↓lm_9, ↓lm_10, ↓lm_11, li_0, li_1, li_2, li_3, li_4, li_5, li_6, li_7, li_8, li_9, li_10, li_11, li_12, li_13, li_14, li_15, li_16, li_17, li_18, li_19, li_20, li_21, li_22, li_23, li_24, li_25, li_26, li_27, li_28, li_29, li_30, li_31, li_32, li_33, li_34, li_35, li_36, li_37, li_38, li_39, li_40, li_41, li_42, li_43, li_44, li_45, li_46, li_47, li_48, li_49, li_50, li_51, li_52, li_53, li_54, li_55, li_56, li_57, li_58, li_59, li_60, li_61, li_62, li_63, li_64, li_65, li_66, li_96, li_97, li_99, li_100, li_122, li_125, li_126, li_140, li_255, li_256, li_999, li_1000, li_1001, li_1002, li_1100, li_1386, li_1452, li_1518, li_9999, li_1000000, e5, ↓reduceIte, v1, z, bd_s, e, nm_eq, nI_add]
    · refine Or.inr ⟨_, rfl, fun rec => ?_⟩
      have mono : sm (Fm ab (n - c - 1) c s) (t + 1) ≤ sm (Fm ab (n - c - 1) c s) 5 := sm_mono _ (by omega)
      have e : ¬ nI (Fm ab (n - c - 1) c s t) ≤ nI 0 := nI_ge (by omega) (by omega)
      rw [eN, if_pos (by omega), ftn_eq hz (by omega) 5 ht]
      simp only [f_X7_firstWith_2s, ↓lm_1, ↓lm_2, ↓lm_3, ↓lm_4, ↓lm_5, ↓lm_6, ↓lm_7, ↓lm_8, ↓lm_9, ↓lm_10, ↓lm_11, li_0, li_1, li_2, li_3, li_4, li_5, li_6, li_7, li_8, li_9, li_10, li_11, li_12, li_13, li_14, li_15, li_16, li_17, li_18, li_19, li_20, li_21, li_22, li_23, li_24, li_25, li_26, li_27, li_28, li_29, li_30, li_31, li_32, li_33, li_34, li_35, li_36, li_37, li_38, li_39, li_40, li_41, li_42, li_43, li_44, li_45, li_46, li_47, li_48, li_49, li_50, li_51, li_52, li_53, li_54, li_55, li_56, li_57, li_58, li_59, li_60, li_61, li_62, li_63, li_64, li_65, li_66, li_96, li_97, li_99, li_100, li_122, li_125, li_126, li_140, li_255, li_256, li_999, li_1000, li_1001, li_1002, li_1100, li_1386, li_1452, li_1518, li_9999, li_1000000, e5, ↓reduceIte, v1, bd_s, e]
/-- the first way's painter, if there is a way -/
theorem x7_inFirst (hf : 1101 ≤ fu) (h8 : n ≤ 8) (hP : PC w n ab) (hW : ∀ s, s < 243 → gA w 1 s = nI (WV ab n s)) {p : Nat} (hp1 : 1 ≤ p) (hp : p < n) : f_X7_inFirst fu w (nI p) = some (if 0 < nWy ab (n - 1) 1 0 then nI (FT ab (n - 1) 1 0 p) else mI 1) := by
  have key := lpI2 (fun k4 => f_X7_inFirst_4s fu k4 w (nI p)) (fun j x y => y = nI (1 + j) ∧ ∃ s, x = nI s ∧ s < 243 ∧ giv s = j ∧ (0 < nWy ab (n - 1) 1 0 ↔ 0 < nWy ab (n - (1 + j)) (1 + j) s) ∧ (j = 0 ∨ 0 < nWy ab (n - 1) 1 0) ∧ FT ab (n - 1) 1 0 p = FT ab (n - (1 + j)) (1 + j) s p) (fun r => r = some (if 0 < nWy ab (n - 1) 1 0 then nI (FT ab (n - 1) 1 0 p) else mI 1)) (p - 1) ?_ ?_ fu 0 (nI 0) (nI 1) ⟨rfl, 0, rfl, by omega, by decide, Iff.rfl, Or.inl rfl, rfl⟩ (by omega) (by omega)
  · obtain ⟨r, hr, e2⟩ := key
    rw [← hr, ← e2]
    simp only [f_X7_inFirst, f_X7_inFirst_0, f_X7_inFirst_4, ↓lm_1, ↓lm_2, ↓lm_3, ↓lm_4, ↓lm_5, ↓lm_6, ↓lm_7, ↓lm_8, ↓lm_9, ↓lm_10, ↓lm_11, li_0, li_1, li_2, li_3, li_4, li_5, li_6, li_7, li_8, li_9, li_10, li_11, li_12, li_13, li_14, li_15, li_16, li_17, li_18, li_19, li_20, li_21, li_22, li_23, li_24, li_25, li_26, li_27, li_28, li_29, li_30, li_31, li_32, li_33, li_34, li_35, li_36, li_37, li_38, li_39, li_40, li_41, li_42, li_43, li_44, li_45, li_46, li_47, li_48, li_49, li_50, li_51, li_52, li_53, li_54, li_55, li_56, li_57, li_58, li_59, li_60, li_61, li_62, li_63, li_64, li_65, li_66, li_96, li_97, li_99, li_100, li_122, li_125, li_126, li_140, li_255, li_256, li_999, li_1000, li_1001, li_1002, li_1100, li_1386, li_1452, li_1518, li_9999, li_1000000]
  · rintro x y ⟨rfl, s, rfl, hs, hg, hN, _, hFT⟩
    refine ⟨_, rfl, fun rec => ?_⟩
    have e1 : 1 + (p - 1) = p := by omega
    rw [e1] at hN hFT ⊢
    have fw := x7_firstWith (fu := fu) hf h8 hP hW hs (c := p) (by omega) hp
    have nl : ¬ nI p < nI p := nI_nlt (by omega) (by omega)
    by_cases c : 0 < nWy ab (n - p) p s
    · rw [if_pos c] at fw
      rw [if_pos (hN.mpr c)]
      have eN : nWy ab (n - p) p s = sm (Fm ab (n - p - 1) p s) 5 := by rw [← nWy_s, show n - p - 1 + 1 = n - p by omega]
      have ff := ftn_f (F := Fm ab (n - p - 1) p s) 5 (by omega)
      have ef : FT ab (n - p) p s p = ftn (Fm ab (n - p - 1) p s) 5 := by
        rw [show n - p = n - p - 1 + 1 by omega, FT, upN_s]; rfl
      have nm1 : ¬ nI (ftn (Fm ab (n - p - 1) p s) 5) = mI 1 := nI_nem (by omega) (by omega) (by omega)
      rw [hFT, ef]
      simp only [f_X7_inFirst_4s, f_X7_inFirst_28, ↓lm_1, ↓lm_2, ↓lm_3, ↓lm_4, ↓lm_5, ↓lm_6, ↓lm_7, ↓lm_8, ↓lm_9, ↓lm_10, ↓lm_11, li_0, li_1, li_2, li_3, li_4, li_5, li_6, li_7, li_8, li_9, li_10, li_11, li_12, li_13, li_14, li_15, li_16, li_17, li_18, li_19, li_20, li_21, li_22, li_23, li_24, li_25, li_26, li_27, li_28, li_29, li_30, li_31, li_32, li_33, li_34, li_35, li_36, li_37, li_38, li_39, li_40, li_41, li_42, li_43, li_44, li_45, li_46, li_47, li_48, li_49, li_50, li_51, li_52, li_53, li_54, li_55, li_56, li_57, li_58, li_59, li_60, li_61, li_62, li_63, li_64, li_65, li_66, li_96, li_97, li_99, li_100, li_122, li_125, li_126, li_140, li_255, li_256, li_999, li_1000, li_1001, li_1002, li_1100, li_1386, li_1452, li_1518, li_9999, li_1000000, nl, ↓reduceIte, fw, bd_s, nm1]
    · rw [if_neg c] at fw
      rw [if_neg (fun z => c (hN.mp z))]
      simp only [f_X7_inFirst_4s, f_X7_inFirst_28, ↓lm_1, ↓lm_2, ↓lm_3, ↓lm_4, ↓lm_5, ↓lm_6, ↓lm_7, ↓lm_8, ↓lm_9, ↓lm_10, ↓lm_11, li_0, li_1, li_2, li_3, li_4, li_5, li_6, li_7, li_8, li_9, li_10, li_11, li_12, li_13, li_14, li_15, li_16, li_17, li_18, li_19, li_20, li_21, li_22, li_23, li_24, li_25, li_26, li_27, li_28, li_29, li_30, li_31, li_32, li_33, li_34, li_35, li_36, li_37, li_38, li_39, li_40, li_41, li_42, li_43, li_44, li_45, li_46, li_47, li_48, li_49, li_50, li_51, li_52, li_53, li_54, li_55, li_56, li_57, li_58, li_59, li_60, li_61, li_62, li_63, li_64, li_65, li_66, li_96, li_97, li_99, li_100, li_122, li_125, li_126, li_140, li_255, li_256, li_999, li_1000, li_1001, li_1002, li_1100, li_1386, li_1452, li_1518, li_9999, li_1000000, nl, ↓reduceIte, fw, bd_s]
  · rintro j x y hj ⟨rfl, s, rfl, hs, hg, hN, hor, hFT⟩
    have fw := x7_firstWith (fu := fu) hf h8 hP hW hs (c := 1 + j) (by omega) (by omega)
    have nl : ¬ nI p < nI (1 + j) := nI_nlt (by omega) (by omega)
    have ne : ¬ nI (1 + j) = nI p := by rw [nI_eq (by omega) (by omega)]; omega
    by_cases c : 0 < nWy ab (n - (1 + j)) (1 + j) s
    · rw [if_pos c] at fw
      have eN : nWy ab (n - (1 + j)) (1 + j) s = sm (Fm ab (n - (1 + j) - 1) (1 + j) s) 5 := by rw [← nWy_s, show n - (1 + j) - 1 + 1 = n - (1 + j) by omega]
      obtain ⟨f1, f2, f3⟩ := ftn_f (F := Fm ab (n - (1 + j) - 1) (1 + j) s) 5 (by omega)
      have ef : FT ab (n - (1 + j)) (1 + j) s p = FT ab (n - (1 + j) - 1) (1 + j + 1) (s + 3 ^ ftn (Fm ab (n - (1 + j) - 1) (1 + j) s) 5) p := by
        rw [show n - (1 + j) = n - (1 + j) - 1 + 1 by omega, FT, upN_n (by omega)]; rfl
      generalize ftn (Fm ab (n - (1 + j) - 1) (1 + j) s) 5 = t at *
      have hok : ab (1 + j) t = true ∧ p3 s t < 2 := by
        apply Classical.byContradiction
        intro z
        rw [Fm, if_neg z] at f2; omega
      rw [Fm, if_pos hok] at f2
      obtain ⟨g1, g2⟩ := giv_up hs f1 hok.2
      have nm1 : ¬ nI t = mI 1 := nI_nem (by omega) (by omega) (by omega)
      have u := uni_at f1
      simp only [li_0] at u
      have en : n - (1 + (j + 1)) = n - (1 + j) - 1 := by omega
      have e1 : 1 + (j + 1) = 1 + j + 1 := by omega
      refine Or.inl ⟨nI (s + 3 ^ t), nI (1 + (j + 1)), ⟨rfl, _, rfl, g1, by omega, ?_, Or.inr (hN.mpr c), ?_⟩, fun rec => ?_⟩
      · rw [en, e1]; exact ⟨fun _ => f2, fun _ => hN.mpr c⟩
      · rw [hFT, ef, en, e1]
      · simp (disch := omega) only [f_X7_inFirst_4s, ↓lm_1, ↓lm_2, ↓lm_3, ↓lm_4, ↓lm_5, ↓lm_6, ↓lm_7, ↓lm_8, ↓lm_9, ↓lm_10, ↓lm_11, li_0, li_1, li_2, li_3, li_4, li_5, li_6, li_7, li_8, li_9, li_10, li_11, li_12, li_13, li_14, li_15, li_16, li_17, li_18, li_19, li_20, li_21, li_22, li_23, li_24, li_25, li_26, li_27, li_28, li_29, li_30, li_31, li_32, li_33, li_34, li_35, li_36, li_37, li_38, li_39, li_40, li_41, li_42, li_43, li_44, li_45, li_46, li_47, li_48, li_49, li_50, li_51, li_52, li_53, li_54, li_55, li_56, li_57, li_58, li_59, li_60, li_61, li_62, li_63, li_64, li_65, li_66, li_96, li_97, li_99, li_100, li_122, li_125, li_126, li_140, li_255, li_256, li_999, li_1000, li_1001, li_1002, li_1100, li_1386, li_1452, li_1518, li_9999, li_1000000, nl, ↓reduceIte, fw, bd_s, nm1, ne, inb_n, ck_t, nI_clamp, u, nI_add, nm_eq, Nat.add_assoc, Nat.reduceAdd]
    · rw [if_neg c] at fw
      refine Or.inr ⟨_, rfl, fun rec => ?_⟩
      rw [if_neg (fun z => c (hN.mp z))]
      simp only [f_X7_inFirst_4s, f_X7_inFirst_28, ↓lm_1, ↓lm_2, ↓lm_3, ↓lm_4, ↓lm_5, ↓lm_6, ↓lm_7, ↓lm_8, ↓lm_9, ↓lm_10, ↓lm_11, li_0, li_1, li_2, li_3, li_4, li_5, li_6, li_7, li_8, li_9, li_10, li_11, li_12, li_13, li_14, li_15, li_16, li_17, li_18, li_19, li_20, li_21, li_22, li_23, li_24, li_25, li_26, li_27, li_28, li_29, li_30, li_31, li_32, li_33, li_34, li_35, li_36, li_37, li_38, li_39, li_40, li_41, li_42, li_43, li_44, li_45, li_46, li_47, li_48, li_49, li_50, li_51, li_52, li_53, li_54, li_55, li_56, li_57, li_58, li_59, li_60, li_61, li_62, li_63, li_64, li_65, li_66, li_96, li_97, li_99, li_100, li_122, li_125, li_126, li_140, li_255, li_256, li_999, li_1000, li_1001, li_1002, li_1100, li_1386, li_1452, li_1518, li_9999, li_1000000, nl, ↓reduceIte, fw, bd_s]
end C
/-! weigh, and the two questions -/
section W
variable {fu p a t : Nat} {S : ST} {G : GP} {q : HP}
theorem x7_skilled (hf : 1101 ≤ fu) (hG : okG G) (hg : CG S t G) {c : Nat} : f_X7_skilled fu S t (hof G q (qs q c) (fo (qw q c))) = some (nI (setb (abl G q c) 5)) := by
  have h5 := hG.2.1
  have e5 : setb (abl G q c) 5 = setb (abl G q c) (nt G) := by
    apply Nat.eq_of_testBit_eq
    intro k
    rw [tb_setb, tb_setb]
    by_cases h : k < nt G
    · have : k < 5 := by omega
      simp [h, this]
    · rw [abl_nt (by omega)]; simp
  rw [e5]
  simp only [f_X7_skilled, f_X7_skilled_0, f_X7_skilled_4, ↓lm_1, ↓lm_2, ↓lm_3, ↓lm_4, ↓lm_5, ↓lm_6, ↓lm_7, ↓lm_8, ↓lm_9, ↓lm_10, ↓lm_11, li_0, li_1, li_2, li_3, li_4, li_5, li_6, li_7, li_8, li_9, li_10, li_11, li_12, li_13, li_14, li_15, li_16, li_17, li_18, li_19, li_20, li_21, li_22, li_23, li_24, li_25, li_26, li_27, li_28, li_29, li_30, li_31, li_32, li_33, li_34, li_35, li_36, li_37, li_38, li_39, li_40, li_41, li_42, li_43, li_44, li_45, li_46, li_47, li_48, li_49, li_50, li_51, li_52, li_53, li_54, li_55, li_56, li_57, li_58, li_59, li_60, li_61, li_62, li_63, li_64, li_65, li_66, li_96, li_97, li_99, li_100, li_122, li_125, li_126, li_140, li_255, li_256, li_999, li_1000, li_1001, li_1002, li_1100, li_1386, li_1452, li_1518, li_9999, li_1000000]
  refine for2 _ (fun k => nI (setb (abl G q c) k)) (fun k => nI k) 0 (nt G) _ ?_ ?_ fu (by omega) (by omega)
  · intro rec
    simp (disch := omega) only [f_X7_skilled_4s, hg.2.2.1, nI_leI, Nat.le_refl, ↓reduceIte]
  · intro k rec _ hk
    have hle : ¬ nI (nt G) ≤ nI k := nI_ge hk (by omega)
    have hz := setb_lt' (abl G q c) (k := k) (by omega)
    simp (disch := omega) only [f_X7_skilled_4s, f_X7_skilled_28, ↓lm_1, ↓lm_2, ↓lm_3, ↓lm_4, ↓lm_5, ↓lm_6, ↓lm_7, ↓lm_8, ↓lm_9, ↓lm_10, ↓lm_11, li_0, li_1, li_2, li_3, li_4, li_5, li_6, li_7, li_8, li_9, li_10, li_11, li_12, li_13, li_14, li_15, li_16, li_17, li_18, li_19, li_20, li_21, li_22, li_23, li_24, li_25, li_26, li_27, li_28, li_29, li_30, li_31, li_32, li_33, li_34, li_35, li_36, li_37, li_38, li_39, li_40, li_41, li_42, li_43, li_44, li_45, li_46, li_47, li_48, li_49, li_50, li_51, li_52, li_53, li_54, li_55, li_56, li_57, li_58, li_59, li_60, li_61, li_62, li_63, li_64, li_65, li_66, li_96, li_97, li_99, li_100, li_122, li_125, li_126, li_140, li_255, li_256, li_999, li_1000, li_1001, li_1002, li_1100, li_1386, li_1452, li_1518, li_9999, li_1000000, hg.2.2.1, hle, ↓reduceIte, inb_n, ck_t, nI_clamp, (hg.2.2.2.2.1 k hk).2.1, nI_and31, nI_shl1, nm_eq, nI_add, setb]
    have ea : abl G q c k = !decide (nI (sk G k) < hof G q (qs q c) (fo (qw q c))) := by rw [abl, decide_eq_true hk, Bool.true_and]
    by_cases h : nI (sk G k) < hof G q (qs q c) (fo (qw q c))
    · rw [if_pos h, if_neg (by rw [ea, decide_eq_true h]; decide)]
    · rw [if_neg h, if_pos (by rw [ea, decide_eq_false h]; rfl), setb_step _ (by omega)]
theorem x7_weigh (hf : 1101 ≤ fu) (hG : okG G) (hq : okq G q) (h0 : gC (S p) = 11 ∧ gC (S (p + 29)) = 7 ∧ gC (S (p + 9)) = 3) (hw : CH (S (p + 9)) q) (hg : CG S t G) : ∃ S', f_X7_weigh fu S (p + 29) (p + 9) t = some S' ∧ scr p S S' ∧ PC (S' (p + 29)) (qn q) (abl G q) ∧ ∀ s, s < 243 → gA (S' (p + 29)) 1 s = nI (WV (abl G q) (qn q) s) := by
  have h1 := hq.1.1
  have h8 := hq.1.2.1
  have t29 : t ≠ p + 29 := by rintro rfl; have := hg.1; omega
  have key := lpI2 (fun k10 => f_X7_weigh_10s fu k10 (p + 29) (p + 9) t) (fun k y S' => y = nI (1 + k) ∧ scr p S S' ∧ CH (S' (p + 9)) q ∧ CG S' t G ∧ gC (S' (p + 29)) = 7 ∧ gC (S' p) = 11 ∧ gI (S' (p + 29)) 2 = nI (qn q) ∧ ∀ c, 1 ≤ c → c < 1 + k → gA (S' (p + 29)) 0 c = nI (setb (abl G q c) 5)) (fun r => ∃ S', r = some S' ∧ scr p S S' ∧ PC (S' (p + 29)) (qn q) (abl G q) ∧ ∀ s, s < 243 → gA (S' (p + 29)) 1 s = nI (WV (abl G q) (qn q) s)) (qn q - 1) ?_ ?_ fu 0 (nI 1) (st S (p + 29) (sI (S (p + 29)) 2 (nI (qn q)))) ⟨rfl, scr_st (scr_refl p S) (by omega) rfl, by rw [st_ne _ _ (by omega)]; exact hw, ?_, by rw [st_same]; exact h0.2.1, by rw [st_ne _ _ (by omega)]; exact h0.1, by rw [st_same, gI_sI, if_pos rfl], fun c a b => by omega⟩ (by omega) (by omega)
  · obtain ⟨r, ⟨S', e, k⟩, e2⟩ := key
    refine ⟨S', ?_, k⟩
    rw [← e, ← e2]
    simp only [f_X7_weigh, f_X7_weigh_0, f_X7_weigh_10, ↓lm_1, ↓lm_2, ↓lm_3, ↓lm_4, ↓lm_5, ↓lm_6, ↓lm_7, ↓lm_8, ↓lm_9, ↓lm_10, ↓lm_11, li_0, li_1, li_2, li_3, li_4, li_5, li_6, li_7, li_8, li_9, li_10, li_11, li_12, li_13, li_14, li_15, li_16, li_17, li_18, li_19, li_20, li_21, li_22, li_23, li_24, li_25, li_26, li_27, li_28, li_29, li_30, li_31, li_32, li_33, li_34, li_35, li_36, li_37, li_38, li_39, li_40, li_41, li_42, li_43, li_44, li_45, li_46, li_47, li_48, li_49, li_50, li_51, li_52, li_53, li_54, li_55, li_56, li_57, li_58, li_59, li_60, li_61, li_62, li_63, li_64, li_65, li_66, li_96, li_97, li_99, li_100, li_122, li_125, li_126, li_140, li_255, li_256, li_999, li_1000, li_1001, li_1002, li_1100, li_1386, li_1452, li_1518, li_9999, li_1000000, nm_eq, hw.2.2.1]
  · rintro y S' ⟨rfl, s1, w1, g1, c1, c2, i2, ha⟩
    have e1 : 1 + (qn q - 1) = qn q := by omega
    rw [e1] at ha ⊢
    have hP : PC (S' (p + 29)) (qn q) (abl G q) := ⟨c1, i2, ha⟩
    obtain ⟨f', k1, k2⟩ := x7_countWays (fu := fu) hf h1 h8 hP
    refine ⟨_, ⟨st S' (p + 29) (sAf (S' (p + 29)) 1 f'), rfl, scr_st s1 (by omega) rfl, ?_, fun s hs => by rw [st_same, gA_sAf]; exact k2 s hs⟩, fun rec => ?_⟩
    · rw [st_same]; exact ⟨c1, i2, fun c a b => by rw [gA_sAfn _ _ (by decide)]; exact ha c a b⟩
    · simp (disch := omega) only [f_X7_weigh_10s, i2, nI_leI, Nat.le_refl, ↓reduceIte, k1, bd_s, nm_eq]
  · rintro k y S' hk ⟨rfl, s1, w1, g1, c1, c2, i2, ha⟩
    have hc1 : 1 + k < qn q := by omega
    have hle : ¬ nI (qn q) ≤ nI (1 + k) := nI_ge hc1 (by omega)
    obtain ⟨a1, a2, a3⟩ := hq.2.2.1 (1 + k) (by omega) hc1
    have tz := tz256 (fu := fu) a2
    rw [if_neg (by omega)] at tz
    have r1 := (w1.2.2.2.2.2.1 (1 + k) hc1).2.2.2.1
    rw [if_neg (by omega)] at r1
    have r2 := (w1.2.2.2.2.2.1 (1 + k) hc1).2.2.2.2 (by omega)
    obtain ⟨S2, eh, lw2⟩ := x3_hardOf (fu := fu) (S := S') (a := p + 9) (g := t) (s := fo (qw q (1 + k))) hf w1 hq g1 (show qs q (1 + k) < qn q by omega)
    have g2 := CG_lw g1 lw2
    have sk2 := x7_skilled (fu := fu) (q := q) (c := 1 + k) hf hG g2
    have e29 : S2 (p + 29) = S' (p + 29) := lw_at lw2 (by rw [c1]; decide)
    have e9 : S2 (p + 9) = S' (p + 9) := lw_at lw2 (by rw [w1.1]; decide)
    have ep : S2 p = S' p := lw_at lw2 (by rw [c2]; decide)
    refine Or.inl ⟨nI (1 + (k + 1)), st S2 (p + 29) (sA (S2 (p + 29)) 0 (1 + k) (nI (setb (abl G q (1 + k)) 5))), ⟨rfl, ?_, ?_, ?_, ?_, ?_, ?_, fun c a b => ?_⟩, fun rec => ?_⟩
    · exact scr_st (scr_trans s1 (scr_lw lw2 (by rw [c2]; decide))) (by omega) rfl
    · rw [st_ne _ _ (by omega), e9]; exact w1
    · refine CG_keep g2 (st_ne _ _ t29) (fun b hb => Or.inl (st_ne _ _ ?_))
      rintro rfl; rw [e29] at hb; omega
    · rw [st_same]; show gC (S2 (p + 29)) = 7; rw [e29]; exact c1
    · rw [st_ne _ _ (by omega), ep]; exact c2
    · rw [st_same, gI_sA, e29]; exact i2
    · rw [st_same, gA_sA]
      by_cases e : c = 1 + k
      · rw [if_pos e, e]
      · rw [if_neg e, e29]; exact ha c a (by omega)
    · simp (disch := omega) only [f_X7_weigh_10s, ↓lm_1, ↓lm_2, ↓lm_3, ↓lm_4, ↓lm_5, ↓lm_6, ↓lm_7, ↓lm_8, ↓lm_9, ↓lm_10, ↓lm_11, li_0, li_1, li_2, li_3, li_4, li_5, li_6, li_7, li_8, li_9, li_10, li_11, li_12, li_13, li_14, li_15, li_16, li_17, li_18, li_19, li_20, li_21, li_22, li_23, li_24, li_25, li_26, li_27, li_28, li_29, li_30, li_31, li_32, li_33, li_34, li_35, li_36, li_37, li_38, li_39, li_40, li_41, li_42, li_43, li_44, li_45, li_46, li_47, li_48, li_49, li_50, li_51, li_52, li_53, li_54, li_55, li_56, li_57, li_58, li_59, li_60, li_61, li_62, li_63, li_64, li_65, li_66, li_96, li_97, li_99, li_100, li_122, li_125, li_126, li_140, li_255, li_256, li_999, li_1000, li_1001, li_1002, li_1100, li_1386, li_1452, li_1518, li_9999, li_1000000, i2, hle, ↓reduceIte, inb_n, ck_t, nI_clamp, r1, r2, tz, bd_s, eh, bd2_s, sk2, nm_eq, nI_add, Nat.add_assoc, Nat.reduceAdd]
  · refine CG_keep hg (st_ne _ _ t29) (fun b hb => Or.inl (st_ne _ _ ?_))
    rintro rfl; omega
end W
theorem WV_0 (ab : Nat → Nat → Bool) {n : Nat} (h1 : 1 ≤ n) : WV ab n 0 = nWy ab (n - 1) 1 0 := by
  have e : giv 0 = 0 := by decide
  rw [WV, e, if_pos (by omega)]
theorem nwb (ab : Nat → Nat → Bool) {n : Nat} (h8 : n ≤ 8) : nWy ab (n - 1) 1 0 < 1000000 := by
  have h1 := nWy_le ab (n - 1) 1 0
  have h2 : 5 ^ (n - 1) ≤ 5 ^ 7 := Nat.pow_le_pow_right (by decide) (by omega)
  have h57 : (5 : Nat) ^ 7 = 78125 := by decide
  omega
section R
variable {fu p : Nat} {S : ST} {v : GV}
theorem r_painters (hf : 1101 ≤ fu) (h : RR p S v) : ∃ z S' v', f_X12_painters fu S p = some (z, S') ∧ f_X13_painters fu v = some (z, v') ∧ RR p S' v' := by
  obtain ⟨A, hA, hC, hM⟩ := h
  obtain ⟨t, d, ln, dl, f, hP, hK⟩ := id hC
  have hq := hA.2.1.1
  have c29 := hP.1.2.2.2.2.2.1
  have c9 := hP.1.2.2.1
  obtain ⟨S', k1, k2, k3, k4⟩ := x7_weigh (fu := fu) hf hA.1 hq ⟨hP.1.1, c29, c9⟩ hK.1.1 hK.2.1
  obtain ⟨v', ev, m1, m2, m3, _⟩ := m_findWays (fu := fu) (v := sI v 0 (nI 0)) hf hA.1 hq hM.2.1 hM.2.2.1.1 hM.2.2.2.2.2.2.2.2.2.2
  refine ⟨nI (nWy (abl (aG A) (aQ A).1) (qn (aQ A).1 - 1) 1 0), S', v', ?_, ?_, RR_q hA hC hM k2 (mscr_trans (q1 v) m2)⟩
  · have e := k4 0 (by omega)
    rw [WV_0 _ hq.1.1] at e
    simp (disch := omega) only [f_X12_painters, f_X12_painters_0, c29, c9, decide_true, ck_t, hP.2.2.2.2.1.1, bd_s, hP.2.1.1, k1, f_X7_total, f_X7_total_0, ↓lm_1, ↓lm_2, ↓lm_3, ↓lm_4, ↓lm_5, ↓lm_6, ↓lm_7, ↓lm_8, ↓lm_9, ↓lm_10, ↓lm_11, li_0, li_1, li_2, li_3, li_4, li_5, li_6, li_7, li_8, li_9, li_10, li_11, li_12, li_13, li_14, li_15, li_16, li_17, li_18, li_19, li_20, li_21, li_22, li_23, li_24, li_25, li_26, li_27, li_28, li_29, li_30, li_31, li_32, li_33, li_34, li_35, li_36, li_37, li_38, li_39, li_40, li_41, li_42, li_43, li_44, li_45, li_46, li_47, li_48, li_49, li_50, li_51, li_52, li_53, li_54, li_55, li_56, li_57, li_58, li_59, li_60, li_61, li_62, li_63, li_64, li_65, li_66, li_96, li_97, li_99, li_100, li_122, li_125, li_126, li_140, li_255, li_256, li_999, li_1000, li_1001, li_1002, li_1100, li_1386, li_1452, li_1518, li_9999, li_1000000, nI_clamp, e]
  · simp only [f_X13_painters, f_X13_painters_0, ↓lm_1, ↓lm_2, ↓lm_3, ↓lm_4, ↓lm_5, ↓lm_6, ↓lm_7, ↓lm_8, ↓lm_9, ↓lm_10, ↓lm_11, li_0, li_1, li_2, li_3, li_4, li_5, li_6, li_7, li_8, li_9, li_10, li_11, li_12, li_13, li_14, li_15, li_16, li_17, li_18, li_19, li_20, li_21, li_22, li_23, li_24, li_25, li_26, li_27, li_28, li_29, li_30, li_31, li_32, li_33, li_34, li_35, li_36, li_37, li_38, li_39, li_40, li_41, li_42, li_43, li_44, li_45, li_46, li_47, li_48, li_49, li_50, li_51, li_52, li_53, li_54, li_55, li_56, li_57, li_58, li_59, li_60, li_61, li_62, li_63, li_64, li_65, li_66, li_96, li_97, li_99, li_100, li_122, li_125, li_126, li_140, li_255, li_256, li_999, li_1000, li_1001, li_1002, li_1100, li_1386, li_1452, li_1518, li_9999, li_1000000, nm_eq, m1, bd_s, m3]
theorem ever_1 {ab : Nat → Nat → Bool} {n p u ev : Nat} (hu : u < 5) (hp1 : 1 ≤ p) (hp : p < n) (he : ev < 32) (hev : ∀ u, bt ev u = 1 ↔ 0 < nWy (abr ab p u) (n - 1) 1 0) (hpos : 0 < nWy (abr ab p u) (n - 1) 1 0) : pcn ev ≤ 1 ↔ nWy (abr ab p u) (n - 1) 1 0 = nWy ab (n - 1) 1 0 := by
  have hs := nWy_sum ab p (n - 1) 1 0 hp1 (by omega)
  rw [sm_5] at hs
  have e : pcn ev = bs ev 5 := by
    have := (mmr_hi (X := ev) (n := 5) (by omega) 25).2
    exact this
  have e5 : bs ev 5 = bt ev 0 + bt ev 1 + bt ev 2 + bt ev 3 + bt ev 4 := by simp only [bs]; omega
  have z : ∀ k, (bt ev k = 1 ∧ 0 < nWy (abr ab p k) (n - 1) 1 0) ∨ (bt ev k = 0 ∧ nWy (abr ab p k) (n - 1) 1 0 = 0) := by
    intro k
    rcases bt_01 ev k with a | a
    · refine Or.inr ⟨a, ?_⟩
      apply Classical.byContradiction
      intro b
      have := (hev k).mpr (by omega)
      omega
    · exact Or.inl ⟨a, (hev k).mp a⟩
  rw [e, e5, ← hs]
  have z0 := z 0
  have z1 := z 1
  have z2 := z 2
  have z3 := z 3
  have z4 := z 4
  rcases (show u = 0 ∨ u = 1 ∨ u = 2 ∨ u = 3 ∨ u = 4 by omega) with rfl | rfl | rfl | rfl | rfl <;> omega
theorem FT_at (ab : Nat → Nat → Bool) : ∀ m c x p, x < 243 → c ≤ p → p < c + m → 0 < nWy ab m c x → FT ab m c x p < 5 ∧ ab p (FT ab m c x p) = true ∧ 0 < nWy (abr ab p (FT ab m c x p)) m c x := by
  intro m
  induction m with
  | zero => intro c x p _ h1 h2; omega
  | succ m ih =>
    intro c x p hx h1 h2 h3
    rw [nWy_s] at h3
    obtain ⟨f1, f2, f3⟩ := ftn_f 5 h3
    have eF : FT ab (m + 1) c x = upN (FT ab m (c + 1) (x + 3 ^ ftn (Fm ab m c x) 5)) c (ftn (Fm ab m c x) 5) := rfl
    rw [eF]
    generalize ftn (Fm ab m c x) 5 = t at *
    have hok : ab c t = true ∧ p3 x t < 2 := by
      apply Classical.byContradiction
      intro z
      rw [Fm, if_neg z] at f2; omega
    have f2' := f2
    rw [Fm, if_pos hok] at f2
    obtain ⟨g1, g2⟩ := giv_up hx f1 hok.2
    by_cases e : p = c
    · subst e
      rw [upN_s]
      refine ⟨f1, hok.1, ?_⟩
      rw [nWy_s]
      have hm : sm (Fm (abr ab p t) m p x) (t + 1) ≤ sm (Fm (abr ab p t) m p x) 5 := sm_mono _ (by omega)
      have hv : Fm (abr ab p t) m p x t = nWy ab m (p + 1) (x + 3 ^ t) := by
        have : abr ab p t p t = true := by rw [abr, if_pos rfl, hok.1, decide_eq_true rfl]; rfl
        rw [Fm, if_pos ⟨this, hok.2⟩, nWy_abr _ _ _ _ (by omega)]
      have hm2 : sm (Fm (abr ab p t) m p x) (t + 1) = sm (Fm (abr ab p t) m p x) t + Fm (abr ab p t) m p x t := rfl
      omega
    · rw [upN_n e]
      obtain ⟨i1, i2, i3⟩ := ih (c + 1) (x + 3 ^ t) p g1 (by omega) (by omega) f2
      refine ⟨i1, i2, ?_⟩
      generalize FT ab m (c + 1) (x + 3 ^ t) p = u at *
      rw [nWy_s]
      have hm : sm (Fm (abr ab p u) m c x) (t + 1) ≤ sm (Fm (abr ab p u) m c x) 5 := sm_mono _ (by omega)
      have hv : Fm (abr ab p u) m c x t = nWy (abr ab p u) m (c + 1) (x + 3 ^ t) := by
        have : abr ab p u c t = true := by rw [abr, if_neg (fun z => e z.symm)]; exact hok.1
        rw [Fm, if_pos ⟨this, hok.2⟩]
      have hm2 : sm (Fm (abr ab p u) m c x) (t + 1) = sm (Fm (abr ab p u) m c x) t + Fm (abr ab p u) m c x t := rfl
      omega
theorem r_painter (hf : 1101 ≤ fu) (h : RR p S v) (x y : Int32) : ∃ z S' v', f_X12_painter fu S p x y = some (z, S') ∧ f_X13_painter fu v x y = some (z, v') ∧ RR p S' v' := by
  obtain ⟨A, hA, hC, hM⟩ := h
  obtain ⟨t, d, ln, dl, f, hP, hK⟩ := id hC
  have hq := hA.2.1.1
  have h8 := hq.1.2.1
  have c29 := hP.1.2.2.2.2.2.1
  have c9 := hP.1.2.2.1
  have hw := hK.1.1
  have hh : MH (gA (sI v 0 (nI 0)) 24) (aQ A).1 := hM.2.2.1.1
  have hno : RR p S (sI v 0 (nI 0)) := RR_q hA hC hM (scr_refl p S) (q1 v)
  by_cases hx : ∃ j, j < qn (aQ A).1 ∧ x = nI j
  · obtain ⟨a, ha, rfl⟩ := hx
    by_cases a0 : a = 0
    · subst a0
      refine ⟨mI 1, S, sI v 0 (nI 0), ?_, ?_, hno⟩
      · have e : nI 0 < nI 1 := by decide
        simp only [f_X12_painter, f_X12_painter_0, f_X12_painter_16, ↓lm_1, ↓lm_2, ↓lm_3, ↓lm_4, ↓lm_5, ↓lm_6, ↓lm_7, ↓lm_8, ↓lm_9, ↓lm_10, ↓lm_11, li_0, li_1, li_2, li_3, li_4, li_5, li_6, li_7, li_8, li_9, li_10, li_11, li_12, li_13, li_14, li_15, li_16, li_17, li_18, li_19, li_20, li_21, li_22, li_23, li_24, li_25, li_26, li_27, li_28, li_29, li_30, li_31, li_32, li_33, li_34, li_35, li_36, li_37, li_38, li_39, li_40, li_41, li_42, li_43, li_44, li_45, li_46, li_47, li_48, li_49, li_50, li_51, li_52, li_53, li_54, li_55, li_56, li_57, li_58, li_59, li_60, li_61, li_62, li_63, li_64, li_65, li_66, li_96, li_97, li_99, li_100, li_122, li_125, li_126, li_140, li_255, li_256, li_999, li_1000, li_1001, li_1002, li_1100, li_1386, li_1452, li_1518, li_9999, li_1000000, e, ↓reduceIte]
      · simp only [f_X13_painter, f_X13_painter_0, f_X13_painter_18, ↓lm_1, ↓lm_2, ↓lm_3, ↓lm_4, ↓lm_5, ↓lm_6, ↓lm_7, ↓lm_8, ↓lm_9, ↓lm_10, ↓lm_11, li_0, li_1, li_2, li_3, li_4, li_5, li_6, li_7, li_8, li_9, li_10, li_11, li_12, li_13, li_14, li_15, li_16, li_17, li_18, li_19, li_20, li_21, li_22, li_23, li_24, li_25, li_26, li_27, li_28, li_29, li_30, li_31, li_32, li_33, li_34, li_35, li_36, li_37, li_38, li_39, li_40, li_41, li_42, li_43, li_44, li_45, li_46, li_47, li_48, li_49, li_50, li_51, li_52, li_53, li_54, li_55, li_56, li_57, li_58, li_59, li_60, li_61, li_62, li_63, li_64, li_65, li_66, li_96, li_97, li_99, li_100, li_122, li_125, li_126, li_140, li_255, li_256, li_999, li_1000, li_1001, li_1002, li_1100, li_1386, li_1452, li_1518, li_9999, li_1000000, nm_eq, ↓reduceIte]
    · obtain ⟨S', k1, k2, k3, k4⟩ := x7_weigh (fu := fu) hf hA.1 hq ⟨hP.1.1, c29, c9⟩ hw hK.2.1
      obtain ⟨v', ev, m1, m2, m3, m4, m5⟩ := m_findWays (fu := fu) (v := sI v 0 (nI 0)) hf hA.1 hq hM.2.1 hM.2.2.1.1 hM.2.2.2.2.2.2.2.2.2.2
      obtain ⟨m5a, m5b, m5c⟩ := m5 a (by omega) ha
      have nw := nwb (abl (aG A) (aQ A).1) h8
      have inf := x7_inFirst (fu := fu) hf h8 k3 k4 (show 1 ≤ a by omega) ha
      have c29' : gC (S' (p + 29)) = 7 := k3.1
      have x1 : ¬ nI a < nI 1 := nI_nlt (by omega) (by omega)
      have a0' : ¬ nI a = nI 0 := by rw [nI_eq (by omega) (by omega)]; exact a0
      have hmm := mscr_trans (q1 v) m2
      have pre : f_X12_painter fu S p (nI a) y = (if y = nI 0 then (bd (f_X7_inFirst fu (S' (p + 29)) (nI a)) fun r11 => some (r11, S')) else bd2 (f_X7_inAll fu (S' (p + 29)) (nI a)) fun r12 v13 => some (r12, st S' (p + 29) v13)) := by
        simp only [f_X12_painter, f_X12_painter_0, ↓lm_1, ↓lm_2, ↓lm_3, ↓lm_4, ↓lm_5, ↓lm_6, ↓lm_7, ↓lm_8, ↓lm_9, ↓lm_10, ↓lm_11, li_0, li_1, li_2, li_3, li_4, li_5, li_6, li_7, li_8, li_9, li_10, li_11, li_12, li_13, li_14, li_15, li_16, li_17, li_18, li_19, li_20, li_21, li_22, li_23, li_24, li_25, li_26, li_27, li_28, li_29, li_30, li_31, li_32, li_33, li_34, li_35, li_36, li_37, li_38, li_39, li_40, li_41, li_42, li_43, li_44, li_45, li_46, li_47, li_48, li_49, li_50, li_51, li_52, li_53, li_54, li_55, li_56, li_57, li_58, li_59, li_60, li_61, li_62, li_63, li_64, li_65, li_66, li_96, li_97, li_99, li_100, li_122, li_125, li_126, li_140, li_255, li_256, li_999, li_1000, li_1001, li_1002, li_1100, li_1386, li_1452, li_1518, li_9999, li_1000000, x1, ↓reduceIte, c9, c29, decide_true, ck_t, x3_isThere_in hw hq ha, bd_s, n10, hP.2.2.2.2.1.1, hP.2.1.1, k1, nm_eq]
      have mpre : f_X13_painter fu v (nI a) y = (if gI v' 36 = nI 0 then some (mI 1, v') else if y = nI 0 then f_X13_painter_52 fu v' (nI a) else bd (f_X13_bits fu (gA v' 35 a)) fun r10 => if r10 ≤ nI 1 then f_X13_painter_52 fu v' (nI a) else some (mI 1, v')) := by
        simp (disch := omega) only [f_X13_painter, f_X13_painter_0, f_X13_painter_48, ↓lm_1, ↓lm_2, ↓lm_3, ↓lm_4, ↓lm_5, ↓lm_6, ↓lm_7, ↓lm_8, ↓lm_9, ↓lm_10, ↓lm_11, li_0, li_1, li_2, li_3, li_4, li_5, li_6, li_7, li_8, li_9, li_10, li_11, li_12, li_13, li_14, li_15, li_16, li_17, li_18, li_19, li_20, li_21, li_22, li_23, li_24, li_25, li_26, li_27, li_28, li_29, li_30, li_31, li_32, li_33, li_34, li_35, li_36, li_37, li_38, li_39, li_40, li_41, li_42, li_43, li_44, li_45, li_46, li_47, li_48, li_49, li_50, li_51, li_52, li_53, li_54, li_55, li_56, li_57, li_58, li_59, li_60, li_61, li_62, li_63, li_64, li_65, li_66, li_96, li_97, li_99, li_100, li_122, li_125, li_126, li_140, li_255, li_256, li_999, li_1000, li_1001, li_1002, li_1100, li_1386, li_1452, li_1518, li_9999, li_1000000, nm_eq, a0', ↓reduceIte, m0_isPiece_in hh hq ha, bd_s, n10, m1, inb_n, ck_t, nI_clamp]
      by_cases c : 0 < nWy (abl (aG A) (aQ A).1) (qn (aQ A).1 - 1) 1 0
      · rw [if_pos c] at inf
        have e34 := m4 c a (by omega) ha
        obtain ⟨u1, u2, u3⟩ := FT_at (abl (aG A) (aQ A).1) (qn (aQ A).1 - 1) 1 0 a (by omega) (by omega) (by omega) c
        have cnz : ¬ gI v' 36 = nI 0 := by rw [m3, nI_eq (by omega) (by omega)]; omega
        have m52 : f_X13_painter_52 fu v' (nI a) = some (nI (FT (abl (aG A) (aQ A).1) (qn (aQ A).1 - 1) 1 0 a), v') := by
          simp (disch := omega) only [f_X13_painter_52, inb_n, ck_t, nI_clamp, e34]
        rw [if_neg cnz, m52] at mpre
        generalize FT (abl (aG A) (aQ A).1) (qn (aQ A).1 - 1) 1 0 a = u at *
        by_cases y0 : y = nI 0
        · refine ⟨nI u, S', v', ?_, ?_, RR_q hA hC hM k2 hmm⟩
          · rw [pre, if_pos y0, inf, bd_s]
          · rw [mpre, if_pos y0]
        · rw [if_neg y0] at pre mpre
          -- his in all ways?
          have hPr : PC (sA (S' (p + 29)) 0 a (nI (2 ^ u))) (qn (aQ A).1) (abr (abl (aG A) (aQ A).1) a u) := by
            refine ⟨k3.1, k3.2.1, fun c h1 h2 => ?_⟩
            rw [gA_sA]
            by_cases e : c = a
            · rw [if_pos e]
              congr 1
              apply Nat.eq_of_testBit_eq
              intro k
              rw [tb_setb, Nat.testBit_two_pow, abr, if_pos e, e]
              by_cases e2 : u = k
              · subst e2; simp [u1, u2]
              · have e3 : ¬ k = u := fun z => e2 z.symm
                simp [e2, e3]
            · rw [if_neg e, k3.2.2 c h1 h2]
              congr 1
              refine setb_congr (fun k _ => ?_)
              rw [abr, if_neg e]
          obtain ⟨f', w1, w2⟩ := x7_countWays (fu := fu) hf hq.1.1 h8 hPr
          have t1 := k4 0 (by omega)
          have t2 := w2 0 (by omega)
          rw [WV_0 _ hq.1.1] at t1 t2
          have nwr := nwb (abr (abl (aG A) (aQ A).1) a u) h8
          have nm1 : ¬ nI u = mI 1 := nI_nem (by omega) (by omega) (by omega)
          have eqv : nI (nWy (abr (abl (aG A) (aQ A).1) a u) (qn (aQ A).1 - 1) 1 0) = nI (nWy (abl (aG A) (aQ A).1) (qn (aQ A).1 - 1) 1 0) ↔ nWy (abr (abl (aG A) (aQ A).1) a u) (qn (aQ A).1 - 1) 1 0 = nWy (abl (aG A) (aQ A).1) (qn (aQ A).1 - 1) 1 0 := nI_eq (by omega) (by omega)
          have ca : f_X7_inAll fu (S' (p + 29)) (nI a) = some (if nWy (abr (abl (aG A) (aQ A).1) a u) (qn (aQ A).1 - 1) 1 0 = nWy (abl (aG A) (aQ A).1) (qn (aQ A).1 - 1) 1 0 then nI u else mI 1, sAf (sA (S' (p + 29)) 0 a (nI (2 ^ u))) 1 f') := by
            simp (disch := omega) only [f_X7_inAll, f_X7_inAll_0, f_X7_total, f_X7_total_0, ↓lm_1, ↓lm_2, ↓lm_3, ↓lm_4, ↓lm_5, ↓lm_6, ↓lm_7, ↓lm_8, ↓lm_9, ↓lm_10, ↓lm_11, li_0, li_1, li_2, li_3, li_4, li_5, li_6, li_7, li_8, li_9, li_10, li_11, li_12, li_13, li_14, li_15, li_16, li_17, li_18, li_19, li_20, li_21, li_22, li_23, li_24, li_25, li_26, li_27, li_28, li_29, li_30, li_31, li_32, li_33, li_34, li_35, li_36, li_37, li_38, li_39, li_40, li_41, li_42, li_43, li_44, li_45, li_46, li_47, li_48, li_49, li_50, li_51, li_52, li_53, li_54, li_55, li_56, li_57, li_58, li_59, li_60, li_61, li_62, li_63, li_64, li_65, li_66, li_96, li_97, li_99, li_100, li_122, li_125, li_126, li_140, li_255, li_256, li_999, li_1000, li_1001, li_1002, li_1100, li_1386, li_1452, li_1518, li_9999, li_1000000, inf, bd_s, nm1, ↓reduceIte, nI_clamp, t1, nI_and31, nI_shl1, nm_eq, inb_n, ck_t, w1, gA_sAf, t2, eqv]
            split <;> rfl
          have e1 := ever_1 (ab := abl (aG A) (aQ A).1) (n := qn (aQ A).1) (p := a) (u := u) (ev := ev a) u1 (by omega) ha m5b m5c u3
          have pb := pcn30 (ev a)
          have bb := x13_bits (fu := fu) (x := ev a) (by omega) (by omega)
          have le1 : nI (pcn (ev a)) ≤ nI 1 ↔ pcn (ev a) ≤ 1 := nI_leI (by omega) (by omega)
          refine ⟨if nWy (abr (abl (aG A) (aQ A).1) a u) (qn (aQ A).1 - 1) 1 0 = nWy (abl (aG A) (aQ A).1) (qn (aQ A).1 - 1) 1 0 then nI u else mI 1, st S' (p + 29) (sAf (sA (S' (p + 29)) 0 a (nI (2 ^ u))) 1 f'), v', ?_, ?_, RR_q hA hC hM (scr_st k2 (by omega) rfl) hmm⟩
          · rw [pre, ca, bd2_s]
          · rw [mpre, m5a, bb, bd_s]
            by_cases z : nWy (abr (abl (aG A) (aQ A).1) a u) (qn (aQ A).1 - 1) 1 0 = nWy (abl (aG A) (aQ A).1) (qn (aQ A).1 - 1) 1 0
            · rw [if_pos z, if_pos (le1.mpr (e1.mpr z))]
            · rw [if_neg z, if_neg (fun z2 => z (e1.mp (le1.mp z2)))]
      · rw [if_neg c] at inf
        have cz : gI v' 36 = nI 0 := by rw [m3, show nWy (abl (aG A) (aQ A).1) (qn (aQ A).1 - 1) 1 0 = 0 by omega]
        rw [if_pos cz] at mpre
        by_cases y0 : y = nI 0
        · refine ⟨mI 1, S', v', ?_, mpre, RR_q hA hC hM k2 hmm⟩
          rw [pre, if_pos y0, inf, bd_s]
        · refine ⟨mI 1, S', v', ?_, mpre, RR_q hA hC hM k2 hmm⟩
          have ca : f_X7_inAll fu (S' (p + 29)) (nI a) = some (mI 1, S' (p + 29)) := by
            simp only [f_X7_inAll, f_X7_inAll_0, ↓lm_1, ↓lm_2, ↓lm_3, ↓lm_4, ↓lm_5, ↓lm_6, ↓lm_7, ↓lm_8, ↓lm_9, ↓lm_10, ↓lm_11, li_0, li_1, li_2, li_3, li_4, li_5, li_6, li_7, li_8, li_9, li_10, li_11, li_12, li_13, li_14, li_15, li_16, li_17, li_18, li_19, li_20, li_21, li_22, li_23, li_24, li_25, li_26, li_27, li_28, li_29, li_30, li_31, li_32, li_33, li_34, li_35, li_36, li_37, li_38, li_39, li_40, li_41, li_42, li_43, li_44, li_45, li_46, li_47, li_48, li_49, li_50, li_51, li_52, li_53, li_54, li_55, li_56, li_57, li_58, li_59, li_60, li_61, li_62, li_63, li_64, li_65, li_66, li_96, li_97, li_99, li_100, li_122, li_125, li_126, li_140, li_255, li_256, li_999, li_1000, li_1001, li_1002, li_1100, li_1386, li_1452, li_1518, li_9999, li_1000000, inf, bd_s, ↓reduceIte]
          rw [pre, if_neg y0, ca, bd2_s, st_self]
  · refine ⟨mI 1, S, sI v 0 (nI 0), ?_, ?_, hno⟩
    · simp only [f_X12_painter, f_X12_painter_0, f_X12_painter_16, ↓lm_1, ↓lm_2, ↓lm_3, ↓lm_4, ↓lm_5, ↓lm_6, ↓lm_7, ↓lm_8, ↓lm_9, ↓lm_10, ↓lm_11, li_0, li_1, li_2, li_3, li_4, li_5, li_6, li_7, li_8, li_9, li_10, li_11, li_12, li_13, li_14, li_15, li_16, li_17, li_18, li_19, li_20, li_21, li_22, li_23, li_24, li_25, li_26, li_27, li_28, li_29, li_30, li_31, li_32, li_33, li_34, li_35, li_36, li_37, li_38, li_39, li_40, li_41, li_42, li_43, li_44, li_45, li_46, li_47, li_48, li_49, li_50, li_51, li_52, li_53, li_54, li_55, li_56, li_57, li_58, li_59, li_60, li_61, li_62, li_63, li_64, li_65, li_66, li_96, li_97, li_99, li_100, li_122, li_125, li_126, li_140, li_255, li_256, li_999, li_1000, li_1001, li_1002, li_1100, li_1386, li_1452, li_1518, li_9999, li_1000000, c9, decide_true, ck_t, x3_isThere_out hw hq hx, bd_s, ↓reduceIte, ite_self]
    · simp only [f_X13_painter, f_X13_painter_0, f_X13_painter_18, ↓lm_1, ↓lm_2, ↓lm_3, ↓lm_4, ↓lm_5, ↓lm_6, ↓lm_7, ↓lm_8, ↓lm_9, ↓lm_10, ↓lm_11, li_0, li_1, li_2, li_3, li_4, li_5, li_6, li_7, li_8, li_9, li_10, li_11, li_12, li_13, li_14, li_15, li_16, li_17, li_18, li_19, li_20, li_21, li_22, li_23, li_24, li_25, li_26, li_27, li_28, li_29, li_30, li_31, li_32, li_33, li_34, li_35, li_36, li_37, li_38, li_39, li_40, li_41, li_42, li_43, li_44, li_45, li_46, li_47, li_48, li_49, li_50, li_51, li_52, li_53, li_54, li_55, li_56, li_57, li_58, li_59, li_60, li_61, li_62, li_63, li_64, li_65, li_66, li_96, li_97, li_99, li_100, li_122, li_125, li_126, li_140, li_255, li_256, li_999, li_1000, li_1001, li_1002, li_1100, li_1386, li_1452, li_1518, li_9999, li_1000000, nm_eq, m0_isPiece_out hh hq hx, bd_s, ↓reduceIte, ite_self]
end R
