/-! ===== reading: one step of the class's tape and of the model ===== -/
def tw (w : GV) (a fl : Nat) : GV := sI (sI w 5 (nI a)) 7 (nI fl)
def mw (v : GV) (a fl : Nat) : GV := sI (sI v 7 (nI a)) 8 (nI fl)
theorem sI_comm (v : GV) {j k : Nat} (x y : Int32) (h : j ≠ k) : sI (sI v j x) k y = sI (sI v k y) j x := by
  simp only [sI]
  congr 2
  funext i
  by_cases h1 : i = k
  · have : i ≠ j := by omega
    subst h1; simp [va_up, this]
  · by_cases h2 : i = j
    · subst h2; simp [va_up, h1]
    · simp [va_up, h1, h2]
theorem tw_5 (w : GV) (a fl b : Nat) : sI (tw w a fl) 5 (nI b) = tw w b fl := by
  rw [tw, tw, sI_comm _ _ _ (show (7 : Nat) ≠ 5 by decide), sI_sI]
theorem tw_7 (w : GV) (a fl f : Nat) : sI (tw w a fl) 7 (nI f) = tw w a f := by rw [tw, tw, sI_sI]
theorem mw_7 (v : GV) (a fl b : Nat) : sI (mw v a fl) 7 (nI b) = mw v b fl := by
  rw [mw, mw, sI_comm _ _ _ (show (8 : Nat) ≠ 7 by decide), sI_sI]
theorem mw_8 (v : GV) (a fl f : Nat) : sI (mw v a fl) 8 (nI f) = mw v a f := by rw [mw, mw, sI_sI]
theorem tw_g5 (w : GV) (a fl : Nat) : gI (tw w a fl) 5 = nI a := by rw [tw, gI_sI, if_neg (by decide), gI_sI, if_pos rfl]
theorem tw_g7 (w : GV) (a fl : Nat) : gI (tw w a fl) 7 = nI fl := by rw [tw, gI_sI, if_pos rfl]
theorem mw_g7 (v : GV) (a fl : Nat) : gI (mw v a fl) 7 = nI a := by rw [mw, gI_sI, if_neg (by decide), gI_sI, if_pos rfl]
theorem mw_g8 (v : GV) (a fl : Nat) : gI (mw v a fl) 8 = nI fl := by rw [mw, gI_sI, if_pos rfl]
theorem tw_A (w : GV) (a fl k : Nat) : gA (tw w a fl) k = gA w k := (id rfl)
theorem tw_L (w : GV) (a fl k : Nat) : gL (tw w a fl) k = gL w k := (id rfl)
theorem mw_A (v : GV) (a fl k : Nat) : gA (mw v a fl) k = gA v k := (id rfl)
theorem mw_L (v : GV) (a fl k : Nat) : gL (mw v a fl) k = gL v k := (id rfl)
theorem mw_I (v : GV) (a fl : Nat) {k : Nat} (h1 : k ≠ 7) (h2 : k ≠ 8) : gI (mw v a fl) k = gI v k := by rw [mw, gI_sI, if_neg h2, gI_sI, if_neg h1]
theorem mw_sA (v : GV) (a fl k i : Nat) (x : Int32) : sA (mw v a fl) k i x = mw (sA v k i x) a fl := (id rfl)
theorem mw_sI (v : GV) (a fl k : Nat) (x : Int32) (h1 : k ≠ 7) (h2 : k ≠ 8) : sI (mw v a fl) k x = mw (sI v k x) a fl := by
  rw [mw, mw, sI_comm _ _ _ (fun q => h2 q.symm), sI_comm _ _ _ (fun q => h1 q.symm)]
theorem mw_sL (v : GV) (a fl k i : Nat) (x : Int64) : sL (mw v a fl) k i x = mw (sL v k i x) a fl := (id rfl)
/-- the tables of tokens -/
def CB (w : GV) (K : KT) : Prop := ∀ i, i ≤ kN K → CKt w i (kK K i) (kP K i) (kV K i)
def MB (v : GV) (K : KT) : Prop := ∀ i, i ≤ kN K → MKt v i (kK K i) (kP K i) (kV K i)
def WB9 (v : GV) : Prop := ∀ i, i < 29 → gL v 9 i = lN (wds.getD i 0)
def okP (K : KT) (a fl : Nat) : Prop := a ≤ kN K ∧ fl < 20000
def stp (K : KT) (a fl : Nat) : Nat := if fl = 0 ∧ kK K a ≠ 0 then a + 1 else a
def flf (K : KT) (a fl x : Nat) : Nat := if fl = 0 then x + 16 * kP K a else fl
def tS (K : KT) (a fl c : Nat) : Bool := decide (fl = 0 ∧ kK K a = 3 ∧ kV K a = c)
/-- which word stands there -/
def tI (K : KT) (a fl : Nat) : Nat := if fl = 0 ∧ kK K a = 1 then wi (kV K a) else 0
def tNm (K : KT) (a fl : Nat) : Bool := decide (fl = 0 ∧ kK K a = 1 ∧ ¬ (1 ≤ wi (kV K a) ∧ wi (kV K a) ≤ 25))
def tD (K : KT) (a fl : Nat) : Bool := decide (fl = 0 ∧ kK K a = 2)
section T
variable {fu : Nat} {K : KT} {w v : GV} {a fl : Nat}
theorem okP_stp (hK : okK K) (h : okP K a fl) : okP K (stp K a fl) fl := by
  refine ⟨?_, h.2⟩
  unfold stp
  split
  · rename_i c
    apply Classical.byContradiction
    intro q
    have : a = kN K := by have := h.1; omega
    rw [this, hK.2.1] at c
    exact c.2 rfl
  · exact h.1
theorem okP_flf (hK : okK K) (h : okP K a fl) {x : Nat} (hx : x ≤ 5) : okP K a (flf K a fl x) := by
  refine ⟨h.1, ?_⟩
  have := (hK.2.2 a h.1).1.2.1
  unfold flf
  split
  · omega
  · exact h.2
theorem flf_pos {x : Nat} (hx : 1 ≤ x) : flf K a fl x ≠ 0 := by
  unfold flf
  split <;> omega
theorem ckd_lt (k c : Nat) : ckd k c < 6 := by
  unfold ckd
  repeat' split
  all_goals omega
theorem tI_lt : tI K a fl < 30 := by
  unfold tI
  split
  · exact wi_lt _
  · omega
theorem x8_isAt (hK : okK K) (hw : CB w K) (h : okP K a fl) {c : Nat} (hc : c < 128) : f_X8_isAt fu (tw w a fl) (nI c) = some (b01 (tS K a fl c)) := by
  have hn := hK.1
  have h1 := h.1
  have h2 := h.2
  obtain ⟨t1, t2, t3⟩ := hw a h1
  obtain ⟨o1, o2, o3, o4, o5⟩ := (hK.2.2 a h1).1
  have hcl : (nI c).toInt64 = lN c := nI_l (by omega)
  have hkl := ckd_lt (kK K a) (kV K a)
  unfold tS
  by_cases c0 : fl = 0
  · subst c0
    by_cases c3 : kK K a = 3
    · have e5 : ckd (kK K a) (kV K a) = 5 := by rw [c3]; rfl
      have hv := o5 c3
      rw [e5] at t1
      have cm : lg_cmp (lN (kV K a)) (lN c) = nI 0 ↔ kV K a = c := by rw [lcE, pk_lEQ (by omega) (by omega)]
      simp (disch := omega) only [f_X8_isAt, f_X8_isAt_0, f_X8_isAt_39, ↓lm_1, ↓lm_2, ↓lm_3, ↓lm_4, ↓lm_5, ↓lm_6, ↓lm_7, ↓lm_8, ↓lm_9, ↓lm_10, ↓lm_11, li_0, li_1, li_2, li_3, li_4, li_5, li_6, li_7, li_8, li_9, li_10, li_11, li_12, li_13, li_14, li_15, li_16, li_17, li_18, li_19, li_20, li_21, li_22, li_23, li_24, li_25, li_26, li_27, li_28, li_29, li_30, li_31, li_32, li_33, li_34, li_35, li_36, li_37, li_38, li_39, li_40, li_41, li_42, li_43, li_44, li_45, li_46, li_47, li_48, li_49, li_50, li_51, li_52, li_53, li_54, li_55, li_56, li_57, li_58, li_59, li_60, li_61, li_62, li_63, li_64, li_65, li_66, li_96, li_97, li_99, li_100, li_122, li_125, li_126, li_140, li_255, li_256, li_999, li_1000, li_1001, li_1002, li_1100, li_1386, li_1452, li_1518, li_9999, li_1000000, tw_g7, tw_g5, tw_A, tw_L, ↓reduceIte, nm_eq, inb_n, ck_t, nI_clamp, t1, t3 (Or.inr (Or.inr c3)), hcl, cm, c3, true_and]
      by_cases e : kV K a = c
      · rw [if_pos e, decide_eq_true e]; rfl
      · rw [if_neg e, decide_eq_false e]; rfl
    · have e5 : ¬ nI (ckd (kK K a) (kV K a)) = nI 5 := by
        rw [nI_eq (by omega) (by omega)]
        unfold ckd
        intro q
        repeat' split at q
        all_goals omega
      rw [decide_eq_false (fun q => c3 q.2.1)]
      simp (disch := omega) only [f_X8_isAt, f_X8_isAt_0, f_X8_isAt_39, ↓lm_1, ↓lm_2, ↓lm_3, ↓lm_4, ↓lm_5, ↓lm_6, ↓lm_7, ↓lm_8, ↓lm_9, ↓lm_10, ↓lm_11, li_0, li_1, li_2, li_3, li_4, li_5, li_6, li_7, li_8, li_9, li_10, li_11, li_12, li_13, li_14, li_15, li_16, li_17, li_18, li_19, li_20, li_21, li_22, li_23, li_24, li_25, li_26, li_27, li_28, li_29, li_30, li_31, li_32, li_33, li_34, li_35, li_36, li_37, li_38, li_39, li_40, li_41, li_42, li_43, li_44, li_45, li_46, li_47, li_48, li_49, li_50, li_51, li_52, li_53, li_54, li_55, li_56, li_57, li_58, li_59, li_60, li_61, li_62, li_63, li_64, li_65, li_66, li_96, li_97, li_99, li_100, li_122, li_125, li_126, li_140, li_255, li_256, li_999, li_1000, li_1001, li_1002, li_1100, li_1386, li_1452, li_1518, li_9999, li_1000000, tw_g7, tw_g5, tw_A, ↓reduceIte, nm_eq, inb_n, ck_t, nI_clamp, t1, e5, b01_f]
  · have f0 : ¬ nI fl = nI 0 := by rw [nI_eq (by omega) (by omega)]; exact c0
    rw [decide_eq_false (fun q => c0 q.1)]
    simp only [f_X8_isAt, f_X8_isAt_0, f_X8_isAt_39, ↓lm_1, ↓lm_2, ↓lm_3, ↓lm_4, ↓lm_5, ↓lm_6, ↓lm_7, ↓lm_8, ↓lm_9, ↓lm_10, ↓lm_11, li_0, li_1, li_2, li_3, li_4, li_5, li_6, li_7, li_8, li_9, li_10, li_11, li_12, li_13, li_14, li_15, li_16, li_17, li_18, li_19, li_20, li_21, li_22, li_23, li_24, li_25, li_26, li_27, li_28, li_29, li_30, li_31, li_32, li_33, li_34, li_35, li_36, li_37, li_38, li_39, li_40, li_41, li_42, li_43, li_44, li_45, li_46, li_47, li_48, li_49, li_50, li_51, li_52, li_53, li_54, li_55, li_56, li_57, li_58, li_59, li_60, li_61, li_62, li_63, li_64, li_65, li_66, li_96, li_97, li_99, li_100, li_122, li_125, li_126, li_140, li_255, li_256, li_999, li_1000, li_1001, li_1002, li_1100, li_1386, li_1452, li_1518, li_9999, li_1000000, tw_g7, f0, ↓reduceIte, b01_f]
theorem wd40 {c : Nat} (h : wdv c = true) : c < 1099511627776 := wdk_lt 8 c h
theorem x8_isAtW (hK : okK K) (hw : CB w K) (h : okP K a fl) {i : Nat} (h1i : 1 ≤ i) (hi : i < 30) : f_X8_isAt_ fu (tw w a fl) i = some (b01 (decide (tI K a fl = i))) := by
  have hn := hK.1
  have h1 := h.1
  have h2 := h.2
  obtain ⟨t1, t2, t3⟩ := hw a h1
  obtain ⟨o1, o2, o3, o4, o5⟩ := (hK.2.2 a h1).1
  have hkl := ckd_lt (kK K a) (kV K a)
  have hwp := wpk_N hi
  unfold tI
  by_cases c1 : kK K a = 1
  · obtain ⟨v1, v2⟩ := o3 c1
    have v40 := wd40 v1
    have wl := wpN_lt hi
    have ek : ckd (kK K a) (kV K a) = if 1 ≤ wi (kV K a) ∧ wi (kV K a) ≤ 25 then 3 else 2 := by rw [c1]; rfl
    have cm : lg_cmp (lN (kV K a)) (lN (wpN.getD i 0)) = nI 0 ↔ kV K a = wpN.getD i 0 := by rw [lcE, pk_lEQ (by omega) (by omega)]
    have e31 : f_X8_isAt__31 fu (tw w a fl) i (nI 1) = some (b01 (decide ((if fl = 0 ∧ kK K a = 1 then wi (kV K a) else 0) = i))) := by
      by_cases c0 : fl = 0
      · subst c0
        rw [if_pos ⟨rfl, c1⟩]
        simp (disch := omega) only [f_X8_isAt__31, f_X8_isAt__64, ↓lm_1, ↓lm_2, ↓lm_3, ↓lm_4, ↓lm_5, ↓lm_6, ↓lm_7, ↓lm_8, ↓lm_9, ↓lm_10, ↓lm_11, li_0, li_1, li_2, li_3, li_4, li_5, li_6, li_7, li_8, li_9, li_10, li_11, li_12, li_13, li_14, li_15, li_16, li_17, li_18, li_19, li_20, li_21, li_22, li_23, li_24, li_25, li_26, li_27, li_28, li_29, li_30, li_31, li_32, li_33, li_34, li_35, li_36, li_37, li_38, li_39, li_40, li_41, li_42, li_43, li_44, li_45, li_46, li_47, li_48, li_49, li_50, li_51, li_52, li_53, li_54, li_55, li_56, li_57, li_58, li_59, li_60, li_61, li_62, li_63, li_64, li_65, li_66, li_96, li_97, li_99, li_100, li_122, li_125, li_126, li_140, li_255, li_256, li_999, li_1000, li_1001, li_1002, li_1100, li_1386, li_1452, li_1518, li_9999, li_1000000, tw_g7, tw_g5, tw_L, ↓reduceIte, n10, nm_eq, inb_n, ck_t, nI_clamp, t3 (Or.inl c1), hwp, cm]
        by_cases e : kV K a = wpN.getD i 0
        · rw [if_pos e, decide_eq_true ((wi_iff h1i hi).mpr e)]; rfl
        · rw [if_neg e, decide_eq_false (fun q => e ((wi_iff h1i hi).mp q))]; rfl
      · have f0 : ¬ nI fl = nI 0 := by rw [nI_eq (by omega) (by omega)]; exact c0
        rw [if_neg (fun q => c0 q.1), decide_eq_false (by omega)]
        simp only [f_X8_isAt__31, f_X8_isAt__64, ↓lm_1, ↓lm_2, ↓lm_3, ↓lm_4, ↓lm_5, ↓lm_6, ↓lm_7, ↓lm_8, ↓lm_9, ↓lm_10, ↓lm_11, li_0, li_1, li_2, li_3, li_4, li_5, li_6, li_7, li_8, li_9, li_10, li_11, li_12, li_13, li_14, li_15, li_16, li_17, li_18, li_19, li_20, li_21, li_22, li_23, li_24, li_25, li_26, li_27, li_28, li_29, li_30, li_31, li_32, li_33, li_34, li_35, li_36, li_37, li_38, li_39, li_40, li_41, li_42, li_43, li_44, li_45, li_46, li_47, li_48, li_49, li_50, li_51, li_52, li_53, li_54, li_55, li_56, li_57, li_58, li_59, li_60, li_61, li_62, li_63, li_64, li_65, li_66, li_96, li_97, li_99, li_100, li_122, li_125, li_126, li_140, li_255, li_256, li_999, li_1000, li_1001, li_1002, li_1100, li_1386, li_1452, li_1518, li_9999, li_1000000, tw_g7, f0, ↓reduceIte, b01_f]
    simp (disch := omega) only [f_X8_isAt_, f_X8_isAt__0, f_X8_isAt__26, ↓lm_1, ↓lm_2, ↓lm_3, ↓lm_4, ↓lm_5, ↓lm_6, ↓lm_7, ↓lm_8, ↓lm_9, ↓lm_10, ↓lm_11, li_0, li_1, li_2, li_3, li_4, li_5, li_6, li_7, li_8, li_9, li_10, li_11, li_12, li_13, li_14, li_15, li_16, li_17, li_18, li_19, li_20, li_21, li_22, li_23, li_24, li_25, li_26, li_27, li_28, li_29, li_30, li_31, li_32, li_33, li_34, li_35, li_36, li_37, li_38, li_39, li_40, li_41, li_42, li_43, li_44, li_45, li_46, li_47, li_48, li_49, li_50, li_51, li_52, li_53, li_54, li_55, li_56, li_57, li_58, li_59, li_60, li_61, li_62, li_63, li_64, li_65, li_66, li_96, li_97, li_99, li_100, li_122, li_125, li_126, li_140, li_255, li_256, li_999, li_1000, li_1001, li_1002, li_1100, li_1386, li_1452, li_1518, li_9999, li_1000000, tw_g5, tw_A, ↓nm_eq, inb_n, ck_t, nI_clamp, t1, e31, nI_eq]
    rw [ek]
    by_cases q : 1 ≤ wi (kV K a) ∧ wi (kV K a) ≤ 25
    · rw [if_pos q, if_neg (by decide), if_pos rfl]
    · rw [if_neg q, if_pos rfl]
  · rw [if_neg (fun q => c1 q.2), decide_eq_false (by omega)]
    have e2 : ¬ nI (ckd (kK K a) (kV K a)) = nI 2 := by
      rw [nI_eq (by omega) (by omega)]
      unfold ckd
      intro q
      repeat' split at q
      all_goals omega
    have e3 : ¬ nI (ckd (kK K a) (kV K a)) = nI 3 := by
      rw [nI_eq (by omega) (by omega)]
      unfold ckd
      intro q
      repeat' split at q
      all_goals omega
    simp (disch := omega) only [f_X8_isAt_, f_X8_isAt__0, f_X8_isAt__31, f_X8_isAt__64, ↓lm_1, ↓lm_2, ↓lm_3, ↓lm_4, ↓lm_5, ↓lm_6, ↓lm_7, ↓lm_8, ↓lm_9, ↓lm_10, ↓lm_11, li_0, li_1, li_2, li_3, li_4, li_5, li_6, li_7, li_8, li_9, li_10, li_11, li_12, li_13, li_14, li_15, li_16, li_17, li_18, li_19, li_20, li_21, li_22, li_23, li_24, li_25, li_26, li_27, li_28, li_29, li_30, li_31, li_32, li_33, li_34, li_35, li_36, li_37, li_38, li_39, li_40, li_41, li_42, li_43, li_44, li_45, li_46, li_47, li_48, li_49, li_50, li_51, li_52, li_53, li_54, li_55, li_56, li_57, li_58, li_59, li_60, li_61, li_62, li_63, li_64, li_65, li_66, li_96, li_97, li_99, li_100, li_122, li_125, li_126, li_140, li_255, li_256, li_999, li_1000, li_1001, li_1002, li_1100, li_1386, li_1452, li_1518, li_9999, li_1000000, tw_g7, tw_g5, tw_A, ↓nm_eq, inb_n, ck_t, nI_clamp, t1, e2, e3, ↓reduceIte, b01_f, ite_self]
theorem x8_isName (hK : okK K) (hw : CB w K) (h : okP K a fl) : f_X8_isName fu (tw w a fl) = some (b01 (tNm K a fl)) := by
  have hn := hK.1
  have h1 := h.1
  have h2 := h.2
  obtain ⟨t1, t2, t3⟩ := hw a h1
  have hkl := ckd_lt (kK K a) (kV K a)
  unfold tNm
  by_cases c0 : fl = 0
  · subst c0
    have e2 : nI (ckd (kK K a) (kV K a)) = nI 2 ↔ (kK K a = 1 ∧ ¬ (1 ≤ wi (kV K a) ∧ wi (kV K a) ≤ 25)) := by
      rw [nI_eq (by omega) (by omega)]
      unfold ckd
      constructor
      · intro q
        repeat' split at q
        all_goals first | omega | exact ⟨by assumption, by assumption⟩
      · rintro ⟨q1, q2⟩
        rw [if_neg (by omega), if_pos q1, if_neg q2]
    simp (disch := omega) only [f_X8_isName, f_X8_isName_0, f_X8_isName_24, ↓lm_1, ↓lm_2, ↓lm_3, ↓lm_4, ↓lm_5, ↓lm_6, ↓lm_7, ↓lm_8, ↓lm_9, ↓lm_10, ↓lm_11, li_0, li_1, li_2, li_3, li_4, li_5, li_6, li_7, li_8, li_9, li_10, li_11, li_12, li_13, li_14, li_15, li_16, li_17, li_18, li_19, li_20, li_21, li_22, li_23, li_24, li_25, li_26, li_27, li_28, li_29, li_30, li_31, li_32, li_33, li_34, li_35, li_36, li_37, li_38, li_39, li_40, li_41, li_42, li_43, li_44, li_45, li_46, li_47, li_48, li_49, li_50, li_51, li_52, li_53, li_54, li_55, li_56, li_57, li_58, li_59, li_60, li_61, li_62, li_63, li_64, li_65, li_66, li_96, li_97, li_99, li_100, li_122, li_125, li_126, li_140, li_255, li_256, li_999, li_1000, li_1001, li_1002, li_1100, li_1386, li_1452, li_1518, li_9999, li_1000000, tw_g7, tw_g5, tw_A, ↓reduceIte, nm_eq, inb_n, ck_t, nI_clamp, t1, e2, true_and]
    by_cases q : kK K a = 1 ∧ ¬ (1 ≤ wi (kV K a) ∧ wi (kV K a) ≤ 25)
    · rw [if_pos q, decide_eq_true q]; rfl
    · rw [if_neg q, decide_eq_false q]; rfl
  · have f0 : ¬ nI fl = nI 0 := by rw [nI_eq (by omega) (by omega)]; exact c0
    rw [decide_eq_false (fun q => c0 q.1)]
    simp only [f_X8_isName, f_X8_isName_0, f_X8_isName_24, ↓lm_1, ↓lm_2, ↓lm_3, ↓lm_4, ↓lm_5, ↓lm_6, ↓lm_7, ↓lm_8, ↓lm_9, ↓lm_10, ↓lm_11, li_0, li_1, li_2, li_3, li_4, li_5, li_6, li_7, li_8, li_9, li_10, li_11, li_12, li_13, li_14, li_15, li_16, li_17, li_18, li_19, li_20, li_21, li_22, li_23, li_24, li_25, li_26, li_27, li_28, li_29, li_30, li_31, li_32, li_33, li_34, li_35, li_36, li_37, li_38, li_39, li_40, li_41, li_42, li_43, li_44, li_45, li_46, li_47, li_48, li_49, li_50, li_51, li_52, li_53, li_54, li_55, li_56, li_57, li_58, li_59, li_60, li_61, li_62, li_63, li_64, li_65, li_66, li_96, li_97, li_99, li_100, li_122, li_125, li_126, li_140, li_255, li_256, li_999, li_1000, li_1001, li_1002, li_1100, li_1386, li_1452, li_1518, li_9999, li_1000000, tw_g7, f0, ↓reduceIte, b01_f]
theorem x8_isNumber (hK : okK K) (hw : CB w K) (h : okP K a fl) : f_X8_isNumber fu (tw w a fl) = some (b01 (tD K a fl)) := by
  have hn := hK.1
  have h1 := h.1
  have h2 := h.2
  obtain ⟨t1, t2, t3⟩ := hw a h1
  have hkl := ckd_lt (kK K a) (kV K a)
  unfold tD
  by_cases c0 : fl = 0
  · subst c0
    have e2 : nI (ckd (kK K a) (kV K a)) = nI 4 ↔ kK K a = 2 := by
      rw [nI_eq (by omega) (by omega)]
      unfold ckd
      constructor
      · intro q
        repeat' split at q
        all_goals omega
      · intro q1
        rw [if_neg (by omega), if_neg (by omega), if_pos q1]
    simp (disch := omega) only [f_X8_isNumber, f_X8_isNumber_0, f_X8_isNumber_24, ↓lm_1, ↓lm_2, ↓lm_3, ↓lm_4, ↓lm_5, ↓lm_6, ↓lm_7, ↓lm_8, ↓lm_9, ↓lm_10, ↓lm_11, li_0, li_1, li_2, li_3, li_4, li_5, li_6, li_7, li_8, li_9, li_10, li_11, li_12, li_13, li_14, li_15, li_16, li_17, li_18, li_19, li_20, li_21, li_22, li_23, li_24, li_25, li_26, li_27, li_28, li_29, li_30, li_31, li_32, li_33, li_34, li_35, li_36, li_37, li_38, li_39, li_40, li_41, li_42, li_43, li_44, li_45, li_46, li_47, li_48, li_49, li_50, li_51, li_52, li_53, li_54, li_55, li_56, li_57, li_58, li_59, li_60, li_61, li_62, li_63, li_64, li_65, li_66, li_96, li_97, li_99, li_100, li_122, li_125, li_126, li_140, li_255, li_256, li_999, li_1000, li_1001, li_1002, li_1100, li_1386, li_1452, li_1518, li_9999, li_1000000, tw_g7, tw_g5, tw_A, ↓reduceIte, nm_eq, inb_n, ck_t, nI_clamp, t1, e2, true_and]
    by_cases q : kK K a = 2
    · rw [if_pos q, decide_eq_true q]; rfl
    · rw [if_neg q, decide_eq_false q]; rfl
  · have f0 : ¬ nI fl = nI 0 := by rw [nI_eq (by omega) (by omega)]; exact c0
    rw [decide_eq_false (fun q => c0 q.1)]
    simp only [f_X8_isNumber, f_X8_isNumber_0, f_X8_isNumber_24, ↓lm_1, ↓lm_2, ↓lm_3, ↓lm_4, ↓lm_5, ↓lm_6, ↓lm_7, ↓lm_8, ↓lm_9, ↓lm_10, ↓lm_11, li_0, li_1, li_2, li_3, li_4, li_5, li_6, li_7, li_8, li_9, li_10, li_11, li_12, li_13, li_14, li_15, li_16, li_17, li_18, li_19, li_20, li_21, li_22, li_23, li_24, li_25, li_26, li_27, li_28, li_29, li_30, li_31, li_32, li_33, li_34, li_35, li_36, li_37, li_38, li_39, li_40, li_41, li_42, li_43, li_44, li_45, li_46, li_47, li_48, li_49, li_50, li_51, li_52, li_53, li_54, li_55, li_56, li_57, li_58, li_59, li_60, li_61, li_62, li_63, li_64, li_65, li_66, li_96, li_97, li_99, li_100, li_122, li_125, li_126, li_140, li_255, li_256, li_999, li_1000, li_1001, li_1002, li_1100, li_1386, li_1452, li_1518, li_9999, li_1000000, tw_g7, f0, ↓reduceIte, b01_f]
theorem x8_wordAt (hf : 1101 ≤ fu) (hK : okK K) (hw : CB w K) (h : okP K a fl) : f_X8_word fu (tw w a fl) = some (if 1 ≤ tI K a fl ∧ tI K a fl ≤ 25 then tI K a fl else 0) := by
  have hn := hK.1
  have h1 := h.1
  have h2 := h.2
  obtain ⟨t1, t2, t3⟩ := hw a h1
  obtain ⟨o1, o2, o3, o4, o5⟩ := (hK.2.2 a h1).1
  have hkl := ckd_lt (kK K a) (kV K a)
  unfold tI
  by_cases c0 : fl = 0
  · subst c0
    have e2 : nI (ckd (kK K a) (kV K a)) = nI 3 ↔ (kK K a = 1 ∧ (1 ≤ wi (kV K a) ∧ wi (kV K a) ≤ 25)) := by
      rw [nI_eq (by omega) (by omega)]
      unfold ckd
      constructor
      · intro q
        repeat' split at q
        all_goals first | omega | exact ⟨by assumption, by assumption⟩
      · rintro ⟨q1, q2⟩
        rw [if_neg (by omega), if_pos q1, if_pos q2]
    by_cases q : kK K a = 1 ∧ (1 ≤ wi (kV K a) ∧ wi (kV K a) ≤ 25)
    · have v40 := wd40 (o3 q.1).1
      have wl := wi_lt (kV K a)
      have e : (if (0 : Nat) = 0 ∧ kK K a = 1 then wi (kV K a) else 0) = wi (kV K a) := if_pos ⟨rfl, q.1⟩
      rw [e, if_pos q.2]
      simp (disch := omega) only [f_X8_word, f_X8_word_0, ↓lm_1, ↓lm_2, ↓lm_3, ↓lm_4, ↓lm_5, ↓lm_6, ↓lm_7, ↓lm_8, ↓lm_9, ↓lm_10, ↓lm_11, li_0, li_1, li_2, li_3, li_4, li_5, li_6, li_7, li_8, li_9, li_10, li_11, li_12, li_13, li_14, li_15, li_16, li_17, li_18, li_19, li_20, li_21, li_22, li_23, li_24, li_25, li_26, li_27, li_28, li_29, li_30, li_31, li_32, li_33, li_34, li_35, li_36, li_37, li_38, li_39, li_40, li_41, li_42, li_43, li_44, li_45, li_46, li_47, li_48, li_49, li_50, li_51, li_52, li_53, li_54, li_55, li_56, li_57, li_58, li_59, li_60, li_61, li_62, li_63, li_64, li_65, li_66, li_96, li_97, li_99, li_100, li_122, li_125, li_126, li_140, li_255, li_256, li_999, li_1000, li_1001, li_1002, li_1100, li_1386, li_1452, li_1518, li_9999, li_1000000, tw_g7, tw_g5, tw_A, tw_L, ↓reduceIte, nm_eq, inb_n, ck_t, nI_clamp, t1, if_pos (e2.mpr q), t3 (Or.inl q.1), x10_of hf v40, bd_s, wl, decide_true]
    · have q' : ¬ (1 ≤ (if (0 : Nat) = 0 ∧ kK K a = 1 then wi (kV K a) else 0) ∧ (if (0 : Nat) = 0 ∧ kK K a = 1 then wi (kV K a) else 0) ≤ 25) := by
        by_cases c1 : kK K a = 1
        · rw [if_pos ⟨rfl, c1⟩]; exact fun z => q ⟨c1, z⟩
        · rw [if_neg (fun z => c1 z.2)]; omega
      rw [if_neg q']
      simp (disch := omega) only [f_X8_word, f_X8_word_0, f_X8_word_35, ↓lm_1, ↓lm_2, ↓lm_3, ↓lm_4, ↓lm_5, ↓lm_6, ↓lm_7, ↓lm_8, ↓lm_9, ↓lm_10, ↓lm_11, li_0, li_1, li_2, li_3, li_4, li_5, li_6, li_7, li_8, li_9, li_10, li_11, li_12, li_13, li_14, li_15, li_16, li_17, li_18, li_19, li_20, li_21, li_22, li_23, li_24, li_25, li_26, li_27, li_28, li_29, li_30, li_31, li_32, li_33, li_34, li_35, li_36, li_37, li_38, li_39, li_40, li_41, li_42, li_43, li_44, li_45, li_46, li_47, li_48, li_49, li_50, li_51, li_52, li_53, li_54, li_55, li_56, li_57, li_58, li_59, li_60, li_61, li_62, li_63, li_64, li_65, li_66, li_96, li_97, li_99, li_100, li_122, li_125, li_126, li_140, li_255, li_256, li_999, li_1000, li_1001, li_1002, li_1100, li_1386, li_1452, li_1518, li_9999, li_1000000, tw_g7, tw_g5, tw_A, ↓reduceIte, nm_eq, inb_n, ck_t, nI_clamp, t1, if_neg (fun z => q (e2.mp z))]
  · have f0 : ¬ nI fl = nI 0 := by rw [nI_eq (by omega) (by omega)]; exact c0
    have q' : ¬ (1 ≤ (if fl = 0 ∧ kK K a = 1 then wi (kV K a) else 0) ∧ (if fl = 0 ∧ kK K a = 1 then wi (kV K a) else 0) ≤ 25) := by
      rw [if_neg (fun z => c0 z.1)]; omega
    rw [if_neg q']
    simp only [f_X8_word, f_X8_word_0, f_X8_word_35, ↓lm_1, ↓lm_2, ↓lm_3, ↓lm_4, ↓lm_5, ↓lm_6, ↓lm_7, ↓lm_8, ↓lm_9, ↓lm_10, ↓lm_11, li_0, li_1, li_2, li_3, li_4, li_5, li_6, li_7, li_8, li_9, li_10, li_11, li_12, li_13, li_14, li_15, li_16, li_17, li_18, li_19, li_20, li_21, li_22, li_23, li_24, li_25, li_26, li_27, li_28, li_29, li_30, li_31, li_32, li_33, li_34, li_35, li_36, li_37, li_38, li_39, li_40, li_41, li_42, li_43, li_44, li_45, li_46, li_47, li_48, li_49, li_50, li_51, li_52, li_53, li_54, li_55, li_56, li_57, li_58, li_59, li_60, li_61, li_62, li_63, li_64, li_65, li_66, li_96, li_97, li_99, li_100, li_122, li_125, li_126, li_140, li_255, li_256, li_999, li_1000, li_1001, li_1002, li_1100, li_1386, li_1452, li_1518, li_9999, li_1000000, tw_g7, f0, ↓reduceIte]
theorem x8_step1 (hK : okK K) (hw : CB w K) (h : okP K a fl) : f_X8_step fu (tw w a fl) = some (tw w (stp K a fl) fl) := by
  have hn := hK.1
  have h1 := h.1
  have h2 := h.2
  obtain ⟨t1, t2, t3⟩ := hw a h1
  have hkl := ckd_lt (kK K a) (kV K a)
  unfold stp
  by_cases c0 : fl = 0
  · subst c0
    have e2 : nI (ckd (kK K a) (kV K a)) = nI 0 ↔ kK K a = 0 := by
      rw [nI_eq (by omega) (by omega)]
      unfold ckd
      constructor
      · intro q
        repeat' split at q
        all_goals omega
      · intro q1
        rw [if_pos q1]
    by_cases q : kK K a = 0
    · rw [if_neg (fun z => z.2 q)]
      simp (disch := omega) only [f_X8_step, f_X8_step_0, ↓lm_1, ↓lm_2, ↓lm_3, ↓lm_4, ↓lm_5, ↓lm_6, ↓lm_7, ↓lm_8, ↓lm_9, ↓lm_10, ↓lm_11, li_0, li_1, li_2, li_3, li_4, li_5, li_6, li_7, li_8, li_9, li_10, li_11, li_12, li_13, li_14, li_15, li_16, li_17, li_18, li_19, li_20, li_21, li_22, li_23, li_24, li_25, li_26, li_27, li_28, li_29, li_30, li_31, li_32, li_33, li_34, li_35, li_36, li_37, li_38, li_39, li_40, li_41, li_42, li_43, li_44, li_45, li_46, li_47, li_48, li_49, li_50, li_51, li_52, li_53, li_54, li_55, li_56, li_57, li_58, li_59, li_60, li_61, li_62, li_63, li_64, li_65, li_66, li_96, li_97, li_99, li_100, li_122, li_125, li_126, li_140, li_255, li_256, li_999, li_1000, li_1001, li_1002, li_1100, li_1386, li_1452, li_1518, li_9999, li_1000000, tw_g7, tw_g5, tw_A, ↓reduceIte, nm_eq, inb_n, ck_t, nI_clamp, t1, if_pos (e2.mpr q)]
    · rw [if_pos ⟨rfl, q⟩]
      simp (disch := omega) only [f_X8_step, f_X8_step_0, ↓lm_1, ↓lm_2, ↓lm_3, ↓lm_4, ↓lm_5, ↓lm_6, ↓lm_7, ↓lm_8, ↓lm_9, ↓lm_10, ↓lm_11, li_0, li_1, li_2, li_3, li_4, li_5, li_6, li_7, li_8, li_9, li_10, li_11, li_12, li_13, li_14, li_15, li_16, li_17, li_18, li_19, li_20, li_21, li_22, li_23, li_24, li_25, li_26, li_27, li_28, li_29, li_30, li_31, li_32, li_33, li_34, li_35, li_36, li_37, li_38, li_39, li_40, li_41, li_42, li_43, li_44, li_45, li_46, li_47, li_48, li_49, li_50, li_51, li_52, li_53, li_54, li_55, li_56, li_57, li_58, li_59, li_60, li_61, li_62, li_63, li_64, li_65, li_66, li_96, li_97, li_99, li_100, li_122, li_125, li_126, li_140, li_255, li_256, li_999, li_1000, li_1001, li_1002, li_1100, li_1386, li_1452, li_1518, li_9999, li_1000000, tw_g7, tw_g5, tw_A, ↓reduceIte, nm_eq, inb_n, ck_t, nI_clamp, t1, if_neg (fun z => q (e2.mp z)), nI_add, tw_5]
  · have f0 : ¬ nI fl = nI 0 := by rw [nI_eq (by omega) (by omega)]; exact c0
    rw [if_neg (fun q => c0 q.1)]
    simp only [f_X8_step, f_X8_step_0, ↓lm_1, ↓lm_2, ↓lm_3, ↓lm_4, ↓lm_5, ↓lm_6, ↓lm_7, ↓lm_8, ↓lm_9, ↓lm_10, ↓lm_11, li_0, li_1, li_2, li_3, li_4, li_5, li_6, li_7, li_8, li_9, li_10, li_11, li_12, li_13, li_14, li_15, li_16, li_17, li_18, li_19, li_20, li_21, li_22, li_23, li_24, li_25, li_26, li_27, li_28, li_29, li_30, li_31, li_32, li_33, li_34, li_35, li_36, li_37, li_38, li_39, li_40, li_41, li_42, li_43, li_44, li_45, li_46, li_47, li_48, li_49, li_50, li_51, li_52, li_53, li_54, li_55, li_56, li_57, li_58, li_59, li_60, li_61, li_62, li_63, li_64, li_65, li_66, li_96, li_97, li_99, li_100, li_122, li_125, li_126, li_140, li_255, li_256, li_999, li_1000, li_1001, li_1002, li_1100, li_1386, li_1452, li_1518, li_9999, li_1000000, tw_g7, f0, ↓reduceIte]
theorem x8_fail (hK : okK K) (hw : CB w K) (h : okP K a fl) (x : Nat) : f_X8_fail fu (tw w a fl) (nI x) = some (tw w a (flf K a fl x)) := by
  have hn := hK.1
  have h1 := h.1
  have h2 := h.2
  obtain ⟨t1, t2, t3⟩ := hw a h1
  unfold flf
  by_cases c0 : fl = 0
  · subst c0
    rw [if_pos rfl]
    simp (disch := omega) only [f_X8_fail, f_X8_fail_0, ↓lm_1, ↓lm_2, ↓lm_3, ↓lm_4, ↓lm_5, ↓lm_6, ↓lm_7, ↓lm_8, ↓lm_9, ↓lm_10, ↓lm_11, li_0, li_1, li_2, li_3, li_4, li_5, li_6, li_7, li_8, li_9, li_10, li_11, li_12, li_13, li_14, li_15, li_16, li_17, li_18, li_19, li_20, li_21, li_22, li_23, li_24, li_25, li_26, li_27, li_28, li_29, li_30, li_31, li_32, li_33, li_34, li_35, li_36, li_37, li_38, li_39, li_40, li_41, li_42, li_43, li_44, li_45, li_46, li_47, li_48, li_49, li_50, li_51, li_52, li_53, li_54, li_55, li_56, li_57, li_58, li_59, li_60, li_61, li_62, li_63, li_64, li_65, li_66, li_96, li_97, li_99, li_100, li_122, li_125, li_126, li_140, li_255, li_256, li_999, li_1000, li_1001, li_1002, li_1100, li_1386, li_1452, li_1518, li_9999, li_1000000, tw_g7, tw_g5, tw_A, ↓reduceIte, nm_eq, inb_n, ck_t, nI_clamp, t2, nI_mulN, nI_add, tw_7]
  · have f0 : ¬ nI fl = nI 0 := by rw [nI_eq (by omega) (by omega)]; exact c0
    rw [if_neg c0]
    simp only [f_X8_fail, f_X8_fail_0, ↓lm_1, ↓lm_2, ↓lm_3, ↓lm_4, ↓lm_5, ↓lm_6, ↓lm_7, ↓lm_8, ↓lm_9, ↓lm_10, ↓lm_11, li_0, li_1, li_2, li_3, li_4, li_5, li_6, li_7, li_8, li_9, li_10, li_11, li_12, li_13, li_14, li_15, li_16, li_17, li_18, li_19, li_20, li_21, li_22, li_23, li_24, li_25, li_26, li_27, li_28, li_29, li_30, li_31, li_32, li_33, li_34, li_35, li_36, li_37, li_38, li_39, li_40, li_41, li_42, li_43, li_44, li_45, li_46, li_47, li_48, li_49, li_50, li_51, li_52, li_53, li_54, li_55, li_56, li_57, li_58, li_59, li_60, li_61, li_62, li_63, li_64, li_65, li_66, li_96, li_97, li_99, li_100, li_122, li_125, li_126, li_140, li_255, li_256, li_999, li_1000, li_1001, li_1002, li_1100, li_1386, li_1452, li_1518, li_9999, li_1000000, tw_g7, f0, ↓reduceIte]
theorem x8_goesOn (hK : okK K) (hw : CB w K) (h : okP K a fl) : f_X8_goesOn fu (tw w a fl) = some (b01 (decide (fl = 0 ∧ kK K a ≠ 0))) := by
  have hn := hK.1
  have h1 := h.1
  have h2 := h.2
  obtain ⟨t1, t2, t3⟩ := hw a h1
  have hkl := ckd_lt (kK K a) (kV K a)
  by_cases c0 : fl = 0
  · subst c0
    have e2 : nI (ckd (kK K a) (kV K a)) = nI 0 ↔ kK K a = 0 := by
      rw [nI_eq (by omega) (by omega)]
      unfold ckd
      constructor
      · intro q
        repeat' split at q
        all_goals omega
      · intro q1
        rw [if_pos q1]
    by_cases q : kK K a = 0
    · rw [decide_eq_false (fun z => z.2 q)]
      simp (disch := omega) only [f_X8_goesOn, f_X8_goesOn_0, f_X8_goesOn_23, ↓lm_1, ↓lm_2, ↓lm_3, ↓lm_4, ↓lm_5, ↓lm_6, ↓lm_7, ↓lm_8, ↓lm_9, ↓lm_10, ↓lm_11, li_0, li_1, li_2, li_3, li_4, li_5, li_6, li_7, li_8, li_9, li_10, li_11, li_12, li_13, li_14, li_15, li_16, li_17, li_18, li_19, li_20, li_21, li_22, li_23, li_24, li_25, li_26, li_27, li_28, li_29, li_30, li_31, li_32, li_33, li_34, li_35, li_36, li_37, li_38, li_39, li_40, li_41, li_42, li_43, li_44, li_45, li_46, li_47, li_48, li_49, li_50, li_51, li_52, li_53, li_54, li_55, li_56, li_57, li_58, li_59, li_60, li_61, li_62, li_63, li_64, li_65, li_66, li_96, li_97, li_99, li_100, li_122, li_125, li_126, li_140, li_255, li_256, li_999, li_1000, li_1001, li_1002, li_1100, li_1386, li_1452, li_1518, li_9999, li_1000000, tw_g7, tw_g5, tw_A, ↓reduceIte, nm_eq, inb_n, ck_t, nI_clamp, t1, if_pos (e2.mpr q), b01_f]
    · rw [decide_eq_true (show (0 : Nat) = 0 ∧ kK K a ≠ 0 from ⟨rfl, q⟩)]
      simp (disch := omega) only [f_X8_goesOn, f_X8_goesOn_0, ↓lm_1, ↓lm_2, ↓lm_3, ↓lm_4, ↓lm_5, ↓lm_6, ↓lm_7, ↓lm_8, ↓lm_9, ↓lm_10, ↓lm_11, li_0, li_1, li_2, li_3, li_4, li_5, li_6, li_7, li_8, li_9, li_10, li_11, li_12, li_13, li_14, li_15, li_16, li_17, li_18, li_19, li_20, li_21, li_22, li_23, li_24, li_25, li_26, li_27, li_28, li_29, li_30, li_31, li_32, li_33, li_34, li_35, li_36, li_37, li_38, li_39, li_40, li_41, li_42, li_43, li_44, li_45, li_46, li_47, li_48, li_49, li_50, li_51, li_52, li_53, li_54, li_55, li_56, li_57, li_58, li_59, li_60, li_61, li_62, li_63, li_64, li_65, li_66, li_96, li_97, li_99, li_100, li_122, li_125, li_126, li_140, li_255, li_256, li_999, li_1000, li_1001, li_1002, li_1100, li_1386, li_1452, li_1518, li_9999, li_1000000, tw_g7, tw_g5, tw_A, ↓reduceIte, nm_eq, inb_n, ck_t, nI_clamp, t1, if_neg (fun z => q (e2.mp z)), b01_t]
  · have f0 : ¬ nI fl = nI 0 := by rw [nI_eq (by omega) (by omega)]; exact c0
    rw [decide_eq_false (fun q => c0 q.1)]
    simp only [f_X8_goesOn, f_X8_goesOn_0, f_X8_goesOn_23, ↓lm_1, ↓lm_2, ↓lm_3, ↓lm_4, ↓lm_5, ↓lm_6, ↓lm_7, ↓lm_8, ↓lm_9, ↓lm_10, ↓lm_11, li_0, li_1, li_2, li_3, li_4, li_5, li_6, li_7, li_8, li_9, li_10, li_11, li_12, li_13, li_14, li_15, li_16, li_17, li_18, li_19, li_20, li_21, li_22, li_23, li_24, li_25, li_26, li_27, li_28, li_29, li_30, li_31, li_32, li_33, li_34, li_35, li_36, li_37, li_38, li_39, li_40, li_41, li_42, li_43, li_44, li_45, li_46, li_47, li_48, li_49, li_50, li_51, li_52, li_53, li_54, li_55, li_56, li_57, li_58, li_59, li_60, li_61, li_62, li_63, li_64, li_65, li_66, li_96, li_97, li_99, li_100, li_122, li_125, li_126, li_140, li_255, li_256, li_999, li_1000, li_1001, li_1002, li_1100, li_1386, li_1452, li_1518, li_9999, li_1000000, tw_g7, f0, ↓reduceIte, b01_f]
theorem x8_packedA (hK : okK K) (h : okP K a fl) : f_X8_packed fu (tw w a fl) = some (gL w 3 a) := by
  have hn := hK.1
  have h1 := h.1
  simp (disch := omega) only [f_X8_packed, f_X8_packed_0, tw_g5, tw_L, nm_eq, inb_n, ck_t, nI_clamp]
theorem x8_numberA (hK : okK K) (h : okP K a fl) : f_X8_number fu (tw w a fl) = some (gL w 3 a).toInt32 := by
  have hn := hK.1
  have h1 := h.1
  simp (disch := omega) only [f_X8_number, f_X8_number_0, tw_g5, tw_L, nm_eq, inb_n, ck_t, nI_clamp]
/-! the model -/
theorem m_isSign (hK : okK K) (hv : MB v K) (h : okP K a fl) {c : Nat} (hc : c < 128) : f_X13_isSign fu (mw v a fl) (nI c) = some (b01 (tS K a fl c)) := by
  have hn := hK.1
  have h1 := h.1
  have h2 := h.2
  obtain ⟨t1, t2, t3⟩ := hv a h1
  obtain ⟨o1, o2, o3, o4, o5⟩ := (hK.2.2 a h1).1
  have hcl : (nI c).toInt64 = lN c := nI_l (by omega)
  unfold tS
  by_cases c0 : fl = 0
  · subst c0
    by_cases c3 : kK K a = 3
    · have hvv := o5 c3
      have t3 := t3 (Or.inr (Or.inr c3))
      rw [if_neg (by omega)] at t3
      have cm : lg_cmp (lN (kV K a)) (lN c) = nI 0 ↔ kV K a = c := by rw [lcE, pk_lEQ (by omega) (by omega)]
      simp (disch := omega) only [f_X13_isSign, f_X13_isSign_0, f_X13_isSign_39, ↓lm_1, ↓lm_2, ↓lm_3, ↓lm_4, ↓lm_5, ↓lm_6, ↓lm_7, ↓lm_8, ↓lm_9, ↓lm_10, ↓lm_11, li_0, li_1, li_2, li_3, li_4, li_5, li_6, li_7, li_8, li_9, li_10, li_11, li_12, li_13, li_14, li_15, li_16, li_17, li_18, li_19, li_20, li_21, li_22, li_23, li_24, li_25, li_26, li_27, li_28, li_29, li_30, li_31, li_32, li_33, li_34, li_35, li_36, li_37, li_38, li_39, li_40, li_41, li_42, li_43, li_44, li_45, li_46, li_47, li_48, li_49, li_50, li_51, li_52, li_53, li_54, li_55, li_56, li_57, li_58, li_59, li_60, li_61, li_62, li_63, li_64, li_65, li_66, li_96, li_97, li_99, li_100, li_122, li_125, li_126, li_140, li_255, li_256, li_999, li_1000, li_1001, li_1002, li_1100, li_1386, li_1452, li_1518, li_9999, li_1000000, mw_g7, mw_g8, mw_A, mw_L, ↓reduceIte, nm_eq, inb_n, ck_t, nI_clamp, t1, c3, t3, hcl, cm, true_and]
      by_cases e : kV K a = c
      · rw [if_pos e, decide_eq_true e]; rfl
      · rw [if_neg e, decide_eq_false e]; rfl
    · have e5 : ¬ nI (kK K a) = nI 3 := by rw [nI_eq (by omega) (by omega)]; exact c3
      rw [decide_eq_false (fun q => c3 q.2.1)]
      simp (disch := omega) only [f_X13_isSign, f_X13_isSign_0, f_X13_isSign_39, ↓lm_1, ↓lm_2, ↓lm_3, ↓lm_4, ↓lm_5, ↓lm_6, ↓lm_7, ↓lm_8, ↓lm_9, ↓lm_10, ↓lm_11, li_0, li_1, li_2, li_3, li_4, li_5, li_6, li_7, li_8, li_9, li_10, li_11, li_12, li_13, li_14, li_15, li_16, li_17, li_18, li_19, li_20, li_21, li_22, li_23, li_24, li_25, li_26, li_27, li_28, li_29, li_30, li_31, li_32, li_33, li_34, li_35, li_36, li_37, li_38, li_39, li_40, li_41, li_42, li_43, li_44, li_45, li_46, li_47, li_48, li_49, li_50, li_51, li_52, li_53, li_54, li_55, li_56, li_57, li_58, li_59, li_60, li_61, li_62, li_63, li_64, li_65, li_66, li_96, li_97, li_99, li_100, li_122, li_125, li_126, li_140, li_255, li_256, li_999, li_1000, li_1001, li_1002, li_1100, li_1386, li_1452, li_1518, li_9999, li_1000000, mw_g7, mw_g8, mw_A, ↓reduceIte, nm_eq, inb_n, ck_t, nI_clamp, t1, e5, b01_f]
  · have f0 : ¬ nI fl = nI 0 := by rw [nI_eq (by omega) (by omega)]; exact c0
    rw [decide_eq_false (fun q => c0 q.1)]
    simp only [f_X13_isSign, f_X13_isSign_0, f_X13_isSign_39, ↓lm_1, ↓lm_2, ↓lm_3, ↓lm_4, ↓lm_5, ↓lm_6, ↓lm_7, ↓lm_8, ↓lm_9, ↓lm_10, ↓lm_11, li_0, li_1, li_2, li_3, li_4, li_5, li_6, li_7, li_8, li_9, li_10, li_11, li_12, li_13, li_14, li_15, li_16, li_17, li_18, li_19, li_20, li_21, li_22, li_23, li_24, li_25, li_26, li_27, li_28, li_29, li_30, li_31, li_32, li_33, li_34, li_35, li_36, li_37, li_38, li_39, li_40, li_41, li_42, li_43, li_44, li_45, li_46, li_47, li_48, li_49, li_50, li_51, li_52, li_53, li_54, li_55, li_56, li_57, li_58, li_59, li_60, li_61, li_62, li_63, li_64, li_65, li_66, li_96, li_97, li_99, li_100, li_122, li_125, li_126, li_140, li_255, li_256, li_999, li_1000, li_1001, li_1002, li_1100, li_1386, li_1452, li_1518, li_9999, li_1000000, mw_g8, f0, ↓reduceIte, b01_f]
theorem wds_lt {i : Nat} (h : i < 29) : wds.getD i 0 < 9000000000000000 := by
  rw [← (wpN_w h).2]; exact cv_lt _
theorem m_isWord (hK : okK K) (hv : MB v K) (h9 : WB9 v) (h : okP K a fl) {i : Nat} (hi : i < 29) : f_X13_isWord fu (mw v a fl) (nI i) = some (b01 (decide (tI K a fl = i + 1))) := by
  have hn := hK.1
  have h1 := h.1
  have h2 := h.2
  obtain ⟨t1, t2, t3⟩ := hv a h1
  obtain ⟨o1, o2, o3, o4, o5⟩ := (hK.2.2 a h1).1
  unfold tI
  by_cases c0 : fl = 0
  · subst c0
    by_cases c1 : kK K a = 1
    · obtain ⟨v1, v2⟩ := o3 c1
      have t3 := t3 (Or.inl c1)
      rw [if_pos c1] at t3
      obtain ⟨p1, p2⟩ := wpN_w hi
      have l1 := cv_lt (kV K a)
      have l2 := wds_lt hi
      have cm : lg_cmp (lN (cv (kV K a))) (lN (wds.getD i 0)) = nI 0 ↔ kV K a = wpN.getD (i + 1) 0 := by
        rw [lcE, pk_lEQ (by omega) (by omega), ← p2, cv_inj v1 p1]
      rw [if_pos ⟨rfl, c1⟩]
      simp (disch := omega) only [f_X13_isWord, f_X13_isWord_0, f_X13_isWord_43, ↓lm_1, ↓lm_2, ↓lm_3, ↓lm_4, ↓lm_5, ↓lm_6, ↓lm_7, ↓lm_8, ↓lm_9, ↓lm_10, ↓lm_11, li_0, li_1, li_2, li_3, li_4, li_5, li_6, li_7, li_8, li_9, li_10, li_11, li_12, li_13, li_14, li_15, li_16, li_17, li_18, li_19, li_20, li_21, li_22, li_23, li_24, li_25, li_26, li_27, li_28, li_29, li_30, li_31, li_32, li_33, li_34, li_35, li_36, li_37, li_38, li_39, li_40, li_41, li_42, li_43, li_44, li_45, li_46, li_47, li_48, li_49, li_50, li_51, li_52, li_53, li_54, li_55, li_56, li_57, li_58, li_59, li_60, li_61, li_62, li_63, li_64, li_65, li_66, li_96, li_97, li_99, li_100, li_122, li_125, li_126, li_140, li_255, li_256, li_999, li_1000, li_1001, li_1002, li_1100, li_1386, li_1452, li_1518, li_9999, li_1000000, mw_g7, mw_g8, mw_A, mw_L, ↓reduceIte, nm_eq, inb_n, ck_t, nI_clamp, t1, c1, t3, h9 i hi, cm]
      by_cases e : kV K a = wpN.getD (i + 1) 0
      · rw [if_pos e, decide_eq_true ((wi_iff (by omega) (by omega)).mpr e)]; rfl
      · rw [if_neg e, decide_eq_false (fun q => e ((wi_iff (by omega) (by omega)).mp q))]; rfl
    · have e5 : ¬ nI (kK K a) = nI 1 := by rw [nI_eq (by omega) (by omega)]; exact c1
      rw [if_neg (fun q => c1 q.2), decide_eq_false (by omega)]
      simp (disch := omega) only [f_X13_isWord, f_X13_isWord_0, f_X13_isWord_43, ↓lm_1, ↓lm_2, ↓lm_3, ↓lm_4, ↓lm_5, ↓lm_6, ↓lm_7, ↓lm_8, ↓lm_9, ↓lm_10, ↓lm_11, li_0, li_1, li_2, li_3, li_4, li_5, li_6, li_7, li_8, li_9, li_10, li_11, li_12, li_13, li_14, li_15, li_16, li_17, li_18, li_19, li_20, li_21, li_22, li_23, li_24, li_25, li_26, li_27, li_28, li_29, li_30, li_31, li_32, li_33, li_34, li_35, li_36, li_37, li_38, li_39, li_40, li_41, li_42, li_43, li_44, li_45, li_46, li_47, li_48, li_49, li_50, li_51, li_52, li_53, li_54, li_55, li_56, li_57, li_58, li_59, li_60, li_61, li_62, li_63, li_64, li_65, li_66, li_96, li_97, li_99, li_100, li_122, li_125, li_126, li_140, li_255, li_256, li_999, li_1000, li_1001, li_1002, li_1100, li_1386, li_1452, li_1518, li_9999, li_1000000, mw_g7, mw_g8, mw_A, ↓reduceIte, nm_eq, inb_n, ck_t, nI_clamp, t1, e5, b01_f]
  · have f0 : ¬ nI fl = nI 0 := by rw [nI_eq (by omega) (by omega)]; exact c0
    rw [if_neg (fun q => c0 q.1), decide_eq_false (by omega)]
    simp only [f_X13_isWord, f_X13_isWord_0, f_X13_isWord_43, ↓lm_1, ↓lm_2, ↓lm_3, ↓lm_4, ↓lm_5, ↓lm_6, ↓lm_7, ↓lm_8, ↓lm_9, ↓lm_10, ↓lm_11, li_0, li_1, li_2, li_3, li_4, li_5, li_6, li_7, li_8, li_9, li_10, li_11, li_12, li_13, li_14, li_15, li_16, li_17, li_18, li_19, li_20, li_21, li_22, li_23, li_24, li_25, li_26, li_27, li_28, li_29, li_30, li_31, li_32, li_33, li_34, li_35, li_36, li_37, li_38, li_39, li_40, li_41, li_42, li_43, li_44, li_45, li_46, li_47, li_48, li_49, li_50, li_51, li_52, li_53, li_54, li_55, li_56, li_57, li_58, li_59, li_60, li_61, li_62, li_63, li_64, li_65, li_66, li_96, li_97, li_99, li_100, li_122, li_125, li_126, li_140, li_255, li_256, li_999, li_1000, li_1001, li_1002, li_1100, li_1386, li_1452, li_1518, li_9999, li_1000000, mw_g8, f0, ↓reduceIte, b01_f]
theorem m_wrong (hK : okK K) (hv : MB v K) (h : okP K a fl) (x : Nat) : f_X13_wrong fu (mw v a fl) (nI x) = some (mw v a (flf K a fl x)) := by
  have hn := hK.1
  have h1 := h.1
  have h2 := h.2
  obtain ⟨t1, t2, t3⟩ := hv a h1
  unfold flf
  by_cases c0 : fl = 0
  · subst c0
    rw [if_pos rfl]
    simp (disch := omega) only [f_X13_wrong, f_X13_wrong_0, ↓lm_1, ↓lm_2, ↓lm_3, ↓lm_4, ↓lm_5, ↓lm_6, ↓lm_7, ↓lm_8, ↓lm_9, ↓lm_10, ↓lm_11, li_0, li_1, li_2, li_3, li_4, li_5, li_6, li_7, li_8, li_9, li_10, li_11, li_12, li_13, li_14, li_15, li_16, li_17, li_18, li_19, li_20, li_21, li_22, li_23, li_24, li_25, li_26, li_27, li_28, li_29, li_30, li_31, li_32, li_33, li_34, li_35, li_36, li_37, li_38, li_39, li_40, li_41, li_42, li_43, li_44, li_45, li_46, li_47, li_48, li_49, li_50, li_51, li_52, li_53, li_54, li_55, li_56, li_57, li_58, li_59, li_60, li_61, li_62, li_63, li_64, li_65, li_66, li_96, li_97, li_99, li_100, li_122, li_125, li_126, li_140, li_255, li_256, li_999, li_1000, li_1001, li_1002, li_1100, li_1386, li_1452, li_1518, li_9999, li_1000000, mw_g7, mw_g8, mw_A, ↓reduceIte, nm_eq, inb_n, ck_t, nI_clamp, t2, nI_mulN, nI_add, mw_8]
  · have f0 : ¬ nI fl = nI 0 := by rw [nI_eq (by omega) (by omega)]; exact c0
    rw [if_neg c0]
    simp only [f_X13_wrong, f_X13_wrong_0, ↓lm_1, ↓lm_2, ↓lm_3, ↓lm_4, ↓lm_5, ↓lm_6, ↓lm_7, ↓lm_8, ↓lm_9, ↓lm_10, ↓lm_11, li_0, li_1, li_2, li_3, li_4, li_5, li_6, li_7, li_8, li_9, li_10, li_11, li_12, li_13, li_14, li_15, li_16, li_17, li_18, li_19, li_20, li_21, li_22, li_23, li_24, li_25, li_26, li_27, li_28, li_29, li_30, li_31, li_32, li_33, li_34, li_35, li_36, li_37, li_38, li_39, li_40, li_41, li_42, li_43, li_44, li_45, li_46, li_47, li_48, li_49, li_50, li_51, li_52, li_53, li_54, li_55, li_56, li_57, li_58, li_59, li_60, li_61, li_62, li_63, li_64, li_65, li_66, li_96, li_97, li_99, li_100, li_122, li_125, li_126, li_140, li_255, li_256, li_999, li_1000, li_1001, li_1002, li_1100, li_1386, li_1452, li_1518, li_9999, li_1000000, mw_g8, f0, ↓reduceIte]
theorem m_wordHere (hf : 1101 ≤ fu) (hK : okK K) (hv : MB v K) (h9 : WB9 v) (h : okP K a fl) {b m : Nat} (hb : b + m ≤ 29) : f_X13_wordHere fu (mw v a fl) (nI b) (nI m) = some (oI (if b + 1 ≤ tI K a fl ∧ tI K a fl < b + 1 + m then some (tI K a fl - (b + 1)) else none)) := by
  have e0 : mI 1 = oI (if b + 1 ≤ tI K a fl ∧ tI K a fl < b + 1 + 0 then some (tI K a fl - (b + 1)) else none) := by rw [if_neg (by omega)]; rfl
  simp only [f_X13_wordHere, f_X13_wordHere_0, f_X13_wordHere_5, ↓lm_1, ↓lm_2, ↓lm_3, ↓lm_4, ↓lm_5, ↓lm_6, ↓lm_7, ↓lm_8, ↓lm_9, ↓lm_10, ↓lm_11, li_0, li_1, li_2, li_3, li_4, li_5, li_6, li_7, li_8, li_9, li_10, li_11, li_12, li_13, li_14, li_15, li_16, li_17, li_18, li_19, li_20, li_21, li_22, li_23, li_24, li_25, li_26, li_27, li_28, li_29, li_30, li_31, li_32, li_33, li_34, li_35, li_36, li_37, li_38, li_39, li_40, li_41, li_42, li_43, li_44, li_45, li_46, li_47, li_48, li_49, li_50, li_51, li_52, li_53, li_54, li_55, li_56, li_57, li_58, li_59, li_60, li_61, li_62, li_63, li_64, li_65, li_66, li_96, li_97, li_99, li_100, li_122, li_125, li_126, li_140, li_255, li_256, li_999, li_1000, li_1001, li_1002, li_1100, li_1386, li_1452, li_1518, li_9999, li_1000000]
  rw [e0]
  refine for2 _ (fun k => oI (if b + 1 ≤ tI K a fl ∧ tI K a fl < b + 1 + k then some (tI K a fl - (b + 1)) else none)) (fun k => nI k) 0 m _ ?_ ?_ fu (by omega) (by omega)
  · intro rec
    simp (disch := omega) only [f_X13_wordHere_5s, nI_leI, Nat.le_refl, ↓reduceIte]
  · intro k rec _ hk
    have hle : ¬ nI m ≤ nI k := nI_ge hk (by omega)
    simp (disch := omega) only [f_X13_wordHere_5s, f_X13_wordHere_28, ↓lm_1, ↓lm_2, ↓lm_3, ↓lm_4, ↓lm_5, ↓lm_6, ↓lm_7, ↓lm_8, ↓lm_9, ↓lm_10, ↓lm_11, li_0, li_1, li_2, li_3, li_4, li_5, li_6, li_7, li_8, li_9, li_10, li_11, li_12, li_13, li_14, li_15, li_16, li_17, li_18, li_19, li_20, li_21, li_22, li_23, li_24, li_25, li_26, li_27, li_28, li_29, li_30, li_31, li_32, li_33, li_34, li_35, li_36, li_37, li_38, li_39, li_40, li_41, li_42, li_43, li_44, li_45, li_46, li_47, li_48, li_49, li_50, li_51, li_52, li_53, li_54, li_55, li_56, li_57, li_58, li_59, li_60, li_61, li_62, li_63, li_64, li_65, li_66, li_96, li_97, li_99, li_100, li_122, li_125, li_126, li_140, li_255, li_256, li_999, li_1000, li_1001, li_1002, li_1100, li_1386, li_1452, li_1518, li_9999, li_1000000, hle, ↓reduceIte, nI_add, m_isWord hK hv h9 h (show b + k < 29 by omega), bd_s, nm_eq]
    by_cases e : tI K a fl = b + k + 1
    · rw [decide_eq_true e, b01_t, if_neg n10, if_pos (by omega), e, show b + k + 1 - (b + 1) = k by omega]; rfl
    · rw [decide_eq_false e, b01_f, if_pos rfl]
      by_cases c : b + 1 ≤ tI K a fl ∧ tI K a fl < b + 1 + k
      · rw [if_pos c, if_pos (by omega)]
      · rw [if_neg c, if_neg (by omega)]
theorem tNm_tI : tNm K a fl = decide (fl = 0 ∧ kK K a = 1 ∧ ¬ (1 ≤ tI K a fl ∧ tI K a fl ≤ 25)) := by
  unfold tNm tI
  by_cases c : fl = 0 ∧ kK K a = 1
  · rw [if_pos c]
  · rw [decide_eq_false (fun q => c ⟨q.1, q.2.1⟩), decide_eq_false (fun q => c ⟨q.1, q.2.1⟩)]
theorem oI_nn {o : Option Nat} (h : ∀ j, o = some j → j < 1000) : nI 0 ≤ oI o ↔ o ≠ none := by
  cases o with
  | none =>
    have : ¬ nI 0 ≤ mI 1 := by decide
    simp [oI, this]
  | some j =>
    have : nI 0 ≤ nI j := nI_le (by omega) (by have := h j rfl; omega)
    simp [oI, this]
theorem m_isName (hf : 1101 ≤ fu) (hK : okK K) (hv : MB v K) (h9 : WB9 v) (h : okP K a fl) : f_X13_isName fu (mw v a fl) = some (b01 (tNm K a fl)) := by
  have hn := hK.1
  have h1 := h.1
  have h2 := h.2
  obtain ⟨t1, t2, t3⟩ := hv a h1
  have o1 := (hK.2.2 a h1).1.1
  rw [tNm_tI]
  by_cases c0 : fl = 0
  · by_cases c1 : kK K a = 1
    · have wh := m_wordHere (fu := fu) (v := v) hf hK hv h9 h (b := 0) (m := 25) (by omega)
      have wl := tI_lt (K := K) (a := a) (fl := fl)
      have hnn := oI_nn (o := if 0 + 1 ≤ tI K a fl ∧ tI K a fl < 0 + 1 + 25 then some (tI K a fl - (0 + 1)) else none) (by intro j hj; split at hj <;> first | (cases hj; omega) | cases hj)
      rw [c0] at wh hnn ⊢
      simp (disch := omega) only [f_X13_isName, f_X13_isName_0, f_X13_isName_34, ↓lm_1, ↓lm_2, ↓lm_3, ↓lm_4, ↓lm_5, ↓lm_6, ↓lm_7, ↓lm_8, ↓lm_9, ↓lm_10, ↓lm_11, li_0, li_1, li_2, li_3, li_4, li_5, li_6, li_7, li_8, li_9, li_10, li_11, li_12, li_13, li_14, li_15, li_16, li_17, li_18, li_19, li_20, li_21, li_22, li_23, li_24, li_25, li_26, li_27, li_28, li_29, li_30, li_31, li_32, li_33, li_34, li_35, li_36, li_37, li_38, li_39, li_40, li_41, li_42, li_43, li_44, li_45, li_46, li_47, li_48, li_49, li_50, li_51, li_52, li_53, li_54, li_55, li_56, li_57, li_58, li_59, li_60, li_61, li_62, li_63, li_64, li_65, li_66, li_96, li_97, li_99, li_100, li_122, li_125, li_126, li_140, li_255, li_256, li_999, li_1000, li_1001, li_1002, li_1100, li_1386, li_1452, li_1518, li_9999, li_1000000, mw_g7, mw_g8, mw_A, ↓reduceIte, nm_eq, inb_n, ck_t, nI_clamp, t1, c1, wh, bd_s, hnn, true_and]
      by_cases q : 1 ≤ tI K a 0 ∧ tI K a 0 ≤ 25
      · rw [if_pos (by rw [if_pos (by omega)]; simp), decide_eq_false (fun z => z q)]; rfl
      · rw [if_neg (by rw [if_neg (by omega)]; simp), decide_eq_true q]; rfl
    · have e5 : ¬ nI (kK K a) = nI 1 := by rw [nI_eq (by omega) (by omega)]; exact c1
      rw [decide_eq_false (fun q => c1 q.2.1), c0]
      simp (disch := omega) only [f_X13_isName, f_X13_isName_0, f_X13_isName_34, ↓lm_1, ↓lm_2, ↓lm_3, ↓lm_4, ↓lm_5, ↓lm_6, ↓lm_7, ↓lm_8, ↓lm_9, ↓lm_10, ↓lm_11, li_0, li_1, li_2, li_3, li_4, li_5, li_6, li_7, li_8, li_9, li_10, li_11, li_12, li_13, li_14, li_15, li_16, li_17, li_18, li_19, li_20, li_21, li_22, li_23, li_24, li_25, li_26, li_27, li_28, li_29, li_30, li_31, li_32, li_33, li_34, li_35, li_36, li_37, li_38, li_39, li_40, li_41, li_42, li_43, li_44, li_45, li_46, li_47, li_48, li_49, li_50, li_51, li_52, li_53, li_54, li_55, li_56, li_57, li_58, li_59, li_60, li_61, li_62, li_63, li_64, li_65, li_66, li_96, li_97, li_99, li_100, li_122, li_125, li_126, li_140, li_255, li_256, li_999, li_1000, li_1001, li_1002, li_1100, li_1386, li_1452, li_1518, li_9999, li_1000000, mw_g7, mw_g8, mw_A, ↓reduceIte, nm_eq, inb_n, ck_t, nI_clamp, t1, e5, b01_f]
  · have f0 : ¬ nI fl = nI 0 := by rw [nI_eq (by omega) (by omega)]; exact c0
    rw [decide_eq_false (fun q => c0 q.1)]
    simp only [f_X13_isName, f_X13_isName_0, f_X13_isName_34, ↓lm_1, ↓lm_2, ↓lm_3, ↓lm_4, ↓lm_5, ↓lm_6, ↓lm_7, ↓lm_8, ↓lm_9, ↓lm_10, ↓lm_11, li_0, li_1, li_2, li_3, li_4, li_5, li_6, li_7, li_8, li_9, li_10, li_11, li_12, li_13, li_14, li_15, li_16, li_17, li_18, li_19, li_20, li_21, li_22, li_23, li_24, li_25, li_26, li_27, li_28, li_29, li_30, li_31, li_32, li_33, li_34, li_35, li_36, li_37, li_38, li_39, li_40, li_41, li_42, li_43, li_44, li_45, li_46, li_47, li_48, li_49, li_50, li_51, li_52, li_53, li_54, li_55, li_56, li_57, li_58, li_59, li_60, li_61, li_62, li_63, li_64, li_65, li_66, li_96, li_97, li_99, li_100, li_122, li_125, li_126, li_140, li_255, li_256, li_999, li_1000, li_1001, li_1002, li_1100, li_1386, li_1452, li_1518, li_9999, li_1000000, mw_g8, f0, ↓reduceIte, b01_f]
/-! steps that both do -/
/-- behind a sign that must stand there -/
def ndS (K : KT) (a fl c : Nat) : Nat × Nat := if tS K a fl c = true then (a + 1, fl) else (a, flf K a fl 1)
def ndW (K : KT) (a fl i : Nat) : Nat × Nat := if tI K a fl = i then (a + 1, fl) else (a, flf K a fl 1)
theorem tS_k {c : Nat} (h : tS K a fl c = true) : fl = 0 ∧ kK K a = 3 := ⟨(of_decide_eq_true h).1, (of_decide_eq_true h).2.1⟩
theorem tI_k {i : Nat} (h1 : 1 ≤ i) (h : tI K a fl = i) : fl = 0 ∧ kK K a = 1 := by
  unfold tI at h
  by_cases c : fl = 0 ∧ kK K a = 1
  · exact c
  · rw [if_neg c] at h; omega
theorem stp_in (h0 : fl = 0) (hk : kK K a ≠ 0) : stp K a fl = a + 1 := if_pos ⟨h0, hk⟩
theorem okP_in (hK : okK K) (h : okP K a fl) (hk : kK K a ≠ 0) : okP K (a + 1) fl := by
  refine ⟨?_, h.2⟩
  apply Classical.byContradiction
  intro q
  have : a = kN K := by have := h.1; omega
  rw [this] at hk; exact hk hK.2.1
theorem x8_need1 (hK : okK K) (hw : CB w K) (h : okP K a fl) {c : Nat} (hc : c < 128) : f_X8_need fu (tw w a fl) (nI c) = some (tw w (ndS K a fl c).1 (ndS K a fl c).2) := by
  simp only [f_X8_need, f_X8_need_0, ↓lm_1, ↓lm_2, ↓lm_3, ↓lm_4, ↓lm_5, ↓lm_6, ↓lm_7, ↓lm_8, ↓lm_9, ↓lm_10, ↓lm_11, li_0, li_1, li_2, li_3, li_4, li_5, li_6, li_7, li_8, li_9, li_10, li_11, li_12, li_13, li_14, li_15, li_16, li_17, li_18, li_19, li_20, li_21, li_22, li_23, li_24, li_25, li_26, li_27, li_28, li_29, li_30, li_31, li_32, li_33, li_34, li_35, li_36, li_37, li_38, li_39, li_40, li_41, li_42, li_43, li_44, li_45, li_46, li_47, li_48, li_49, li_50, li_51, li_52, li_53, li_54, li_55, li_56, li_57, li_58, li_59, li_60, li_61, li_62, li_63, li_64, li_65, li_66, li_96, li_97, li_99, li_100, li_122, li_125, li_126, li_140, li_255, li_256, li_999, li_1000, li_1001, li_1002, li_1100, li_1386, li_1452, li_1518, li_9999, li_1000000, x8_isAt hK hw h hc, bd_s, x8_step1 hK hw h, x8_fail hK hw h]
  unfold ndS
  cases q : tS K a fl c
  · simp only [b01_f, ↓reduceIte, Bool.false_eq_true]
  · have := tS_k q
    rw [stp_in this.1 (by omega)]
    simp only [b01_t, n10, ↓reduceIte]
theorem x8_needW (hK : okK K) (hw : CB w K) (h : okP K a fl) {i : Nat} (h1i : 1 ≤ i) (hi : i < 30) : f_X8_need_ fu (tw w a fl) i = some (tw w (ndW K a fl i).1 (ndW K a fl i).2) := by
  simp only [f_X8_need_, f_X8_need__0, ↓lm_1, ↓lm_2, ↓lm_3, ↓lm_4, ↓lm_5, ↓lm_6, ↓lm_7, ↓lm_8, ↓lm_9, ↓lm_10, ↓lm_11, li_0, li_1, li_2, li_3, li_4, li_5, li_6, li_7, li_8, li_9, li_10, li_11, li_12, li_13, li_14, li_15, li_16, li_17, li_18, li_19, li_20, li_21, li_22, li_23, li_24, li_25, li_26, li_27, li_28, li_29, li_30, li_31, li_32, li_33, li_34, li_35, li_36, li_37, li_38, li_39, li_40, li_41, li_42, li_43, li_44, li_45, li_46, li_47, li_48, li_49, li_50, li_51, li_52, li_53, li_54, li_55, li_56, li_57, li_58, li_59, li_60, li_61, li_62, li_63, li_64, li_65, li_66, li_96, li_97, li_99, li_100, li_122, li_125, li_126, li_140, li_255, li_256, li_999, li_1000, li_1001, li_1002, li_1100, li_1386, li_1452, li_1518, li_9999, li_1000000, x8_isAtW hK hw h h1i hi, bd_s, x8_step1 hK hw h, x8_fail hK hw h]
  unfold ndW
  by_cases q : tI K a fl = i
  · have := tI_k h1i q
    rw [stp_in this.1 (by omega), decide_eq_true q, if_pos q]
    simp only [b01_t, n10, ↓reduceIte]
  · rw [decide_eq_false q, if_neg q]
    simp only [b01_f, ↓reduceIte]
theorem m_takeSign (hK : okK K) (hv : MB v K) (h : okP K a fl) {c : Nat} (hc : c < 128) : f_X13_takeSign fu (mw v a fl) (nI c) = some (mw v (ndS K a fl c).1 (ndS K a fl c).2) := by
  simp only [f_X13_takeSign, f_X13_takeSign_0, ↓lm_1, ↓lm_2, ↓lm_3, ↓lm_4, ↓lm_5, ↓lm_6, ↓lm_7, ↓lm_8, ↓lm_9, ↓lm_10, ↓lm_11, li_0, li_1, li_2, li_3, li_4, li_5, li_6, li_7, li_8, li_9, li_10, li_11, li_12, li_13, li_14, li_15, li_16, li_17, li_18, li_19, li_20, li_21, li_22, li_23, li_24, li_25, li_26, li_27, li_28, li_29, li_30, li_31, li_32, li_33, li_34, li_35, li_36, li_37, li_38, li_39, li_40, li_41, li_42, li_43, li_44, li_45, li_46, li_47, li_48, li_49, li_50, li_51, li_52, li_53, li_54, li_55, li_56, li_57, li_58, li_59, li_60, li_61, li_62, li_63, li_64, li_65, li_66, li_96, li_97, li_99, li_100, li_122, li_125, li_126, li_140, li_255, li_256, li_999, li_1000, li_1001, li_1002, li_1100, li_1386, li_1452, li_1518, li_9999, li_1000000, m_isSign hK hv h hc, bd_s, m_wrong hK hv h, mw_g7, nI_add, mw_7, nm_eq]
  unfold ndS
  cases q : tS K a fl c
  · simp only [b01_f, ↓reduceIte, Bool.false_eq_true]
  · simp only [b01_t, n10, ↓reduceIte]
theorem mw_same : sI (mw v a fl) 7 (nI a + nI 0) = mw v a fl := by rw [nI_add, mw_7]; rfl
theorem m_hasSign (hK : okK K) (hv : MB v K) (h : okP K a fl) {c : Nat} (hc : c < 128) : f_X13_hasSign fu (mw v a fl) (nI c) = some (b01 (tS K a fl c), mw v (if tS K a fl c = true then a + 1 else a) fl) := by
  simp only [f_X13_hasSign, f_X13_hasSign_0, f_X13_hasSign_20, ↓lm_1, ↓lm_2, ↓lm_3, ↓lm_4, ↓lm_5, ↓lm_6, ↓lm_7, ↓lm_8, ↓lm_9, ↓lm_10, ↓lm_11, li_0, li_1, li_2, li_3, li_4, li_5, li_6, li_7, li_8, li_9, li_10, li_11, li_12, li_13, li_14, li_15, li_16, li_17, li_18, li_19, li_20, li_21, li_22, li_23, li_24, li_25, li_26, li_27, li_28, li_29, li_30, li_31, li_32, li_33, li_34, li_35, li_36, li_37, li_38, li_39, li_40, li_41, li_42, li_43, li_44, li_45, li_46, li_47, li_48, li_49, li_50, li_51, li_52, li_53, li_54, li_55, li_56, li_57, li_58, li_59, li_60, li_61, li_62, li_63, li_64, li_65, li_66, li_96, li_97, li_99, li_100, li_122, li_125, li_126, li_140, li_255, li_256, li_999, li_1000, li_1001, li_1002, li_1100, li_1386, li_1452, li_1518, li_9999, li_1000000, m_isSign hK hv h hc, bd_s, mw_g7, nm_eq]
  cases q : tS K a fl c
  · simp only [b01_f, ↓reduceIte, Bool.false_eq_true, isB_0, ck_t, mw_same]
  · simp only [b01_t, n10, ↓reduceIte, isB_1, ck_t, nI_add, mw_7]
theorem m_hasWord (hK : okK K) (hv : MB v K) (h9 : WB9 v) (h : okP K a fl) {i : Nat} (hi : i < 29) : f_X13_hasWord fu (mw v a fl) (nI i) = some (b01 (decide (tI K a fl = i + 1)), mw v (if tI K a fl = i + 1 then a + 1 else a) fl) := by
  simp only [f_X13_hasWord, f_X13_hasWord_0, f_X13_hasWord_20, ↓lm_1, ↓lm_2, ↓lm_3, ↓lm_4, ↓lm_5, ↓lm_6, ↓lm_7, ↓lm_8, ↓lm_9, ↓lm_10, ↓lm_11, li_0, li_1, li_2, li_3, li_4, li_5, li_6, li_7, li_8, li_9, li_10, li_11, li_12, li_13, li_14, li_15, li_16, li_17, li_18, li_19, li_20, li_21, li_22, li_23, li_24, li_25, li_26, li_27, li_28, li_29, li_30, li_31, li_32, li_33, li_34, li_35, li_36, li_37, li_38, li_39, li_40, li_41, li_42, li_43, li_44, li_45, li_46, li_47, li_48, li_49, li_50, li_51, li_52, li_53, li_54, li_55, li_56, li_57, li_58, li_59, li_60, li_61, li_62, li_63, li_64, li_65, li_66, li_96, li_97, li_99, li_100, li_122, li_125, li_126, li_140, li_255, li_256, li_999, li_1000, li_1001, li_1002, li_1100, li_1386, li_1452, li_1518, li_9999, li_1000000, m_isWord hK hv h9 h hi, bd_s, mw_g7, nm_eq]
  by_cases q : tI K a fl = i + 1
  · rw [decide_eq_true q, if_pos q]
    simp only [b01_t, n10, ↓reduceIte, isB_1, ck_t, nI_add, mw_7]
  · rw [decide_eq_false q, if_neg q]
    simp only [b01_f, ↓reduceIte, isB_0, ck_t, mw_same]
theorem m_takeWord (hK : okK K) (hv : MB v K) (h9 : WB9 v) (h : okP K a fl) {i : Nat} (hi : i < 29) : f_X13_takeWord fu (mw v a fl) (nI i) = some (mw v (ndW K a fl (i + 1)).1 (ndW K a fl (i + 1)).2) := by
  simp only [f_X13_takeWord, f_X13_takeWord_0, ↓lm_1, ↓lm_2, ↓lm_3, ↓lm_4, ↓lm_5, ↓lm_6, ↓lm_7, ↓lm_8, ↓lm_9, ↓lm_10, ↓lm_11, li_0, li_1, li_2, li_3, li_4, li_5, li_6, li_7, li_8, li_9, li_10, li_11, li_12, li_13, li_14, li_15, li_16, li_17, li_18, li_19, li_20, li_21, li_22, li_23, li_24, li_25, li_26, li_27, li_28, li_29, li_30, li_31, li_32, li_33, li_34, li_35, li_36, li_37, li_38, li_39, li_40, li_41, li_42, li_43, li_44, li_45, li_46, li_47, li_48, li_49, li_50, li_51, li_52, li_53, li_54, li_55, li_56, li_57, li_58, li_59, li_60, li_61, li_62, li_63, li_64, li_65, li_66, li_96, li_97, li_99, li_100, li_122, li_125, li_126, li_140, li_255, li_256, li_999, li_1000, li_1001, li_1002, li_1100, li_1386, li_1452, li_1518, li_9999, li_1000000, m_hasWord hK hv h9 h hi, bd2_s]
  unfold ndW
  by_cases q : tI K a fl = i + 1
  · rw [decide_eq_true q, if_pos q, if_pos q]
    simp only [b01_t, n10, ↓reduceIte]
  · rw [decide_eq_false q, if_neg q, if_neg q]
    simp only [b01_f, ↓reduceIte, m_wrong hK hv h, bd_s]
theorem okP_ndS (hK : okK K) (h : okP K a fl) (c : Nat) : okP K (ndS K a fl c).1 (ndS K a fl c).2 := by
  unfold ndS
  cases q : tS K a fl c
  · exact okP_flf hK h (by omega)
  · have := tS_k q
    exact okP_in hK h (by omega)
theorem okP_ndW (hK : okK K) (h : okP K a fl) {i : Nat} (h1 : 1 ≤ i) : okP K (ndW K a fl i).1 (ndW K a fl i).2 := by
  unfold ndW
  by_cases q : tI K a fl = i
  · have := tI_k h1 q
    rw [if_pos q]; exact okP_in hK h (by omega)
  · rw [if_neg q]; exact okP_flf hK h (by omega)
/-- behind a number under lim that must stand there -/
def ndN (K : KT) (a fl lim : Nat) : Nat × Nat := if tD K a fl = true then (if kV K a < lim then (a + 1, fl) else (a, flf K a fl 4)) else (a, flf K a fl 1)
theorem okP_ndN (hK : okK K) (h : okP K a fl) (lim : Nat) : okP K (ndN K a fl lim).1 (ndN K a fl lim).2 := by
  unfold ndN
  cases q : tD K a fl
  · exact okP_flf hK h (by omega)
  · have := of_decide_eq_true q
    simp only [↓reduceIte]
    split
    · exact okP_in hK h (by omega)
    · exact okP_flf hK h (by omega)
theorem ndN_0 {lim : Nat} (h : (ndN K a fl lim).2 = 0) : fl = 0 ∧ kK K a = 2 ∧ kV K a < lim := by
  unfold ndN at h
  cases q : tD K a fl
  · rw [q] at h; simp only [Bool.false_eq_true, ↓reduceIte] at h; exact absurd h (flf_pos (by omega))
  · have q1 := of_decide_eq_true q
    rw [q] at h
    simp only [↓reduceIte] at h
    by_cases c : kV K a < lim
    · exact ⟨q1.1, q1.2, c⟩
    · rw [if_neg c] at h; exact absurd h (flf_pos (by omega))
theorem x8_takeNum (hK : okK K) (hw : CB w K) (h : okP K a fl) {lim : Nat} (hl : lim < 100000) : ∃ z, f_X8_takeNumberBelow fu (tw w a fl) (nI lim) = some (z, tw w (ndN K a fl lim).1 (ndN K a fl lim).2) ∧ ((ndN K a fl lim).2 = 0 → z = nI (kV K a)) := by
  obtain ⟨o1, o2, o3, o4, o5⟩ := (hK.2.2 a h.1).1
  refine ⟨(gL w 3 a).toInt32, ?_, fun q => ?_⟩
  · unfold ndN
    cases q : tD K a fl
    · simp only [f_X8_takeNumberBelow, f_X8_takeNumberBelow_0, f_X8_takeNumberBelow_35, ↓lm_1, ↓lm_2, ↓lm_3, ↓lm_4, ↓lm_5, ↓lm_6, ↓lm_7, ↓lm_8, ↓lm_9, ↓lm_10, ↓lm_11, li_0, li_1, li_2, li_3, li_4, li_5, li_6, li_7, li_8, li_9, li_10, li_11, li_12, li_13, li_14, li_15, li_16, li_17, li_18, li_19, li_20, li_21, li_22, li_23, li_24, li_25, li_26, li_27, li_28, li_29, li_30, li_31, li_32, li_33, li_34, li_35, li_36, li_37, li_38, li_39, li_40, li_41, li_42, li_43, li_44, li_45, li_46, li_47, li_48, li_49, li_50, li_51, li_52, li_53, li_54, li_55, li_56, li_57, li_58, li_59, li_60, li_61, li_62, li_63, li_64, li_65, li_66, li_96, li_97, li_99, li_100, li_122, li_125, li_126, li_140, li_255, li_256, li_999, li_1000, li_1001, li_1002, li_1100, li_1386, li_1452, li_1518, li_9999, li_1000000, x8_numberA hK h, x8_isNumber hK hw h, q, bd_s, b01_f, ↓reduceIte, x8_fail hK hw h, Bool.false_eq_true]
    · have q1 := of_decide_eq_true q
      have hv := o4 q1.2
      have t3 := (hw a h.1).2.2 (Or.inr (Or.inl q1.2))
      have e : (gL w 3 a).toInt32 = nI (kV K a) := by rw [t3, lN_i]
      rw [e]
      simp (disch := omega) only [f_X8_takeNumberBelow, f_X8_takeNumberBelow_0, f_X8_takeNumberBelow_23, f_X8_takeNumberBelow_35, f_X8_stepOrFail, f_X8_stepOrFail_0, ↓lm_1, ↓lm_2, ↓lm_3, ↓lm_4, ↓lm_5, ↓lm_6, ↓lm_7, ↓lm_8, ↓lm_9, ↓lm_10, ↓lm_11, li_0, li_1, li_2, li_3, li_4, li_5, li_6, li_7, li_8, li_9, li_10, li_11, li_12, li_13, li_14, li_15, li_16, li_17, li_18, li_19, li_20, li_21, li_22, li_23, li_24, li_25, li_26, li_27, li_28, li_29, li_30, li_31, li_32, li_33, li_34, li_35, li_36, li_37, li_38, li_39, li_40, li_41, li_42, li_43, li_44, li_45, li_46, li_47, li_48, li_49, li_50, li_51, li_52, li_53, li_54, li_55, li_56, li_57, li_58, li_59, li_60, li_61, li_62, li_63, li_64, li_65, li_66, li_96, li_97, li_99, li_100, li_122, li_125, li_126, li_140, li_255, li_256, li_999, li_1000, li_1001, li_1002, li_1100, li_1386, li_1452, li_1518, li_9999, li_1000000, x8_numberA hK h, e, x8_isNumber hK hw h, q, bd_s, b01_t, n10, ↓reduceIte, x8_fail hK hw h, x8_step1 hK hw h, nI_leI, stp_in q1.1 (show kK K a ≠ 0 by omega)]
      by_cases c : kV K a < lim
      · rw [if_neg (by omega), if_pos c]
      · rw [if_pos (by omega), if_neg c]
  · have q1 := ndN_0 q
    rw [(hw a h.1).2.2 (Or.inr (Or.inl q1.2.1)), lN_i]
theorem m_takeNum (hK : okK K) (hv : MB v K) (h : okP K a fl) {hi : Nat} (hl : hi < 100000) : f_X13_takeNumber fu (mw v a fl) (nI 0) (nI hi) = some (if (ndN K a fl (hi + 1)).2 = 0 then nI (kV K a) else nI 0, mw v (ndN K a fl (hi + 1)).1 (ndN K a fl (hi + 1)).2) := by
  have hn := hK.1
  have h1 := h.1
  have h2 := h.2
  obtain ⟨t1, t2, t3⟩ := hv a h1
  obtain ⟨o1, o2, o3, o4, o5⟩ := (hK.2.2 a h1).1
  have flt : ∀ x, x ≤ 5 → 1 ≤ x → ¬ nI (flf K a fl x) ≤ nI 0 := fun x hx h1x => by
    have := (okP_flf hK h hx).2
    have := flf_pos (K := K) (a := a) (fl := fl) h1x
    exact nI_ge (by omega) (by omega)
  unfold ndN
  by_cases c0 : fl = 0
  · by_cases c2 : kK K a = 2
    · have q : tD K a fl = true := decide_eq_true ⟨c0, c2⟩
      have hvv := o4 c2
      have t3 := t3 (Or.inr (Or.inl c2))
      rw [if_neg (by omega)] at t3
      have z0 : (nI 0).toInt64 = lN 0 := nI_l (by omega)
      have zh : (nI hi).toInt64 = lN hi := nI_l (by omega)
      have cl : ¬ lg_cmp (lN (kV K a)) (lN 0) < nI 0 := by rw [lcL, pk_lLT (by omega) (by omega)]; omega
      have cm : lg_cmp (lN (kV K a)) (lN hi) ≤ nI 0 ↔ kV K a ≤ hi := by rw [lcLE, pk_lLE (by omega) (by omega)]
      rw [q]
      have w4 := m_wrong (fu := fu) hK hv h 4
      have f4 := flt 4 (by omega) (by omega)
      have fp := flf_pos (K := K) (a := a) (fl := fl) (x := 4) (by omega)
      subst c0
      have n00 : nI 0 ≤ nI 0 := by decide
      by_cases c : kV K a < hi + 1
      · have cc := cm.mpr (by omega)
        simp (disch := omega) only [f_X13_takeNumber, f_X13_takeNumber_0, f_X13_takeNumber_28, f_X13_takeNumber_70, ↓lm_1, ↓lm_2, ↓lm_3, ↓lm_4, ↓lm_5, ↓lm_6, ↓lm_7, ↓lm_8, ↓lm_9, ↓lm_10, ↓lm_11, li_0, li_1, li_2, li_3, li_4, li_5, li_6, li_7, li_8, li_9, li_10, li_11, li_12, li_13, li_14, li_15, li_16, li_17, li_18, li_19, li_20, li_21, li_22, li_23, li_24, li_25, li_26, li_27, li_28, li_29, li_30, li_31, li_32, li_33, li_34, li_35, li_36, li_37, li_38, li_39, li_40, li_41, li_42, li_43, li_44, li_45, li_46, li_47, li_48, li_49, li_50, li_51, li_52, li_53, li_54, li_55, li_56, li_57, li_58, li_59, li_60, li_61, li_62, li_63, li_64, li_65, li_66, li_96, li_97, li_99, li_100, li_122, li_125, li_126, li_140, li_255, li_256, li_999, li_1000, li_1001, li_1002, li_1100, li_1386, li_1452, li_1518, li_9999, li_1000000, mw_g7, mw_g8, mw_A, mw_L, ↓reduceIte, ↓nm_eq, inb_n, ck_t, nI_clamp, t1, c2, t3, z0, zh, cl, cc, c, n00, nI_add, mw_7, pk_sub, Nat.add_sub_cancel, lN_i]
      · have cc : ¬ lg_cmp (lN (kV K a)) (lN hi) ≤ nI 0 := fun z => by have := cm.mp z; omega
        simp (disch := omega) only [f_X13_takeNumber, f_X13_takeNumber_0, f_X13_takeNumber_28, f_X13_takeNumber_65, f_X13_takeNumber_70, ↓lm_1, ↓lm_2, ↓lm_3, ↓lm_4, ↓lm_5, ↓lm_6, ↓lm_7, ↓lm_8, ↓lm_9, ↓lm_10, ↓lm_11, li_0, li_1, li_2, li_3, li_4, li_5, li_6, li_7, li_8, li_9, li_10, li_11, li_12, li_13, li_14, li_15, li_16, li_17, li_18, li_19, li_20, li_21, li_22, li_23, li_24, li_25, li_26, li_27, li_28, li_29, li_30, li_31, li_32, li_33, li_34, li_35, li_36, li_37, li_38, li_39, li_40, li_41, li_42, li_43, li_44, li_45, li_46, li_47, li_48, li_49, li_50, li_51, li_52, li_53, li_54, li_55, li_56, li_57, li_58, li_59, li_60, li_61, li_62, li_63, li_64, li_65, li_66, li_96, li_97, li_99, li_100, li_122, li_125, li_126, li_140, li_255, li_256, li_999, li_1000, li_1001, li_1002, li_1100, li_1386, li_1452, li_1518, li_9999, li_1000000, mw_g7, mw_g8, mw_A, mw_L, ↓reduceIte, ↓nm_eq, inb_n, ck_t, nI_clamp, t1, c2, t3, z0, zh, cl, cc, c, w4, bd_s, f4, fp]
    · have q : tD K a fl = false := decide_eq_false (fun q => c2 q.2)
      have e5 : ¬ nI (kK K a) = nI 2 := by rw [nI_eq (by omega) (by omega)]; exact c2
      rw [q]
      have w1 := m_wrong (fu := fu) hK hv h 1
      have f1 := flt 1 (by omega) (by omega)
      have fp := flf_pos (K := K) (a := a) (fl := fl) (x := 1) (by omega)
      subst c0
      simp (disch := omega) only [f_X13_takeNumber, f_X13_takeNumber_0, f_X13_takeNumber_70, ↓lm_1, ↓lm_2, ↓lm_3, ↓lm_4, ↓lm_5, ↓lm_6, ↓lm_7, ↓lm_8, ↓lm_9, ↓lm_10, ↓lm_11, li_0, li_1, li_2, li_3, li_4, li_5, li_6, li_7, li_8, li_9, li_10, li_11, li_12, li_13, li_14, li_15, li_16, li_17, li_18, li_19, li_20, li_21, li_22, li_23, li_24, li_25, li_26, li_27, li_28, li_29, li_30, li_31, li_32, li_33, li_34, li_35, li_36, li_37, li_38, li_39, li_40, li_41, li_42, li_43, li_44, li_45, li_46, li_47, li_48, li_49, li_50, li_51, li_52, li_53, li_54, li_55, li_56, li_57, li_58, li_59, li_60, li_61, li_62, li_63, li_64, li_65, li_66, li_96, li_97, li_99, li_100, li_122, li_125, li_126, li_140, li_255, li_256, li_999, li_1000, li_1001, li_1002, li_1100, li_1386, li_1452, li_1518, li_9999, li_1000000, mw_g7, mw_g8, mw_A, ↓reduceIte, ↓nm_eq, inb_n, ck_t, nI_clamp, t1, e5, w1, bd_s, f1, fp, Bool.false_eq_true]
  · have f0 : ¬ nI fl = nI 0 := by rw [nI_eq (by omega) (by omega)]; exact c0
    have f1 : ¬ nI fl ≤ nI 0 := nI_ge (by omega) (by omega)
    have q : tD K a fl = false := decide_eq_false (fun q => c0 q.1)
    have ef : flf K a fl 1 = fl := if_neg c0
    rw [q, ef]
    simp only [f_X13_takeNumber, f_X13_takeNumber_0, f_X13_takeNumber_28, f_X13_takeNumber_70, ↓lm_1, ↓lm_2, ↓lm_3, ↓lm_4, ↓lm_5, ↓lm_6, ↓lm_7, ↓lm_8, ↓lm_9, ↓lm_10, ↓lm_11, li_0, li_1, li_2, li_3, li_4, li_5, li_6, li_7, li_8, li_9, li_10, li_11, li_12, li_13, li_14, li_15, li_16, li_17, li_18, li_19, li_20, li_21, li_22, li_23, li_24, li_25, li_26, li_27, li_28, li_29, li_30, li_31, li_32, li_33, li_34, li_35, li_36, li_37, li_38, li_39, li_40, li_41, li_42, li_43, li_44, li_45, li_46, li_47, li_48, li_49, li_50, li_51, li_52, li_53, li_54, li_55, li_56, li_57, li_58, li_59, li_60, li_61, li_62, li_63, li_64, li_65, li_66, li_96, li_97, li_99, li_100, li_122, li_125, li_126, li_140, li_255, li_256, li_999, li_1000, li_1001, li_1002, li_1100, li_1386, li_1452, li_1518, li_9999, li_1000000, mw_g8, f0, f1, c0, ↓reduceIte, Bool.false_eq_true]
end T
