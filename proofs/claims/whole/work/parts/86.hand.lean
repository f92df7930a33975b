/-! ===== what is done by hand: frames of the class's and the model's state, what is noted and kept ===== -/
/-- what was, and q behind it: at most 16 -/
def psP (P : Nat × (Nat → HP)) (q : HP) : Nat × (Nat → HP) := if P.1 < 16 then (P.1 + 1, fun i => if i = P.1 then q else P.2 i) else (16, fun i => if i = 15 then q else P.2 (i + 1))
theorem CL_keep {S S' : ST} {r : Option Nat} {th : Nat} {f d : Int32 → Int32 → Int32 → Int32} (h : CL S r th f d) (k : ∀ b, gC (S b) = 4 → S' b = S b ∨ (gC (S b) = 4 ∧ ∃ P, S' b = sAf (S b) 1 P)) : CL S' r th f d := by
  rcases h with h | ⟨x, op, arg, fr, len, h1, h2, h3, h4⟩
  · exact Or.inl h
  · refine Or.inr ⟨x, op, arg, fr, len, h1, ?_, h3, h4⟩
    rcases k x h2.1 with e | ⟨_, P, e⟩
    · rw [e]; exact h2
    · rw [e]; exact LC_pile h2 P
theorem CG_keep {S S' : ST} {g : Nat} {G : GP} (h : CG S g G) (e : S' g = S g) (k : ∀ b, gC (S b) = 4 → S' b = S b ∨ (gC (S b) = 4 ∧ ∃ P, S' b = sAf (S b) 1 P)) : CG S' g G := by
  obtain ⟨h1, h2, h3, h4, h5, h6, h7, h8⟩ := h
  rw [CG, e]
  exact ⟨h1, h2, h3, h4, h5, h6, CL_keep h7 k, CL_keep h8 k⟩
theorem RC_chg {p t d ln dl f f' : Nat} {S S' : ST} {A : AP} {Q : QL} {P : Nat × (Nat → HP)} {M : Nat × (Nat → QL)} (hP : RP p t d ln dl S) (hK : RK p t ln f S A)
    (h1 : ∀ b, b ≠ p → b ≠ p + 9 → (∀ i, i < 17 → b ≠ p + 83 + 7 * i) → (∀ m, m < 4 → b ≠ p + 202 + 7 * m) → S' b = S b ∨ (gC (S b) = 4 ∧ ∃ P, S' b = sAf (S b) 1 P))
    (h2 : ∀ b, gC (S' b) = gC (S b)) (h3 : ∀ k, gR (S' p) k = gR (S p) k) (h4 : ∀ k, gQ (S' p) k = gQ (S p) k) (h5 : CHL (S' (p + 9)) Q)
    (h6 : gI (S' p) 16 = nI f' ∧ f' < 17 ∧ gI (S' p) 17 = nI P.1 ∧ ∀ i, i < P.1 → CH (S' (p + 83 + 7 * ((f' + i) % 17))) (P.2 i))
    (h7 : gI (S' p) 18 = nI M.1 ∧ ∀ m, m < 4 → bt M.1 m = 1 → CHL (S' (p + 202 + 7 * m)) (M.2 m)) : RC p S' (mkA (aG A) Q P M (aB A) (aL A) (aT A) (aN A)) := by
  obtain ⟨⟨a1, a2, a3, a4, a5, a6, a7, a8⟩, ⟨b1, b2, b3, b4, b5, b6⟩, c, m, ⟨r1, r2, r3, r4⟩, td, ll, g1, g2, g3, g4⟩ := hP
  obtain ⟨K1, K2, K3, K4, K5, K9, K11, K12⟩ := hK
  have at' : ∀ b, b ≠ p → b ≠ p + 9 → (∀ i, i < 17 → b ≠ p + 83 + 7 * i) → (∀ m, m < 4 → b ≠ p + 202 + 7 * m) → gC (S b) ≠ 4 → S' b = S b := by
    intro b x1 x2 x3 x4 x5
    rcases h1 b x1 x2 x3 x4 with e | ⟨c, _⟩
    · exact e
    · exact absurd c x5
  have et : S' t = S t := at' t (by omega) (by omega) (fun i hi => by omega) (fun i hi => by omega) (by rw [b1]; decide)
  have et8 : S' (t + 8) = S (t + 8) := at' (t + 8) (by omega) (by omega) (fun i hi => by omega) (fun i hi => by omega) (by rw [b3]; decide)
  have e1 : S' (p + 1) = S (p + 1) := at' (p + 1) (by omega) (by omega) (fun i hi => by omega) (fun i hi => by omega) (by rw [a2]; decide)
  have e6 : S' (p + 6) = S (p + 6) := at' (p + 6) (by omega) (by omega) (fun i hi => by omega) (fun i hi => by omega) (by rw [g1]; decide)
  have e7 : S' (p + 7) = S (p + 7) := at' (p + 7) (by omega) (by omega) (fun i hi => by omega) (fun i hi => by omega) (by rw [g3]; decide)
  have el : S' ln = S ln := at' ln (by omega) (by omega) (fun i hi => by omega) (fun i hi => by omega) (by rw [b5]; decide)
  have key : ∀ b, gC (S b) = 4 → S' b = S b ∨ (gC (S b) = 4 ∧ ∃ P, S' b = sAf (S b) 1 P) := by
    intro b hb
    refine h1 b ?_ ?_ (fun i hi => ?_) (fun i hi => ?_)
    · rintro rfl; omega
    · rintro rfl; omega
    · rintro rfl; have := (c i hi).1; omega
    · rintro rfl; have := (m i hi).1; omega
  refine ⟨t, d, ln, dl, f', ⟨⟨by rw [h2]; exact a1, by rw [h2]; exact a2, by rw [h2]; exact a3, by rw [h2]; exact a4, by rw [h2]; exact a5, by rw [h2]; exact a6, by rw [h2]; exact a7, by rw [h2]; exact a8⟩, ⟨by rw [h2]; exact b1, by rw [h2]; exact b2, by rw [h2]; exact b3, by rw [h2]; exact b4, by rw [h2]; exact b5, by rw [h2]; exact b6⟩, fun i hi => ⟨by rw [h2]; exact (c i hi).1, by rw [h4]; exact (c i hi).2⟩, fun i hi => ⟨by rw [h2]; exact (m i hi).1, by rw [h4]; exact (m i hi).2⟩, ⟨by rw [h3]; exact r1, by rw [h3]; exact r2, by rw [h3]; exact r3, by rw [h3]; exact r4⟩, td, ll, by rw [e6]; exact g1, by rw [e6]; exact g2, by rw [e7]; exact g3, by rw [e7]; exact g4⟩, h5, CG_keep K2 et key, ?_, ?_, h6, h7, ?_, ?_⟩
  · rw [et]; exact K3
  · rw [et8]; exact K4
  · rw [el]; exact K11
  · rw [e1]; exact K12
/-! a hall takes what another has -/
def tkN (x y : GV) : GV := sI (sI (sI (sI (sAf (sAf (sAf (sAf (sAf (sAf x 0 (va_cpy (gA y 0) (gA x 0) 0 0 8)) 1 (va_cpy (gA y 1) (gA x 1) 0 0 8)) 2 (va_cpy (gA y 2) (gA x 2) 0 0 8)) 3 (va_cpy (gA y 3) (gA x 3) 0 0 8)) 4 (va_cpy (gA y 4) (gA x 4) 0 0 8)) 5 (va_cpy (gA y 5) (gA x 5) 0 0 5)) 6 (gI y 6)) 7 (gI y 7)) 8 (gI y 8)) 9 (gI y 9)
def tkA (x y : GV) : GV := sI (sI (sI (tkN x y) 10 (gI y 10)) 11 (gI y 11)) 12 (gI y 12)
theorem x3_takeNights {fu a g : Nat} {S : ST} (hne : g ≠ a) : f_X3_takeNights fu S a g = some (st S a (tkN (S a) (S g))) := by
  simp (disch := omega) only [f_X3_takeNights, f_X3_takeNights_0, ↓lm_1, ↓lm_2, ↓lm_3, ↓lm_4, ↓lm_5, ↓lm_6, ↓lm_7, ↓lm_8, ↓lm_9, ↓lm_10, ↓lm_11, li_0, li_1, li_2, li_3, li_4, li_5, li_6, li_7, li_8, li_9, li_10, li_11, li_12, li_13, li_14, li_15, li_16, li_17, li_18, li_19, li_20, li_21, li_22, li_23, li_24, li_25, li_26, li_27, li_28, li_29, li_30, li_31, li_32, li_33, li_34, li_35, li_36, li_37, li_38, li_39, li_40, li_41, li_42, li_43, li_44, li_45, li_46, li_47, li_48, li_49, li_50, li_51, li_52, li_53, li_54, li_55, li_56, li_57, li_58, li_59, li_60, li_61, li_62, li_63, li_64, li_65, li_66, li_96, li_97, li_99, li_100, li_122, li_125, li_126, li_140, li_255, li_256, li_999, li_1000, li_1001, li_1002, li_1100, li_1386, li_1452, li_1518, li_9999, li_1000000, nm_eq, st_same, st_ne, st_st, gA_sAfn, nI_clamp, tkN]
theorem gC_tkN (x y : GV) : gC (tkN x y) = gC x := (id rfl)
theorem gI_tkN (x y : GV) {k : Nat} (hk : 10 ≤ k) : gI (tkN x y) k = gI x k := by
  simp only [tkN, gI_sI, gI_sAf]
  rw [if_neg (by omega), if_neg (by omega), if_neg (by omega), if_neg (by omega)]
theorem CH_tkN {x y : GV} {q : HP} (h : CH y q) (hx : gC x = 3) (h8 : qn q ≤ 8) : CH (tkN x y) q := by
  obtain ⟨c, a6, a7, a8, a9, ap, ac⟩ := h
  refine ⟨hx, ?_, ?_, ?_, ?_, fun p hp => ?_, fun t ht => ?_⟩
  · simp (disch := omega) only [tkN, gI_sI, gI_sAf, ↓reduceIte, Nat.reduceEqDiff, Nat.reduceAdd, Nat.reduceSub, Nat.reduceMul, Nat.reduceLT, Nat.reduceLeDiff, reduceCtorEq, Nat.add_zero, Nat.zero_add, ne_eq, not_true_eq_false, not_false_eq_true, Nat.succ_ne_self, Nat.zero_ne_one, Nat.one_ne_zero, decide_true, decide_false, Bool.false_eq_true, and_true, true_and, and_self, and_false, false_and, a6]
  · simp (disch := omega) only [tkN, gI_sI, gI_sAf, ↓reduceIte, Nat.reduceEqDiff, Nat.reduceAdd, Nat.reduceSub, Nat.reduceMul, Nat.reduceLT, Nat.reduceLeDiff, reduceCtorEq, Nat.add_zero, Nat.zero_add, ne_eq, not_true_eq_false, not_false_eq_true, Nat.succ_ne_self, Nat.zero_ne_one, Nat.one_ne_zero, decide_true, decide_false, Bool.false_eq_true, and_true, true_and, and_self, and_false, false_and, a7]
  · simp (disch := omega) only [tkN, gI_sI, gI_sAf, ↓reduceIte, Nat.reduceEqDiff, Nat.reduceAdd, Nat.reduceSub, Nat.reduceMul, Nat.reduceLT, Nat.reduceLeDiff, reduceCtorEq, Nat.add_zero, Nat.zero_add, ne_eq, not_true_eq_false, not_false_eq_true, Nat.succ_ne_self, Nat.zero_ne_one, Nat.one_ne_zero, decide_true, decide_false, Bool.false_eq_true, and_true, true_and, and_self, and_false, false_and, a8]
  · simp (disch := omega) only [tkN, gI_sI, gI_sAf, ↓reduceIte, Nat.reduceEqDiff, Nat.reduceAdd, Nat.reduceSub, Nat.reduceMul, Nat.reduceLT, Nat.reduceLeDiff, reduceCtorEq, Nat.add_zero, Nat.zero_add, ne_eq, not_true_eq_false, not_false_eq_true, Nat.succ_ne_self, Nat.zero_ne_one, Nat.one_ne_zero, decide_true, decide_false, Bool.false_eq_true, and_true, true_and, and_self, and_false, false_and, a9]
  · simp (disch := omega) only [tkN, gA_sI, gA_sAf, gA_sAfn, pk_cpy_in, ↓reduceIte, Nat.reduceEqDiff, Nat.reduceAdd, Nat.reduceSub, Nat.reduceMul, Nat.reduceLT, Nat.reduceLeDiff, reduceCtorEq, Nat.add_zero, Nat.zero_add, ne_eq, not_true_eq_false, not_false_eq_true, Nat.succ_ne_self, Nat.zero_ne_one, Nat.one_ne_zero, decide_true, decide_false, Bool.false_eq_true, and_true, true_and, and_self, and_false, false_and, Nat.sub_zero]
    exact ap p hp
  · simp (disch := omega) only [tkN, gA_sI, gA_sAf, gA_sAfn, pk_cpy_in, ↓reduceIte, Nat.reduceEqDiff, Nat.reduceAdd, Nat.reduceSub, Nat.reduceMul, Nat.reduceLT, Nat.reduceLeDiff, reduceCtorEq, Nat.add_zero, Nat.zero_add, ne_eq, not_true_eq_false, not_false_eq_true, Nat.succ_ne_self, Nat.zero_ne_one, Nat.one_ne_zero, decide_true, decide_false, Bool.false_eq_true, and_true, true_and, and_self, and_false, false_and, Nat.sub_zero]
    exact ac t ht
theorem x3_takeAll {fu a g : Nat} {S : ST} (hne : g ≠ a) : f_X3_takeAll fu S a g = some (st S a (tkA (S a) (S g))) := by
  simp (disch := omega) only [f_X3_takeAll, f_X3_takeAll_0, x3_takeNights hne, bd_s, nm_eq, st_same, st_ne, st_st, tkA]
theorem gC_tkA (x y : GV) : gC (tkA x y) = gC x := (id rfl)
theorem CH_sI {w : GV} {q : HP} (h : CH w q) {k : Nat} (hk : 10 ≤ k) (x : Int32) : CH (sI w k x) q := by
  obtain ⟨c, a6, a7, a8, a9, ap, ac⟩ := h
  refine ⟨c, ?_, ?_, ?_, ?_, ap, ac⟩ <;> rw [gI_sI, if_neg (by omega)] <;> assumption
theorem CHL_tkA {x y : GV} {Q : QL} (h : CHL y Q) (hx : gC x = 3) (h8 : qn Q.1 ≤ 8) : CHL (tkA x y) Q := by
  obtain ⟨c, l1, l2, l3⟩ := h
  refine ⟨CH_sI (CH_sI (CH_sI (CH_tkN c hx h8) (by omega) _) (by omega) _) (by omega) _, ?_, ?_, ?_⟩
  · simp only [tkA, gI_sI, ↓reduceIte, Nat.reduceEqDiff, Nat.reduceAdd, Nat.reduceSub, Nat.reduceMul, Nat.reduceLT, Nat.reduceLeDiff, reduceCtorEq, Nat.add_zero, Nat.zero_add, ne_eq, not_true_eq_false, not_false_eq_true, Nat.succ_ne_self, Nat.zero_ne_one, Nat.one_ne_zero, decide_true, decide_false, Bool.false_eq_true, and_true, true_and, and_self, and_false, false_and, l1]
  · simp only [tkA, gI_sI, ↓reduceIte, Nat.reduceEqDiff, Nat.reduceAdd, Nat.reduceSub, Nat.reduceMul, Nat.reduceLT, Nat.reduceLeDiff, reduceCtorEq, Nat.add_zero, Nat.zero_add, ne_eq, not_true_eq_false, not_false_eq_true, Nat.succ_ne_self, Nat.zero_ne_one, Nat.one_ne_zero, decide_true, decide_false, Bool.false_eq_true, and_true, true_and, and_self, and_false, false_and, l2]
  · simp only [tkA, gI_sI, ↓reduceIte, Nat.reduceEqDiff, Nat.reduceAdd, Nat.reduceSub, Nat.reduceMul, Nat.reduceLT, Nat.reduceLeDiff, reduceCtorEq, Nat.add_zero, Nat.zero_add, ne_eq, not_true_eq_false, not_false_eq_true, Nat.succ_ne_self, Nat.zero_ne_one, Nat.one_ne_zero, decide_true, decide_false, Bool.false_eq_true, and_true, true_and, and_self, and_false, false_and, l3]
theorem x12_pastRow {fu f k : Nat} {w : GV} (h : gI w 16 = nI f) (hf : f < 17) (hk : k ≤ 17) : f_X12_pastRow fu w (nI k) = some (nI ((f + k) % 17)) := by
  simp (disch := omega) only [f_X12_pastRow, f_X12_pastRow_0, ↓lm_1, ↓lm_2, ↓lm_3, ↓lm_4, ↓lm_5, ↓lm_6, ↓lm_7, ↓lm_8, ↓lm_9, ↓lm_10, ↓lm_11, li_0, li_1, li_2, li_3, li_4, li_5, li_6, li_7, li_8, li_9, li_10, li_11, li_12, li_13, li_14, li_15, li_16, li_17, li_18, li_19, li_20, li_21, li_22, li_23, li_24, li_25, li_26, li_27, li_28, li_29, li_30, li_31, li_32, li_33, li_34, li_35, li_36, li_37, li_38, li_39, li_40, li_41, li_42, li_43, li_44, li_45, li_46, li_47, li_48, li_49, li_50, li_51, li_52, li_53, li_54, li_55, li_56, li_57, li_58, li_59, li_60, li_61, li_62, li_63, li_64, li_65, li_66, li_96, li_97, li_99, li_100, li_122, li_125, li_126, li_140, li_255, li_256, li_999, li_1000, li_1001, li_1002, li_1100, li_1386, li_1452, li_1518, li_9999, li_1000000, h, nI_add, pk_rem]
theorem x12_keepNoted {fu f n : Nat} {w : GV} (h : gI w 16 = nI f) (hf : f < 17) (h2 : gI w 17 = nI n) (hn : n ≤ 16) : f_X12_keepNoted fu w = some (if n < 16 then sI w 17 (nI (n + 1)) else sI w 16 (nI ((f + 1) % 17))) := by
  simp (disch := omega) only [f_X12_keepNoted, f_X12_keepNoted_0, ↓lm_1, ↓lm_2, ↓lm_3, ↓lm_4, ↓lm_5, ↓lm_6, ↓lm_7, ↓lm_8, ↓lm_9, ↓lm_10, ↓lm_11, li_0, li_1, li_2, li_3, li_4, li_5, li_6, li_7, li_8, li_9, li_10, li_11, li_12, li_13, li_14, li_15, li_16, li_17, li_18, li_19, li_20, li_21, li_22, li_23, li_24, li_25, li_26, li_27, li_28, li_29, li_30, li_31, li_32, li_33, li_34, li_35, li_36, li_37, li_38, li_39, li_40, li_41, li_42, li_43, li_44, li_45, li_46, li_47, li_48, li_49, li_50, li_51, li_52, li_53, li_54, li_55, li_56, li_57, li_58, li_59, li_60, li_61, li_62, li_63, li_64, li_65, li_66, li_96, li_97, li_99, li_100, li_122, li_125, li_126, li_140, li_255, li_256, li_999, li_1000, li_1001, li_1002, li_1100, li_1386, li_1452, li_1518, li_9999, li_1000000, h2, nI_leI, x12_pastRow h hf, bd_s, nm_eq, nI_add]
  by_cases c : n < 16
  · rw [if_neg (by omega), if_pos c]
  · rw [if_pos (by omega), if_neg c]
section H
variable {fu p t d ln dl f : Nat} {S : ST} {A : AP}
theorem x12_note (hP : RP p t d ln dl S) (hK : RK p t ln f S A) (hA : okA A) : f_X12_noteNow fu S p = some (st S (p + 83 + 7 * ((f + (aP A).1) % 17)) (tkN (S (p + 83 + 7 * ((f + (aP A).1) % 17))) (S (p + 9)))) := by
  obtain ⟨k16, kf, k17, kp⟩ := hK.2.2.2.2.1
  have h16 := hA.2.2.1.1
  have hr : (f + (aP A).1) % 17 < 17 := Nat.mod_lt _ (by decide)
  have c1 := (hP.2.2.1 _ hr)
  have c9 := hP.1.2.2.1
  have hne : p + 9 ≠ p + 83 + 7 * ((f + (aP A).1) % 17) := by omega
  simp (disch := omega) only [f_X12_noteNow, f_X12_noteNow_0, ↓lm_1, ↓lm_2, ↓lm_3, ↓lm_4, ↓lm_5, ↓lm_6, ↓lm_7, ↓lm_8, ↓lm_9, ↓lm_10, ↓lm_11, li_0, li_1, li_2, li_3, li_4, li_5, li_6, li_7, li_8, li_9, li_10, li_11, li_12, li_13, li_14, li_15, li_16, li_17, li_18, li_19, li_20, li_21, li_22, li_23, li_24, li_25, li_26, li_27, li_28, li_29, li_30, li_31, li_32, li_33, li_34, li_35, li_36, li_37, li_38, li_39, li_40, li_41, li_42, li_43, li_44, li_45, li_46, li_47, li_48, li_49, li_50, li_51, li_52, li_53, li_54, li_55, li_56, li_57, li_58, li_59, li_60, li_61, li_62, li_63, li_64, li_65, li_66, li_96, li_97, li_99, li_100, li_122, li_125, li_126, li_140, li_255, li_256, li_999, li_1000, li_1001, li_1002, li_1100, li_1386, li_1452, li_1518, li_9999, li_1000000, k17, x12_pastRow k16 kf (show (aP A).1 ≤ 17 by omega), bd_s, inb_n, ck_t, nI_clamp, c1.2, c1.1, c9, decide_true, x3_takeNights hne]
/-- behind what was noted the hall has changed: kept -/
theorem RC_keep (hP : RP p t d ln dl S) (hK : RK p t ln f S A) (hA : okA A) {S7 : ST} {q' : HP} {w9 : GV} (hf : fra (p + 9) (st S (p + 83 + 7 * ((f + (aP A).1) % 17)) (tkN (S (p + 83 + 7 * ((f + (aP A).1) % 17))) (S (p + 9)))) S7) (hq : CH (S7 (p + 9)) q') (hk : f_X12_keepNoted fu (S7 p) = some w9) : RC p (st S7 p w9) (mkA (aG A) (q', (aQ A).2) (psP (aP A) (aQ A).1) (aM A) (aB A) (aL A) (aT A) (aN A)) := by
  obtain ⟨k16, kf, k17, kp⟩ := id hK.2.2.2.2.1
  have h16 := hA.2.2.1.1
  have hr : (f + (aP A).1) % 17 < 17 := Nat.mod_lt _ (by decide)
  have c1 := (hP.2.2.1 _ hr)
  have c9 := hP.1.2.2.1
  have cp := hP.1.1
  have h8 := hA.2.1.1.1.2.1
  generalize hrr : (f + (aP A).1) % 17 = r at *
  have ep : S7 p = S p := by
    rw [fra_at hf (by omega) (by rw [st_ne _ _ (by omega), cp]; decide), st_ne _ _ (by omega)]
  have hS : ∀ b, b ≠ p + 9 → b ≠ p + 83 + 7 * r → S7 b = S b ∨ (gC (S b) = 4 ∧ ∃ P, S7 b = sAf (S b) 1 P) := by
    intro b h1 h2
    have := hf.1 b h1
    rwa [st_ne _ _ h2] at this
  have hC : ∀ b, gC (S7 b) = gC (S b) := by
    intro b
    rw [fra_gC hf b]
    by_cases e : b = p + 83 + 7 * r
    · subst e; rw [st_same, gC_tkN]
    · rw [st_ne _ _ e]
  have hat : ∀ b, b ≠ p + 9 → b ≠ p + 83 + 7 * r → gC (S b) ≠ 4 → S7 b = S b := by
    intro b h1 h2 h3
    rcases hS b h1 h2 with e | ⟨c, _⟩
    · exact e
    · exact absurd c h3
  have hrow : CH (S7 (p + 83 + 7 * r)) (aQ A).1 := by
    rw [fra_at hf (by omega) (by rw [st_same, gC_tkN, c1.1]; decide), st_same]
    exact CH_tkN hK.1.1 c1.1 h8
  have hpast : ∀ i, i < (aP A).1 → CH (S7 (p + 83 + 7 * ((f + i) % 17))) ((aP A).2 i) := by
    intro i hi
    have hi17 : (f + i) % 17 < 17 := Nat.mod_lt _ (by decide)
    rw [hat _ (by omega) (by omega) (by rw [(hP.2.2.1 _ hi17).1]; decide)]
    exact kp i hi
  rw [ep, x12_keepNoted k16 kf k17 h16] at hk
  have hk := (Option.some.inj hk).symm
  have hw9 : gC w9 = gC (S p) ∧ (∀ k, gR w9 k = gR (S p) k) ∧ (∀ k, gQ w9 k = gQ (S p) k) ∧ gI w9 18 = gI (S p) 18 := by
    rw [hk]; split
    · exact ⟨rfl, fun _ => rfl, fun _ => rfl, by rw [gI_sI, if_neg (by decide)]⟩
    · exact ⟨rfl, fun _ => rfl, fun _ => rfl, by rw [gI_sI, if_neg (by decide)]⟩
  refine RC_chg (f' := if (aP A).1 < 16 then f else (f + 1) % 17) hP hK ?_ ?_ ?_ ?_ ?_ ?_ ?_
  · intro b h1 h2 h3 _
    rw [st_ne _ _ h1]
    exact hS b h2 (h3 r hr)
  · intro b
    by_cases e : b = p
    · subst e; rw [st_same]; exact hw9.1
    · rw [st_ne _ _ e]; exact hC b
  · intro k; rw [st_same]; exact hw9.2.1 k
  · intro k; rw [st_same]; exact hw9.2.2.1 k
  · rw [st_ne _ _ (by omega)]
    have hl : ∀ k, 10 ≤ k → gI (S7 (p + 9)) k = gI (S (p + 9)) k := by
      intro k hk
      rw [hf.2.2 k hk, st_ne _ _ (by omega)]
    obtain ⟨_, l1, l2, l3⟩ := hK.1
    exact ⟨hq, by rw [hl _ (by omega)]; exact l1, by rw [hl _ (by omega)]; exact l2, by rw [hl _ (by omega)]; exact l3⟩
  · rw [st_same, hk]
    by_cases c : (aP A).1 < 16
    · simp only [if_pos c, psP]
      refine ⟨by rw [gI_sI, if_neg (by decide)]; exact k16, kf, by rw [gI_sI, if_pos rfl], fun i hi => ?_⟩
      have hi17 : (f + i) % 17 < 17 := Nat.mod_lt _ (by decide)
      rw [st_ne _ _ (by omega)]
      by_cases e : i = (aP A).1
      · subst e; rw [if_pos rfl, hrr]; exact hrow
      · rw [if_neg e]; exact hpast i (by omega)
    · simp only [if_neg c, psP]
      have h16' : (aP A).1 = 16 := by omega
      refine ⟨by rw [gI_sI, if_pos rfl], Nat.mod_lt _ (by decide), by rw [gI_sI, if_neg (by decide), k17, h16'], fun i hi => ?_⟩
      have hi17 : ((f + 1) % 17 + i) % 17 < 17 := Nat.mod_lt _ (by decide)
      rw [st_ne _ _ (by omega)]
      by_cases e : i = 15
      · rw [if_pos e, show ((f + 1) % 17 + i) % 17 = r by omega]; exact hrow
      · rw [if_neg e, show ((f + 1) % 17 + i) % 17 = (f + (i + 1)) % 17 by omega]; exact hpast (i + 1) (by omega)
  · rw [st_same, hw9.2.2.2]
    refine ⟨hK.2.2.2.2.2.1.1, fun m hm hb => ?_⟩
    rw [st_ne _ _ (by omega), hat _ (by omega) (by omega) (by rw [(hP.2.2.2.1 m hm).1]; decide)]
    exact hK.2.2.2.2.2.1.2 m hm hb
/-- behind what was noted nothing has changed: not kept -/
theorem RC_note (hP : RP p t d ln dl S) (hK : RK p t ln f S A) (hA : okA A) {S7 : ST} (hf : fra (p + 9) (st S (p + 83 + 7 * ((f + (aP A).1) % 17)) (tkN (S (p + 83 + 7 * ((f + (aP A).1) % 17))) (S (p + 9)))) S7) (hq : CH (S7 (p + 9)) (aQ A).1) : RC p S7 A := by
  obtain ⟨k16, kf, k17, kp⟩ := id hK.2.2.2.2.1
  have h16 := hA.2.2.1.1
  have hr : (f + (aP A).1) % 17 < 17 := Nat.mod_lt _ (by decide)
  have c1 := (hP.2.2.1 _ hr)
  have c9 := hP.1.2.2.1
  have cp := hP.1.1
  generalize hrr : (f + (aP A).1) % 17 = r at *
  have ep : S7 p = S p := by
    rw [fra_at hf (by omega) (by rw [st_ne _ _ (by omega), cp]; decide), st_ne _ _ (by omega)]
  have hS : ∀ b, b ≠ p + 9 → b ≠ p + 83 + 7 * r → S7 b = S b ∨ (gC (S b) = 4 ∧ ∃ P, S7 b = sAf (S b) 1 P) := by
    intro b h1 h2
    have := hf.1 b h1
    rwa [st_ne _ _ h2] at this
  have hC : ∀ b, gC (S7 b) = gC (S b) := by
    intro b
    rw [fra_gC hf b]
    by_cases e : b = p + 83 + 7 * r
    · subst e; rw [st_same, gC_tkN]
    · rw [st_ne _ _ e]
  have hat : ∀ b, b ≠ p + 9 → b ≠ p + 83 + 7 * r → gC (S b) ≠ 4 → S7 b = S b := by
    intro b h1 h2 h3
    rcases hS b h1 h2 with e | ⟨c, _⟩
    · exact e
    · exact absurd c h3
  refine RC_chg (Q := aQ A) (P := aP A) (M := aM A) (f' := f) hP hK ?_ hC (fun k => by rw [ep]) (fun k => by rw [ep]) ?_ ?_ ?_
  · intro b h1 h2 h3 _
    exact hS b h2 (h3 r hr)
  · have hl : ∀ k, 10 ≤ k → gI (S7 (p + 9)) k = gI (S (p + 9)) k := by
      intro k hk
      rw [hf.2.2 k hk, st_ne _ _ (by omega)]
    obtain ⟨_, l1, l2, l3⟩ := hK.1
    exact ⟨hq, by rw [hl _ (by omega)]; exact l1, by rw [hl _ (by omega)]; exact l2, by rw [hl _ (by omega)]; exact l3⟩
  · rw [ep]
    refine ⟨k16, kf, k17, fun i hi => ?_⟩
    have hi17 : (f + i) % 17 < 17 := Nat.mod_lt _ (by decide)
    rw [hat _ (by omega) (by omega) (by rw [(hP.2.2.1 _ hi17).1]; decide)]
    exact kp i hi
  · rw [ep]
    refine ⟨hK.2.2.2.2.2.1.1, fun m hm hb => ?_⟩
    rw [hat _ (by omega) (by omega) (by rw [(hP.2.2.2.1 m hm).1]; decide)]
    exact hK.2.2.2.2.2.1.2 m hm hb
end H
theorem okA_op {A : AP} {q' : HP} (hA : okA A) (hq : okq (aG A) q') : okA (mkA (aG A) (q', (aQ A).2) (psP (aP A) (aQ A).1) (aM A) (aB A) (aL A) (aT A) (aN A)) := by
  obtain ⟨o1, o2, ⟨o3, o4⟩, o5, o7, o8, o9⟩ := hA
  refine ⟨o1, ⟨hq, o2.2⟩, ?_, o5, o7, o8, o9⟩
  simp only [aG_mk, aQ_mk, aP_mk, aM_mk, aB_mk, aL_mk, aT_mk, aN_mk, psP]
  by_cases c : (aP A).1 < 16
  · rw [if_pos c]
    refine ⟨by simp only; omega, fun i hi => ?_⟩
    simp only at hi ⊢
    by_cases e : i = (aP A).1
    · rw [if_pos e]; exact o2.1
    · rw [if_neg e]; exact o4 i (by omega)
  · rw [if_neg c]
    refine ⟨by simp only; omega, fun i hi => ?_⟩
    simp only at hi ⊢
    by_cases e : i = 15
    · rw [if_pos e]; exact o2.1
    · rw [if_neg e]; exact o4 (i + 1) (by omega)
/-! the model -/
def mop (v v' : GV) : Prop := (∀ k, k = 1 ∨ k = 10 ∨ k = 11 ∨ k = 12 ∨ k = 16 ∨ k = 21 ∨ k = 26 ∨ k = 32 → gA v' k = gA v k) ∧ gI v' 2 = gI v 2 ∧ gI v' 18 = gI v 18 ∧ gL v' 9 = gL v 9 ∧ gL v' 14 = gL v 14 ∧ gC v' = gC v
theorem mop_refl (v : GV) : mop v v := ⟨fun _ _ => rfl, rfl, rfl, rfl, rfl, rfl⟩
theorem mop_trans {v v' w : GV} (h : mop v v') (k : mop v' w) : mop v w := by
  obtain ⟨h1, h3, h4, h6, h7, h8⟩ := h
  obtain ⟨k1, k3, k4, k6, k7, k8⟩ := k
  exact ⟨fun j hj => (k1 j hj).trans (h1 j hj), k3.trans h3, k4.trans h4, k6.trans h6, k7.trans h7, k8.trans h8⟩
theorem mop_sI {v v' : GV} (h : mop v v') {k : Nat} {x : Int32} (h1 : k ≠ 2) (h2 : k ≠ 18) : mop v (sI v' k x) := by
  obtain ⟨k1, k3, k4, k6, k7, k8⟩ := h
  exact ⟨k1, by rw [gI_sI, if_neg (by omega)]; exact k3, by rw [gI_sI, if_neg (by omega)]; exact k4, k6, k7, k8⟩
theorem mop_sAf {v v' : GV} (h : mop v v') {k : Nat} {f : Nat → Int32} (h1 : k ≠ 1 ∧ k ≠ 10 ∧ k ≠ 11 ∧ k ≠ 12 ∧ k ≠ 16 ∧ k ≠ 21 ∧ k ≠ 26 ∧ k ≠ 32) : mop v (sAf v' k f) := by
  obtain ⟨k1, k3, k4, k6, k7, k8⟩ := h
  exact ⟨fun j hj => by rw [gA_sAfn _ _ (by omega)]; exact k1 j hj, k3, k4, k6, k7, k8⟩
theorem mop_sA {v v' : GV} (h : mop v v') {k i : Nat} {x : Int32} (h1 : k ≠ 1 ∧ k ≠ 10 ∧ k ≠ 11 ∧ k ≠ 12 ∧ k ≠ 16 ∧ k ≠ 21 ∧ k ≠ 26 ∧ k ≠ 32) : mop v (sA v' k i x) := mop_sAf h h1
theorem mop_mb {v v' : GV} (h : mop v v') {b : Nat} {f : Nat → Int32} : mop v (mb v' b f) := mop_sAf h (by omega)
theorem mop_mv {v v' : GV} (h : mop v v') {b : Nat} {F P f : Nat → Int32} : mop v (mv v' b F P f) := mop_mb (mop_sAf (mop_sAf h (by omega)) (by omega))
theorem MG_mop {v v' : GV} {G : GP} (h : MG v G) (k : mop v v') : MG v' G := MG_of h (k.1 10 (by omega)) (k.1 11 (by omega)) (k.1 12 (by omega))
theorem RM_chg {v v' : GV} {A : AP} {Q : QL} {P : Nat × (Nat → HP)} {M : Nat × (Nat → QL)} (h : RM v A) (k : mop v (sAf v' 26 (gA v 26))) (hQ : MHL (gA v' 24) Q) (hU : gI v' 25 = nI P.1 ∧ ∀ i, i < P.1 → MH (fun k => gA v' 24 (66 * (5 + i) + k)) (P.2 i)) (hm : ∀ m, m < 4 → gA v' 26 m = nI (bt M.1 m) ∧ (bt M.1 m = 1 → MHL (fun k => gA v' 24 (66 * (1 + m) + k)) (M.2 m))) : RM v' (mkA (aG A) Q P M (aB A) (aL A) (aT A) (aN A)) := by
  obtain ⟨h0, h1, h2, h3, h5, h6, h7, h8, ⟨n, cd, ty, n1, n2, n3⟩, h10, h11⟩ := h
  obtain ⟨k1, k3, k4, k6, k7, k8⟩ := k
  have ke : ∀ j, j = 1 ∨ j = 10 ∨ j = 11 ∨ j = 12 ∨ j = 16 ∨ j = 21 ∨ j = 32 → gA v' j = gA v j := by
    intro j hj
    have := k1 j (by omega)
    rwa [gA_sAfn _ _ (by omega)] at this
  have e1 := ke 1 (by omega)
  have e10 := ke 10 (by omega)
  have e16 := ke 16 (by omega)
  have e21 := ke 21 (by omega)
  refine ⟨k8.trans h0, MG_of h1 e10 (ke 11 (by omega)) (ke 12 (by omega)), hQ, hU, hm, ?_, ?_, ?_, ⟨n, cd, ty, n1, k4.trans n2, fun j hj => ?_⟩, fun i hi => ?_, fun i hi => by rw [ke 32 (by omega)]; exact h11 i hi⟩
  · rw [MBg, e10]; exact h6
  · rw [MLn, e21]; exact h7
  · rw [MT, e1, show gI v' 2 = gI v 2 from k3]; exact h8
  · rw [show gL v' 14 = gL v 14 from k7, e16]; exact n3 j hj
  · rw [show gL v' 9 = gL v 9 from k6]; exact h10 i hi
theorem mop_26 {v v' : GV} (k : mop v v') : mop v (sAf v' 26 (gA v 26)) := by
  have e := k.1 26 (by omega)
  rw [← e, sAf_self]; exact k
/-- an op of the model: the first block's hall has changed, what was has -/
theorem RM_op {v v' : GV} {A : AP} {q' : HP} {P : Nat × (Nat → HP)} (hA : okA A) (h : RM v A) (k : mop v v') (hq : MH (gA v' 24) q') (hx : ∀ x, 48 ≤ x → x < 330 → gA v' 24 x = gA v 24 x) (hU : gI v' 25 = nI P.1 ∧ ∀ i, i < P.1 → MH (fun k => gA v' 24 (66 * (5 + i) + k)) (P.2 i)) : RM v' (mkA (aG A) (q', (aQ A).2) P (aM A) (aB A) (aL A) (aT A) (aN A)) := by
  have hl8 := hA.2.1.2.1
  refine RM_chg h (mop_26 k) ⟨hq, ?_, fun i hi => ?_⟩ hU (fun m hm => ⟨?_, fun hb => ?_⟩)
  · rw [hx _ (by omega) (by omega)]; exact h.2.2.1.2.1
  · have hi : i < (aQ A).2.1 := hi
    rw [hx _ (by omega) (by omega), hx _ (by omega) (by omega)]; exact h.2.2.1.2.2 i hi
  · rw [k.1 26 (by omega)]; exact (h.2.2.2.2.1 m hm).1
  · exact MHL_ext (fun j hj => hx _ (by omega) (by omega)) (hA.2.2.2.1.2 m hm hb) ((h.2.2.2.2.1 m hm).2 hb)
section M
variable {fu : Nat} {v : GV}
theorem cpy_0 {f : Nat → Int32} {a b : Nat} : va_cpy f f a b 0 = f := by
  funext x; exact pk_cpy_out (by omega)
theorem cpy_s {f : Nat → Int32} {a b k : Nat} : upd (va_cpy f f a b k) (b + k) (f (a + k)) = va_cpy f f a b (k + 1) := by
  funext x
  by_cases e : x = b + k
  · subst e; rw [pk_us, pk_cpy_in (by omega) (by omega)]; congr 1; omega
  · rw [pk_un e]
    by_cases c : b ≤ x ∧ x < b + k
    · rw [pk_cpy_in c.1 c.2, pk_cpy_in c.1 (by omega)]
    · rw [pk_cpy_out (by omega), pk_cpy_out (by omega)]
theorem m_copies (hf : 1101 ≤ fu) {a b n : Nat} (hn : n ≤ 66) (h1 : a + n ≤ 1518) (h2 : b + n ≤ 1518) (hd : a + n ≤ b ∨ b + n ≤ a) : f_X13_copies fu v (nI a) (nI b) (nI n) = some (sAf v 24 (va_cpy (gA v 24) (gA v 24) a b n)) := by
  have e0 : f_X13_copies fu v (nI a) (nI b) (nI n) = f_X13_copies_3 fu fu (nI a) (nI b) (nI n) (nI 0) (sAf v 24 (va_cpy (gA v 24) (gA v 24) a b 0)) := by
    simp only [f_X13_copies, f_X13_copies_0, cpy_0, sAf_self, li_0]
  rw [e0, f_X13_copies_3]
  refine for2 _ (fun k => nI k) (fun k => sAf v 24 (va_cpy (gA v 24) (gA v 24) a b k)) 0 n _ ?_ ?_ fu (by omega) (by omega)
  · intro rec
    simp (disch := omega) only [f_X13_copies_3s, nI_leI, Nat.le_refl, ↓reduceIte]
  · intro k rec _ hk
    have e1 : va_cpy (gA v 24) (gA v 24) a b k (a + k) = gA v 24 (a + k) := pk_cpy_out (by omega)
    simp (disch := omega) only [f_X13_copies_3s, ↓lm_1, ↓lm_2, ↓lm_3, ↓lm_4, ↓lm_5, ↓lm_6, ↓lm_7, ↓lm_8, ↓lm_9, ↓lm_10, ↓lm_11, li_0, li_1, li_2, li_3, li_4, li_5, li_6, li_7, li_8, li_9, li_10, li_11, li_12, li_13, li_14, li_15, li_16, li_17, li_18, li_19, li_20, li_21, li_22, li_23, li_24, li_25, li_26, li_27, li_28, li_29, li_30, li_31, li_32, li_33, li_34, li_35, li_36, li_37, li_38, li_39, li_40, li_41, li_42, li_43, li_44, li_45, li_46, li_47, li_48, li_49, li_50, li_51, li_52, li_53, li_54, li_55, li_56, li_57, li_58, li_59, li_60, li_61, li_62, li_63, li_64, li_65, li_66, li_96, li_97, li_99, li_100, li_122, li_125, li_126, li_140, li_255, li_256, li_999, li_1000, li_1001, li_1002, li_1100, li_1386, li_1452, li_1518, li_9999, li_1000000, nI_leI, nI_add, nm_eq, inb_n, ck_t, nI_clamp, gA_sAf, e1, sA, sAf_sAf, cpy_s]
    rw [if_neg (by omega)]
theorem MH_cpy {f : Nat → Int32} {a b n : Nat} {q : HP} (h8 : qn q ≤ 8) (hn : 48 ≤ n) (h : MH (fun k => f (a + k)) q) : MH (fun k => va_cpy f f a b n (b + k)) q := by
  refine MH_ext (fun k hk => ?_) h8 h
  show va_cpy f f a b n (b + k) = f (a + k)
  rw [pk_cpy_in (by omega) (by omega)]; congr 1; omega
theorem MH_cpo {f : Nat → Int32} {a b n c : Nat} {q : HP} (h8 : qn q ≤ 8) (hn : c + 48 ≤ b ∨ b + n ≤ c) (h : MH (fun k => f (c + k)) q) : MH (fun k => va_cpy f f a b n (c + k)) q := by
  refine MH_ext (fun k hk => ?_) h8 h
  show va_cpy f f a b n (c + k) = f (c + k)
  rw [pk_cpy_out (by omega)]
theorem m_keeps (hf : 1101 ≤ fu) {P : Nat × (Nat → HP)} {q : HP} (h16 : P.1 ≤ 16) (h8 : qn q ≤ 8) (hP8 : ∀ i, i < P.1 → qn (P.2 i) ≤ 8) (hq : MH (gA v 24) q) (hU : gI v 25 = nI P.1) (hP : ∀ i, i < P.1 → MH (fun k => gA v 24 (66 * (5 + i) + k)) (P.2 i)) : ∃ v', f_X13_keeps fu v = some v' ∧ mop v v' ∧ (∀ x, x < 330 → gA v' 24 x = gA v 24 x) ∧ gI v' 25 = nI (psP P q).1 ∧ ∀ i, i < (psP P q).1 → MH (fun k => gA v' 24 (66 * (5 + i) + k)) ((psP P q).2 i) := by
  have last : ∀ w : GV, ∀ n, n < 16 → gI w 25 = nI n → f_X13_keeps_53 fu w = some (sI (sAf w 24 (va_cpy (gA w 24) (gA w 24) 0 (66 * (5 + n)) 48)) 25 (nI (n + 1))) := by
    intro w n hn hw
    simp (disch := omega) only [f_X13_keeps_53, ↓lm_1, ↓lm_2, ↓lm_3, ↓lm_4, ↓lm_5, ↓lm_6, ↓lm_7, ↓lm_8, ↓lm_9, ↓lm_10, ↓lm_11, li_0, li_1, li_2, li_3, li_4, li_5, li_6, li_7, li_8, li_9, li_10, li_11, li_12, li_13, li_14, li_15, li_16, li_17, li_18, li_19, li_20, li_21, li_22, li_23, li_24, li_25, li_26, li_27, li_28, li_29, li_30, li_31, li_32, li_33, li_34, li_35, li_36, li_37, li_38, li_39, li_40, li_41, li_42, li_43, li_44, li_45, li_46, li_47, li_48, li_49, li_50, li_51, li_52, li_53, li_54, li_55, li_56, li_57, li_58, li_59, li_60, li_61, li_62, li_63, li_64, li_65, li_66, li_96, li_97, li_99, li_100, li_122, li_125, li_126, li_140, li_255, li_256, li_999, li_1000, li_1001, li_1002, li_1100, li_1386, li_1452, li_1518, li_9999, li_1000000, hw, nI_add, nI_mulN, m_copies hf (v := w) (a := 0) (b := 66 * (5 + n)) (n := 48) (by omega) (by omega) (by omega) (by omega), bd_s, nm_eq, gI_sAf]
  by_cases c : P.1 < 16
  · refine ⟨sI (sAf v 24 (va_cpy (gA v 24) (gA v 24) 0 (66 * (5 + P.1)) 48)) 25 (nI (P.1 + 1)), ?_, ?_, ?_, ?_, ?_⟩
    · simp (disch := omega) only [f_X13_keeps, f_X13_keeps_0, ↓lm_1, ↓lm_2, ↓lm_3, ↓lm_4, ↓lm_5, ↓lm_6, ↓lm_7, ↓lm_8, ↓lm_9, ↓lm_10, ↓lm_11, li_0, li_1, li_2, li_3, li_4, li_5, li_6, li_7, li_8, li_9, li_10, li_11, li_12, li_13, li_14, li_15, li_16, li_17, li_18, li_19, li_20, li_21, li_22, li_23, li_24, li_25, li_26, li_27, li_28, li_29, li_30, li_31, li_32, li_33, li_34, li_35, li_36, li_37, li_38, li_39, li_40, li_41, li_42, li_43, li_44, li_45, li_46, li_47, li_48, li_49, li_50, li_51, li_52, li_53, li_54, li_55, li_56, li_57, li_58, li_59, li_60, li_61, li_62, li_63, li_64, li_65, li_66, li_96, li_97, li_99, li_100, li_122, li_125, li_126, li_140, li_255, li_256, li_999, li_1000, li_1001, li_1002, li_1100, li_1386, li_1452, li_1518, li_9999, li_1000000, hU, nI_eq]
      rw [if_neg (by omega), last v P.1 c hU]
    · exact mop_sI (mop_sAf (mop_refl v) (by omega)) (by omega) (by omega)
    · intro x hx
      rw [gA_sI, gA_sAf, pk_cpy_out (by omega)]
    · simp only [psP, if_pos c, gI_sI, ↓reduceIte]
    · intro i hi
      simp only [psP, if_pos c] at hi ⊢
      simp only [gA_sI, gA_sAf]
      by_cases e : i = P.1
      · subst e; rw [if_pos rfl]
        refine MH_cpy (b := 66 * (5 + P.1)) h8 (by omega) ?_
        simp only [Nat.zero_add]; exact hq
      · rw [if_neg e]
        exact MH_cpo (c := 66 * (5 + i)) (hP8 i (by omega)) (by omega) (hP i (by omega))
  · have c16 : P.1 = 16 := by omega
    rw [c16] at hU hP hP8
    have e0 : f_X13_keeps fu v = f_X13_keeps_11 fu fu (nI 1) v := by
      simp (disch := omega) only [f_X13_keeps, f_X13_keeps_0, ↓lm_1, ↓lm_2, ↓lm_3, ↓lm_4, ↓lm_5, ↓lm_6, ↓lm_7, ↓lm_8, ↓lm_9, ↓lm_10, ↓lm_11, li_0, li_1, li_2, li_3, li_4, li_5, li_6, li_7, li_8, li_9, li_10, li_11, li_12, li_13, li_14, li_15, li_16, li_17, li_18, li_19, li_20, li_21, li_22, li_23, li_24, li_25, li_26, li_27, li_28, li_29, li_30, li_31, li_32, li_33, li_34, li_35, li_36, li_37, li_38, li_39, li_40, li_41, li_42, li_43, li_44, li_45, li_46, li_47, li_48, li_49, li_50, li_51, li_52, li_53, li_54, li_55, li_56, li_57, li_58, li_59, li_60, li_61, li_62, li_63, li_64, li_65, li_66, li_96, li_97, li_99, li_100, li_122, li_125, li_126, li_140, li_255, li_256, li_999, li_1000, li_1001, li_1002, li_1100, li_1386, li_1452, li_1518, li_9999, li_1000000, hU, ↓reduceIte]
    rw [e0, f_X13_keeps_11]
    have key := lpI2 (fun k11 => f_X13_keeps_11s fu k11) (fun k x w => x = nI (1 + k) ∧ mop v w ∧ (∀ y, y < 330 → gA w 24 y = gA v 24 y) ∧ gI w 25 = nI 16 ∧ (∀ i, i < k → MH (fun j => gA w 24 (66 * (5 + i) + j)) (P.2 (i + 1))) ∧ ∀ i, k ≤ i → i < 16 → MH (fun j => gA w 24 (66 * (5 + i) + j)) (P.2 i)) (fun r => ∃ v', r = some v' ∧ mop v v' ∧ (∀ x, x < 330 → gA v' 24 x = gA v 24 x) ∧ gI v' 25 = nI (psP P q).1 ∧ ∀ i, i < (psP P q).1 → MH (fun k => gA v' 24 (66 * (5 + i) + k)) ((psP P q).2 i)) 15 ?_ ?_ fu 0 (nI 1) v ⟨rfl, mop_refl v, fun _ _ => rfl, hU, fun i hi => by omega, fun i _ hi => hP i hi⟩ (by omega) (by omega)
    · obtain ⟨r, ⟨v', e, h⟩, e2⟩ := key
      exact ⟨v', by rw [e2, e], h⟩
    · rintro x w ⟨rfl, w1, w2, w3, w4, w5⟩
      refine ⟨_, ⟨sI (sAf (sI w 25 (nI 15)) 24 (va_cpy (gA w 24) (gA w 24) 0 (66 * (5 + 15)) 48)) 25 (nI (15 + 1)), rfl, ?_, ?_, ?_, ?_⟩, fun rec => ?_⟩
      · exact mop_sI (mop_sAf (mop_sI w1 (by omega) (by omega)) (by omega)) (by omega) (by omega)
      · intro x hx
        rw [gA_sI, gA_sAf, pk_cpy_out (by omega)]; exact w2 x hx
      · simp only [psP, if_neg c, gI_sI, ↓reduceIte]
      · intro i hi
        simp only [psP, if_neg c] at hi ⊢
        simp only [gA_sI, gA_sAf]
        by_cases e : i = 15
        · subst e; rw [if_pos rfl]
          refine MH_cpy (b := 66 * (5 + 15)) h8 (by omega) ?_
          simp only [Nat.zero_add]
          exact MH_ext (fun k hk => w2 k (by omega)) h8 hq
        · rw [if_neg e]
          exact MH_cpo (c := 66 * (5 + i)) (hP8 _ (by omega)) (by omega) (w4 i (by omega))
      · have l := last (sI w 25 (nI 15)) 15 (by omega) (by rw [gI_sI, if_pos rfl])
        simp (disch := omega) only [f_X13_keeps_11s, ↓lm_1, ↓lm_2, ↓lm_3, ↓lm_4, ↓lm_5, ↓lm_6, ↓lm_7, ↓lm_8, ↓lm_9, ↓lm_10, ↓lm_11, li_0, li_1, li_2, li_3, li_4, li_5, li_6, li_7, li_8, li_9, li_10, li_11, li_12, li_13, li_14, li_15, li_16, li_17, li_18, li_19, li_20, li_21, li_22, li_23, li_24, li_25, li_26, li_27, li_28, li_29, li_30, li_31, li_32, li_33, li_34, li_35, li_36, li_37, li_38, li_39, li_40, li_41, li_42, li_43, li_44, li_45, li_46, li_47, li_48, li_49, li_50, li_51, li_52, li_53, li_54, li_55, li_56, li_57, li_58, li_59, li_60, li_61, li_62, li_63, li_64, li_65, li_66, li_96, li_97, li_99, li_100, li_122, li_125, li_126, li_140, li_255, li_256, li_999, li_1000, li_1001, li_1002, li_1100, li_1386, li_1452, li_1518, li_9999, li_1000000, w3, pk_sub, nI_leI, nm_eq, ↓reduceIte, Nat.reduceEqDiff, Nat.reduceAdd, Nat.reduceSub, Nat.reduceMul, Nat.reduceLT, Nat.reduceLeDiff, reduceCtorEq, Nat.add_zero, Nat.zero_add, ne_eq, not_true_eq_false, not_false_eq_true, Nat.succ_ne_self, Nat.zero_ne_one, Nat.one_ne_zero, decide_true, decide_false, Bool.false_eq_true, and_true, true_and, and_self, and_false, false_and]
        exact l
    · rintro k x w hk ⟨rfl, w1, w2, w3, w4, w5⟩
      refine Or.inl ⟨nI (1 + (k + 1)), sAf w 24 (va_cpy (gA w 24) (gA w 24) (66 * (5 + (1 + k))) (66 * (5 + k)) 48), ⟨rfl, mop_sAf w1 (by omega), ?_, w3, ?_, ?_⟩, fun rec => ?_⟩
      · intro y hy
        rw [gA_sAf, pk_cpy_out (by omega)]; exact w2 y hy
      · intro i hi
        simp only [gA_sAf]
        by_cases e : i = k
        · subst e
          refine MH_cpy (b := 66 * (5 + i)) (hP8 _ (by omega)) (by omega) ?_
          have := w5 (i + 1) (by omega) (by omega)
          rwa [show i + 1 = 1 + i by omega] at this ⊢
        · exact MH_cpo (c := 66 * (5 + i)) (hP8 _ (by omega)) (by omega) (w4 i (by omega))
      · intro i hi hi2
        simp only [gA_sAf]
        exact MH_cpo (c := 66 * (5 + i)) (hP8 _ (by omega)) (by omega) (w5 i (by omega) hi2)
      · have hle : ¬ nI 16 ≤ nI (1 + k) := nI_ge (by omega) (by omega)
        have es : nI (5 + (1 + k)) - nI 1 = nI (5 + k) := by rw [pk_sub (by omega)]; congr 1; omega
        simp (disch := omega) only [f_X13_keeps_11s, ↓lm_1, ↓lm_2, ↓lm_3, ↓lm_4, ↓lm_5, ↓lm_6, ↓lm_7, ↓lm_8, ↓lm_9, ↓lm_10, ↓lm_11, li_0, li_1, li_2, li_3, li_4, li_5, li_6, li_7, li_8, li_9, li_10, li_11, li_12, li_13, li_14, li_15, li_16, li_17, li_18, li_19, li_20, li_21, li_22, li_23, li_24, li_25, li_26, li_27, li_28, li_29, li_30, li_31, li_32, li_33, li_34, li_35, li_36, li_37, li_38, li_39, li_40, li_41, li_42, li_43, li_44, li_45, li_46, li_47, li_48, li_49, li_50, li_51, li_52, li_53, li_54, li_55, li_56, li_57, li_58, li_59, li_60, li_61, li_62, li_63, li_64, li_65, li_66, li_96, li_97, li_99, li_100, li_122, li_125, li_126, li_140, li_255, li_256, li_999, li_1000, li_1001, li_1002, li_1100, li_1386, li_1452, li_1518, li_9999, li_1000000, hle, ↓reduceIte, nI_add, nI_mulN, es, m_copies hf (v := w) (a := 66 * (5 + (1 + k))) (b := 66 * (5 + k)) (n := 48) (by omega) (by omega) (by omega) (by omega), bd_s, nm_eq, Nat.add_assoc, Nat.reduceAdd]
end M
