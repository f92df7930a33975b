/-! ===== what is done by hand: steal, paint, sell, guard, night, undo, mark, look ===== -/
theorem st_comm (S : ST) {a b : Nat} (v w : GV) (h : a ≠ b) : st (st S a v) b w = st (st S b w) a v := by
  funext x
  by_cases e : x = a
  · subst e; rw [st_ne _ _ h, st_same, st_same]
  · by_cases e2 : x = b
    · subst e2; rw [st_same, st_ne _ _ e, st_same]
    · rw [st_ne _ _ e2, st_ne _ _ e, st_ne _ _ e, st_ne _ _ e2]
theorem x12_kept_no {fu : Nat} {w : GV} : f_X12_keptUnlessNone fu w (mI 1) = some (mI 1, w) := by
  simp only [f_X12_keptUnlessNone_9, f_X12_keptUnlessNone_0, f_X12_keptUnlessNone, ↓lm_1, ↓lm_2, ↓lm_3, ↓lm_4, ↓lm_5, ↓lm_6, ↓lm_7, ↓lm_8, ↓lm_9, ↓lm_10, ↓lm_11, li_0, li_1, li_2, li_3, li_4, li_5, li_6, li_7, li_8, li_9, li_10, li_11, li_12, li_13, li_14, li_15, li_16, li_17, li_18, li_19, li_20, li_21, li_22, li_23, li_24, li_25, li_26, li_27, li_28, li_29, li_30, li_31, li_32, li_33, li_34, li_35, li_36, li_37, li_38, li_39, li_40, li_41, li_42, li_43, li_44, li_45, li_46, li_47, li_48, li_49, li_50, li_51, li_52, li_53, li_54, li_55, li_56, li_57, li_58, li_59, li_60, li_61, li_62, li_63, li_64, li_65, li_66, li_96, li_97, li_99, li_100, li_122, li_125, li_126, li_140, li_255, li_256, li_999, li_1000, li_1001, li_1002, li_1100, li_1386, li_1452, li_1518, li_9999, li_1000000, ↓reduceIte]
theorem x12_kept {fu : Nat} {w w9 : GV} {z : Int32} (hz : ¬ z = mI 1) (h : f_X12_keepNoted fu w = some w9) : f_X12_keptUnlessNone fu w z = some (z, w9) := by
  simp only [f_X12_keptUnlessNone_9, f_X12_keptUnlessNone_0, f_X12_keptUnlessNone, ↓lm_1, ↓lm_2, ↓lm_3, ↓lm_4, ↓lm_5, ↓lm_6, ↓lm_7, ↓lm_8, ↓lm_9, ↓lm_10, ↓lm_11, li_0, li_1, li_2, li_3, li_4, li_5, li_6, li_7, li_8, li_9, li_10, li_11, li_12, li_13, li_14, li_15, li_16, li_17, li_18, li_19, li_20, li_21, li_22, li_23, li_24, li_25, li_26, li_27, li_28, li_29, li_30, li_31, li_32, li_33, li_34, li_35, li_36, li_37, li_38, li_39, li_40, li_41, li_42, li_43, li_44, li_45, li_46, li_47, li_48, li_49, li_50, li_51, li_52, li_53, li_54, li_55, li_56, li_57, li_58, li_59, li_60, li_61, li_62, li_63, li_64, li_65, li_66, li_96, li_97, li_99, li_100, li_122, li_125, li_126, li_140, li_255, li_256, li_999, li_1000, li_1001, li_1002, li_1100, li_1386, li_1452, li_1518, li_9999, li_1000000, hz, ↓reduceIte, h, bd_s]
theorem clw_ne (x : Int32) : ¬ clw x = mI 1 := by
  unfold clw
  split
  · decide
  · split
    · decide
    · rintro rfl; rename_i h _; exact h (by decide)
theorem mv0 {v : GV} {F P : Nat → Int32} : mv v 0 F P (gA v 24) = sAf (sAf v 22 F) 23 P := by
  have := mb_self (v := sAf (sAf v 22 F) 23 P) (b := 0)
  rw [gA_sAfn _ _ (by decide), gA_sAfn _ _ (by decide)] at this
  simp only [Nat.zero_add] at this
  exact this
theorem mv_rd {v : GV} {F P h : Nat → Int32} {k : Nat} (hk : k < 48) : gA (mv v 0 F P h) 24 k = h k := by
  have := mb_rd (v := sAf (sAf v 22 F) 23 P) (b := 0) (h := h) hk
  rwa [Nat.zero_add] at this
theorem mv_ro {v : GV} {F P h : Nat → Int32} {k : Nat} (hk : 48 ≤ k) : gA (mv v 0 F P h) 24 k = gA v 24 k := by
  rw [mv, mb_ro (by omega), gA_sAfn _ _ (by decide), gA_sAfn _ _ (by decide)]
/-- behind what was kept the model's hall has changed -/
theorem RM_keep {v v7 : GV} {A : AP} {q' : HP} {F P h' : Nat → Int32} (hA : okA A) (hM : RM v A) (hok : okq (aG A) q') (k7 : mop v v7) (x7 : ∀ x, x < 330 → gA v7 24 x = gA v 24 x) (u7 : gI v7 25 = nI (psP (aP A) (aQ A).1).1) (p7 : ∀ i, i < (psP (aP A) (aQ A).1).1 → MH (fun k => gA v7 24 (66 * (5 + i) + k)) ((psP (aP A) (aQ A).1).2 i)) (hq : MH h' q') : RM (mv v7 0 F P h') (mkA (aG A) (q', (aQ A).2) (psP (aP A) (aQ A).1) (aM A) (aB A) (aL A) (aT A) (aN A)) := by
  have ok := (okA_op hA hok).2.2.1
  refine RM_op hA hM (mop_mv k7) (MH_ext (fun k hk => mv_rd hk) hok.1.2.1 hq) (fun x h1 h2 => ?_) ⟨u7, fun i hi => ?_⟩
  · rw [mv_ro h1]; exact x7 x h2
  · exact MH_ext (fun k hk => mv_ro (by omega)) (ok.2 i hi).1.2.1 (p7 i hi)
section H
variable {fu p : Nat} {S : ST} {v : GV}
theorem S2f {t d ln dl f : Nat} {A : AP} (hP : RP p t d ln dl S) (hK : RK p t ln f S A) : ∃ r, r = p + 83 + 7 * ((f + (aP A).1) % 17) ∧ st S r (tkN (S r) (S (p + 9))) p = S p ∧ st S r (tkN (S r) (S (p + 9))) (p + 9) = S (p + 9) ∧ st S r (tkN (S r) (S (p + 9))) t = S t ∧ CG (st S r (tkN (S r) (S (p + 9)))) t (aG A) := by
  have hr : (f + (aP A).1) % 17 < 17 := Nat.mod_lt _ (by decide)
  have c1 := (hP.2.2.1 _ hr)
  have td := hP.2.2.2.2.2.1
  refine ⟨_, rfl, st_ne _ _ (by omega), st_ne _ _ (by omega), st_ne _ _ (by omega), CG_keep hK.2.1 (st_ne _ _ (by omega)) (fun b hb => Or.inl (st_ne _ _ ?_))⟩
  rintro rfl
  omega
theorem mkeeps {A : AP} (hf : 1101 ≤ fu) (hA : okA A) (hM : RM v A) {v1 : GV} (k1 : mop v v1) (e24 : gA v1 24 = gA v 24) (e25 : gI v1 25 = gI v 25) : ∃ v7, f_X13_keeps fu v1 = some v7 ∧ mop v v7 ∧ (∀ x, x < 330 → gA v7 24 x = gA v 24 x) ∧ gI v7 25 = nI (psP (aP A) (aQ A).1).1 ∧ (∀ i, i < (psP (aP A) (aQ A).1).1 → MH (fun k => gA v7 24 (66 * (5 + i) + k)) ((psP (aP A) (aQ A).1).2 i)) ∧ MH (gA v7 24) (aQ A).1 ∧ MG v7 (aG A) := by
  have h8 := hA.2.1.1.1.2.1
  obtain ⟨v7, e, k7, x7, u7, p7⟩ := m_keeps (v := v1) hf (P := aP A) (q := (aQ A).1) hA.2.2.1.1 h8 (fun i hi => (hA.2.2.1.2 i hi).1.2.1) (by rw [e24]; exact hM.2.2.1.1) (by rw [e25]; exact hM.2.2.2.1.1) (fun i hi => by rw [e24]; exact hM.2.2.2.1.2 i hi)
  have k7' := mop_trans k1 k7
  have x7' : ∀ x, x < 330 → gA v7 24 x = gA v 24 x := fun x hx => by rw [x7 x hx, e24]
  exact ⟨v7, e, k7', x7', u7, p7, MH_ext (fun k hk => x7' k (by omega)) h8 hM.2.2.1.1, MG_mop hM.2.1 k7'⟩
theorem m1 (v : GV) : mop v (sI v 0 (nI 0)) := mop_sI (mop_refl v) (by decide) (by decide)
theorem q1 (v : GV) : mscr v (sI v 0 (nI 0)) := mscr_sI (mscr_refl v) (by decide) (by decide) (by decide)
theorem r_steal (hf : 1101 ≤ fu) (h : RR p S v) (x y : Int32) : ∃ z S' v', f_X12_steal fu S p x y = some (z, S') ∧ f_X13_steal fu v x y = some (z, v') ∧ RR p S' v' := by
  obtain ⟨A, hA, hC, hM⟩ := h
  obtain ⟨t, d, ln, dl, f, hP, hK⟩ := id hC
  obtain ⟨r, hr, sp, s9, s1, hg2⟩ := S2f hP hK
  have hnote := x12_note (fu := fu) hP hK hA
  rw [← hr] at hnote
  generalize hS2 : st S r (tkN (S r) (S (p + 9))) = S2 at *
  have hc9 := hP.1.2.2.1
  have hct := hP.2.1.1
  have hrt := hP.2.2.2.2.1.1
  have hq := hA.2.1.1
  have hG := hA.1
  have h8 := hq.1.2.1
  have hw2 : CH (S2 (p + 9)) (aQ A).1 := by rw [s9]; exact hK.1.1
  have hh : MH (gA (sI v 0 (nI 0)) 24) (aQ A).1 := hM.2.2.1.1
  have hg : MG (sI v 0 (nI 0)) (aG A) := hM.2.1
  have hv0 : mb (sI v 0 (nI 0)) 0 (gA (sI v 0 (nI 0)) 24) = sI v 0 (nI 0) := mb0
  have hRC2 : RC p S2 A := RC_note hP hK hA (S7 := S2) (by rw [← hr, hS2]; exact fra_refl _ _) hw2
  have hno : RR p S2 (sI v 0 (nI 0)) := ⟨A, hA, hRC2, RM_mscr hA hM (q1 v)⟩
  by_cases hxy : (∃ j, j < nt (aG A) ∧ x = nI j) ∧ ∃ j, j < qn (aQ A).1 ∧ y = nI j
  · obtain ⟨⟨a, ha, rfl⟩, b, hb, rfl⟩ := hxy
    have hms := m_maySteal_in (fu := fu) (v := sI v 0 (nI 0)) (b := 0) (by omega) hg hG hh hq ha hb
    rw [hv0] at hms
    rcases x3_swap (fu := fu) hw2 hq hg2 hG ha hb with ⟨hh1, hc, S7, e7, f7, ch7⟩ | ⟨hn, e7⟩
    · rcases hms with ⟨_, em⟩ | ⟨c, _⟩
      · obtain ⟨v7, ev, k7, x7, u7, p7, mh7, mg7⟩ := mkeeps hf hA hM (m1 v) rfl rfl
        obtain ⟨h', es, hmh⟩ := m_steals (v := v7) (b := 0) hf (by omega) mg7 hG mh7 hq ha hb hh1
        rw [mb0] at es
        have ok := okq_swap hG hq ha hb hh1
        obtain ⟨w9, ek⟩ : ∃ w9, f_X12_keepNoted fu (S7 p) = some w9 := by
          have ep : S7 p = S p := by rw [fra_at f7 (by omega) (by rw [sp, hP.1.1]; decide), sp]
          rw [ep]
          obtain ⟨k16, kf, k17, kp⟩ := hK.2.2.2.2.1
          exact ⟨_, x12_keepNoted k16 kf k17 hA.2.2.1.1⟩
        have hz : ¬ nI (qj (aQ A).1) = mI 1 := nI_nem (by have := hq.1.2.2.1; omega) (by omega) (by omega)
        refine ⟨nI (qj (aQ A).1), st S7 p w9, mb v7 0 h', ?_, ?_, ⟨_, okA_op hA ok, RC_keep hP hK hA (by rw [← hr, hS2]; exact f7) ch7 ek, ?_⟩⟩
        · simp only [f_X12_steal, f_X12_steal_0, hnote, bd_s, s9, hc9, decide_true, ck_t, sp, hrt, s1, hct, e7, bd2_s, x12_kept hz ek, nm_eq]
        · simp only [f_X13_steal, f_X13_steal_0, ↓lm_1, ↓lm_2, ↓lm_3, ↓lm_4, ↓lm_5, ↓lm_6, ↓lm_7, ↓lm_8, ↓lm_9, ↓lm_10, ↓lm_11, li_0, li_1, li_2, li_3, li_4, li_5, li_6, li_7, li_8, li_9, li_10, li_11, li_12, li_13, li_14, li_15, li_16, li_17, li_18, li_19, li_20, li_21, li_22, li_23, li_24, li_25, li_26, li_27, li_28, li_29, li_30, li_31, li_32, li_33, li_34, li_35, li_36, li_37, li_38, li_39, li_40, li_41, li_42, li_43, li_44, li_45, li_46, li_47, li_48, li_49, li_50, li_51, li_52, li_53, li_54, li_55, li_56, li_57, li_58, li_59, li_60, li_61, li_62, li_63, li_64, li_65, li_66, li_96, li_97, li_99, li_100, li_122, li_125, li_126, li_140, li_255, li_256, li_999, li_1000, li_1001, li_1002, li_1100, li_1386, li_1452, li_1518, li_9999, li_1000000, nm_eq, m_isThief_in hg hG ha, bd_s, n10, ↓reduceIte, em, ev, es, bd2_s]
        · rw [← mv_self]; exact RM_keep hA hM ok k7 x7 u7 p7 hmh
      · exact absurd ⟨hh1, hc⟩ c
    · rcases hms with ⟨c, _⟩ | ⟨_, em⟩
      · exact absurd c hn
      · refine ⟨mI 1, S2, sI v 0 (nI 0), ?_, ?_, hno⟩
        · simp only [f_X12_steal, f_X12_steal_0, hnote, bd_s, s9, hc9, decide_true, ck_t, sp, hrt, s1, hct, e7, bd2_s, x12_kept_no, nm_eq]
          rw [← sp, st_self]
        · simp only [f_X13_steal, f_X13_steal_0, f_X13_steal_23, ↓lm_1, ↓lm_2, ↓lm_3, ↓lm_4, ↓lm_5, ↓lm_6, ↓lm_7, ↓lm_8, ↓lm_9, ↓lm_10, ↓lm_11, li_0, li_1, li_2, li_3, li_4, li_5, li_6, li_7, li_8, li_9, li_10, li_11, li_12, li_13, li_14, li_15, li_16, li_17, li_18, li_19, li_20, li_21, li_22, li_23, li_24, li_25, li_26, li_27, li_28, li_29, li_30, li_31, li_32, li_33, li_34, li_35, li_36, li_37, li_38, li_39, li_40, li_41, li_42, li_43, li_44, li_45, li_46, li_47, li_48, li_49, li_50, li_51, li_52, li_53, li_54, li_55, li_56, li_57, li_58, li_59, li_60, li_61, li_62, li_63, li_64, li_65, li_66, li_96, li_97, li_99, li_100, li_122, li_125, li_126, li_140, li_255, li_256, li_999, li_1000, li_1001, li_1002, li_1100, li_1386, li_1452, li_1518, li_9999, li_1000000, nm_eq, m_isThief_in hg hG ha, bd_s, n10, ↓reduceIte, em]
  · have e7 := x3_swap_out (fu := fu) hw2 hq hg2 hG hxy
    refine ⟨mI 1, S2, sI v 0 (nI 0), ?_, ?_, hno⟩
    · simp only [f_X12_steal, f_X12_steal_0, hnote, bd_s, s9, hc9, decide_true, ck_t, sp, hrt, s1, hct, e7, bd2_s, x12_kept_no, nm_eq]
      rw [← sp, st_self]
    · by_cases hx : ∃ j, j < nt (aG A) ∧ x = nI j
      · have hy : ¬ ∃ j, j < qn (aQ A).1 ∧ y = nI j := fun c => hxy ⟨hx, c⟩
        obtain ⟨a, ha, rfl⟩ := hx
        have hms := m_maySteal_out (fu := fu) (v := sI v 0 (nI 0)) (b := 0) (by omega) hg hG hh hq ha hy
        rw [hv0] at hms
        simp only [f_X13_steal, f_X13_steal_0, f_X13_steal_23, ↓lm_1, ↓lm_2, ↓lm_3, ↓lm_4, ↓lm_5, ↓lm_6, ↓lm_7, ↓lm_8, ↓lm_9, ↓lm_10, ↓lm_11, li_0, li_1, li_2, li_3, li_4, li_5, li_6, li_7, li_8, li_9, li_10, li_11, li_12, li_13, li_14, li_15, li_16, li_17, li_18, li_19, li_20, li_21, li_22, li_23, li_24, li_25, li_26, li_27, li_28, li_29, li_30, li_31, li_32, li_33, li_34, li_35, li_36, li_37, li_38, li_39, li_40, li_41, li_42, li_43, li_44, li_45, li_46, li_47, li_48, li_49, li_50, li_51, li_52, li_53, li_54, li_55, li_56, li_57, li_58, li_59, li_60, li_61, li_62, li_63, li_64, li_65, li_66, li_96, li_97, li_99, li_100, li_122, li_125, li_126, li_140, li_255, li_256, li_999, li_1000, li_1001, li_1002, li_1100, li_1386, li_1452, li_1518, li_9999, li_1000000, nm_eq, m_isThief_in hg hG ha, bd_s, n10, ↓reduceIte, hms]
      · simp only [f_X13_steal, f_X13_steal_0, f_X13_steal_23, ↓lm_1, ↓lm_2, ↓lm_3, ↓lm_4, ↓lm_5, ↓lm_6, ↓lm_7, ↓lm_8, ↓lm_9, ↓lm_10, ↓lm_11, li_0, li_1, li_2, li_3, li_4, li_5, li_6, li_7, li_8, li_9, li_10, li_11, li_12, li_13, li_14, li_15, li_16, li_17, li_18, li_19, li_20, li_21, li_22, li_23, li_24, li_25, li_26, li_27, li_28, li_29, li_30, li_31, li_32, li_33, li_34, li_35, li_36, li_37, li_38, li_39, li_40, li_41, li_42, li_43, li_44, li_45, li_46, li_47, li_48, li_49, li_50, li_51, li_52, li_53, li_54, li_55, li_56, li_57, li_58, li_59, li_60, li_61, li_62, li_63, li_64, li_65, li_66, li_96, li_97, li_99, li_100, li_122, li_125, li_126, li_140, li_255, li_256, li_999, li_1000, li_1001, li_1002, li_1100, li_1386, li_1452, li_1518, li_9999, li_1000000, nm_eq, m_isThief_out hg hG hx, bd_s, ↓reduceIte]
theorem r_sell (hf : 1101 ≤ fu) (h : RR p S v) (x y : Int32) : ∃ z S' v', f_X12_sell fu S p x y = some (z, S') ∧ f_X13_sell fu v x y = some (z, v') ∧ RR p S' v' := by
  obtain ⟨A, hA, hC, hM⟩ := h
  obtain ⟨t, d, ln, dl, f, hP, hK⟩ := id hC
  obtain ⟨r, hr, sp, s9, s1, hg2⟩ := S2f hP hK
  have hnote := x12_note (fu := fu) hP hK hA
  rw [← hr] at hnote
  generalize hS2 : st S r (tkN (S r) (S (p + 9))) = S2 at *
  have hc9 := hP.1.2.2.1
  have hct := hP.2.1.1
  have hrt := hP.2.2.2.2.1.1
  have hq := hA.2.1.1
  have hG := hA.1
  have h8 := hq.1.2.1
  have hw2 : CH (S2 (p + 9)) (aQ A).1 := by rw [s9]; exact hK.1.1
  have hh : MH (gA (sI v 0 (nI 0)) 24) (aQ A).1 := hM.2.2.1.1
  have hg : MG (sI v 0 (nI 0)) (aG A) := hM.2.1
  have hv0 : mb (sI v 0 (nI 0)) 0 (gA (sI v 0 (nI 0)) 24) = sI v 0 (nI 0) := mb0
  have hRC2 : RC p S2 A := RC_note hP hK hA (S7 := S2) (by rw [← hr, hS2]; exact fra_refl _ _) hw2
  have hno : RR p S2 (sI v 0 (nI 0)) := ⟨A, hA, hRC2, RM_mscr hA hM (q1 v)⟩
  by_cases hxy : (∃ j, j < nt (aG A) ∧ x = nI j) ∧ ∃ j, j < qn (aQ A).1 ∧ y = nI j
  · obtain ⟨⟨a, ha, rfl⟩, b, hb, rfl⟩ := hxy
    have hms := m_hasIt_in (fu := fu) (v := sI v 0 (nI 0)) (b := 0) (by omega) hh hq hG ha hb
    rw [hv0] at hms
    rcases x3_sale (fu := fu) hf hw2 hq hg2 hG ha hb with ⟨hh1, S7, e7, f7, ch7⟩ | ⟨hn, e7⟩
    · rw [if_pos hh1] at hms
      obtain ⟨v7, ev, k7, x7, u7, p7, mh7, mg7⟩ := mkeeps hf hA hM (m1 v) rfl rfl
      obtain ⟨F, P, h', es, hmh⟩ := m_sells (v := v7) (b := 0) hf (by omega) mg7 hG mh7 hq ha hb
      rw [mb0] at es
      have ok := okq_sell hG hq ha hb hh1
      obtain ⟨w9, ek⟩ : ∃ w9, f_X12_keepNoted fu (S7 p) = some w9 := by
        have ep : S7 p = S p := by rw [fra_at f7 (by omega) (by rw [sp, hP.1.1]; decide), sp]
        rw [ep]
        obtain ⟨k16, kf, k17, kp⟩ := hK.2.2.2.2.1
        exact ⟨_, x12_keepNoted k16 kf k17 hA.2.2.1.1⟩
      refine ⟨wof (aG A) (aQ A).1 b, st S7 p w9, mv v7 0 F P h', ?_, ?_, ⟨_, okA_op hA ok, RC_keep hP hK hA (by rw [← hr, hS2]; exact f7) ch7 ek, RM_keep hA hM ok k7 x7 u7 p7 hmh⟩⟩
      · simp only [f_X12_sell, f_X12_sell_0, hnote, bd_s, s9, hc9, decide_true, ck_t, sp, hrt, s1, hct, e7, bd2_s, x12_kept (clw_ne _) ek, wof, nm_eq]
      · simp only [f_X13_sell, f_X13_sell_0, ↓lm_1, ↓lm_2, ↓lm_3, ↓lm_4, ↓lm_5, ↓lm_6, ↓lm_7, ↓lm_8, ↓lm_9, ↓lm_10, ↓lm_11, li_0, li_1, li_2, li_3, li_4, li_5, li_6, li_7, li_8, li_9, li_10, li_11, li_12, li_13, li_14, li_15, li_16, li_17, li_18, li_19, li_20, li_21, li_22, li_23, li_24, li_25, li_26, li_27, li_28, li_29, li_30, li_31, li_32, li_33, li_34, li_35, li_36, li_37, li_38, li_39, li_40, li_41, li_42, li_43, li_44, li_45, li_46, li_47, li_48, li_49, li_50, li_51, li_52, li_53, li_54, li_55, li_56, li_57, li_58, li_59, li_60, li_61, li_62, li_63, li_64, li_65, li_66, li_96, li_97, li_99, li_100, li_122, li_125, li_126, li_140, li_255, li_256, li_999, li_1000, li_1001, li_1002, li_1100, li_1386, li_1452, li_1518, li_9999, li_1000000, nm_eq, m_isThief_in hg hG ha, bd_s, n10, ↓reduceIte, hms, ev, es, bd2_s]
    · rw [if_neg hn] at hms
      refine ⟨mI 1, S2, sI v 0 (nI 0), ?_, ?_, hno⟩
      · simp only [f_X12_sell, f_X12_sell_0, hnote, bd_s, s9, hc9, decide_true, ck_t, sp, hrt, s1, hct, e7, bd2_s, x12_kept_no, nm_eq]
        rw [← sp, st_self]
      · simp only [f_X13_sell, f_X13_sell_0, f_X13_sell_23, ↓lm_1, ↓lm_2, ↓lm_3, ↓lm_4, ↓lm_5, ↓lm_6, ↓lm_7, ↓lm_8, ↓lm_9, ↓lm_10, ↓lm_11, li_0, li_1, li_2, li_3, li_4, li_5, li_6, li_7, li_8, li_9, li_10, li_11, li_12, li_13, li_14, li_15, li_16, li_17, li_18, li_19, li_20, li_21, li_22, li_23, li_24, li_25, li_26, li_27, li_28, li_29, li_30, li_31, li_32, li_33, li_34, li_35, li_36, li_37, li_38, li_39, li_40, li_41, li_42, li_43, li_44, li_45, li_46, li_47, li_48, li_49, li_50, li_51, li_52, li_53, li_54, li_55, li_56, li_57, li_58, li_59, li_60, li_61, li_62, li_63, li_64, li_65, li_66, li_96, li_97, li_99, li_100, li_122, li_125, li_126, li_140, li_255, li_256, li_999, li_1000, li_1001, li_1002, li_1100, li_1386, li_1452, li_1518, li_9999, li_1000000, nm_eq, m_isThief_in hg hG ha, bd_s, n10, ↓reduceIte, hms]
  · have e7 := x3_sale_out (fu := fu) hw2 hq hg2 hG hxy
    refine ⟨mI 1, S2, sI v 0 (nI 0), ?_, ?_, hno⟩
    · simp only [f_X12_sell, f_X12_sell_0, hnote, bd_s, s9, hc9, decide_true, ck_t, sp, hrt, s1, hct, e7, bd2_s, x12_kept_no, nm_eq]
      rw [← sp, st_self]
    · by_cases hx : ∃ j, j < nt (aG A) ∧ x = nI j
      · have hy : ¬ ∃ j, j < qn (aQ A).1 ∧ y = nI j := fun c => hxy ⟨hx, c⟩
        obtain ⟨a, ha, rfl⟩ := hx
        have hms := m_hasIt_out (fu := fu) (v := sI v 0 (nI 0)) (b := 0) (by omega) hh hq (x := nI a) hy
        rw [hv0] at hms
        simp only [f_X13_sell, f_X13_sell_0, f_X13_sell_23, ↓lm_1, ↓lm_2, ↓lm_3, ↓lm_4, ↓lm_5, ↓lm_6, ↓lm_7, ↓lm_8, ↓lm_9, ↓lm_10, ↓lm_11, li_0, li_1, li_2, li_3, li_4, li_5, li_6, li_7, li_8, li_9, li_10, li_11, li_12, li_13, li_14, li_15, li_16, li_17, li_18, li_19, li_20, li_21, li_22, li_23, li_24, li_25, li_26, li_27, li_28, li_29, li_30, li_31, li_32, li_33, li_34, li_35, li_36, li_37, li_38, li_39, li_40, li_41, li_42, li_43, li_44, li_45, li_46, li_47, li_48, li_49, li_50, li_51, li_52, li_53, li_54, li_55, li_56, li_57, li_58, li_59, li_60, li_61, li_62, li_63, li_64, li_65, li_66, li_96, li_97, li_99, li_100, li_122, li_125, li_126, li_140, li_255, li_256, li_999, li_1000, li_1001, li_1002, li_1100, li_1386, li_1452, li_1518, li_9999, li_1000000, nm_eq, m_isThief_in hg hG ha, bd_s, n10, ↓reduceIte, hms]
      · simp only [f_X13_sell, f_X13_sell_0, f_X13_sell_23, ↓lm_1, ↓lm_2, ↓lm_3, ↓lm_4, ↓lm_5, ↓lm_6, ↓lm_7, ↓lm_8, ↓lm_9, ↓lm_10, ↓lm_11, li_0, li_1, li_2, li_3, li_4, li_5, li_6, li_7, li_8, li_9, li_10, li_11, li_12, li_13, li_14, li_15, li_16, li_17, li_18, li_19, li_20, li_21, li_22, li_23, li_24, li_25, li_26, li_27, li_28, li_29, li_30, li_31, li_32, li_33, li_34, li_35, li_36, li_37, li_38, li_39, li_40, li_41, li_42, li_43, li_44, li_45, li_46, li_47, li_48, li_49, li_50, li_51, li_52, li_53, li_54, li_55, li_56, li_57, li_58, li_59, li_60, li_61, li_62, li_63, li_64, li_65, li_66, li_96, li_97, li_99, li_100, li_122, li_125, li_126, li_140, li_255, li_256, li_999, li_1000, li_1001, li_1002, li_1100, li_1386, li_1452, li_1518, li_9999, li_1000000, nm_eq, m_isThief_out hg hG hx, bd_s, ↓reduceIte]
theorem r_paint (hf : 1101 ≤ fu) (h : RR p S v) (x y z0 : Int32) : ∃ z S' v', f_X12_paint fu S p x y z0 = some (z, S') ∧ f_X13_paint fu v x y z0 = some (z, v') ∧ RR p S' v' := by
  obtain ⟨A, hA, hC, hM⟩ := h
  obtain ⟨t, d, ln, dl, f, hP, hK⟩ := id hC
  obtain ⟨r, hr, sp, s9, s1, hg2⟩ := S2f hP hK
  have hnote := x12_note (fu := fu) hP hK hA
  rw [← hr] at hnote
  generalize hS2 : st S r (tkN (S r) (S (p + 9))) = S2 at *
  have hc9 := hP.1.2.2.1
  have hct := hP.2.1.1
  have hrt := hP.2.2.2.2.1.1
  have hq := hA.2.1.1
  have hG := hA.1
  have h8 := hq.1.2.1
  have hw2 : CH (S2 (p + 9)) (aQ A).1 := by rw [s9]; exact hK.1.1
  have hh : MH (gA (sI v 0 (nI 0)) 24) (aQ A).1 := hM.2.2.1.1
  have hg : MG (sI v 0 (nI 0)) (aG A) := hM.2.1
  have hv0 : mb (sI v 0 (nI 0)) 0 (gA (sI v 0 (nI 0)) 24) = sI v 0 (nI 0) := mb0
  have hRC2 : RC p S2 A := RC_note hP hK hA (S7 := S2) (by rw [← hr, hS2]; exact fra_refl _ _) hw2
  have hno : RR p S2 (sI v 0 (nI 0)) := ⟨A, hA, hRC2, RM_mscr hA hM (q1 v)⟩
  by_cases hxy : (∃ j, j < nt (aG A) ∧ x = nI j) ∧ (∃ j, j < qn (aQ A).1 ∧ y = nI j) ∧ ∃ j, j < ns (aG A) ∧ z0 = nI j
  · obtain ⟨⟨a, ha, rfl⟩, ⟨b, hb, rfl⟩, s, hs, rfl⟩ := hxy
    have hs8 : s < 8 := by have := hG.1; omega
    obtain ⟨F, P, hms⟩ := m_mayPaint (fu := fu) (v := sI v 0 (nI 0)) (b := 0) (s := s) hf (by omega) hg hG hh hq ha hb
    rw [hv0] at hms
    rcases x3_copyOf (fu := fu) hf hw2 hq hg2 hG ha hb hs with ⟨hc, S7, e7, f7, ch7⟩ | ⟨hn, S7, e7, l7⟩
    · rcases hms with ⟨_, em⟩ | ⟨c, _⟩
      · obtain ⟨v7, ev, k7, x7, u7, p7, mh7, mg7⟩ := mkeeps hf hA hM (v1 := mv (sI v 0 (nI 0)) 0 F P (gA (sI v 0 (nI 0)) 24)) (mop_mv (m1 v)) (by rw [mv0, gA_sAfn _ _ (by decide), gA_sAfn _ _ (by decide)]; rfl) rfl
        obtain ⟨h', es, hmh⟩ := m_paints (fu := fu) (v := v7) (b := 0) (t := a) (by omega) hG mh7 hq hb hc.1 hs8
        rw [mb0] at es
        have ok := okq_paint hG hq ha hb hs8 hc.1
        obtain ⟨w9, ek⟩ : ∃ w9, f_X12_keepNoted fu (S7 p) = some w9 := by
          have ep : S7 p = S p := by rw [fra_at f7 (by omega) (by rw [sp, hP.1.1]; decide), sp]
          rw [ep]
          obtain ⟨k16, kf, k17, kp⟩ := hK.2.2.2.2.1
          exact ⟨_, x12_keepNoted k16 kf k17 hA.2.2.1.1⟩
        have hz : ¬ nI (qn (aQ A).1) = mI 1 := nI_nem (by omega) (by omega) (by omega)
        refine ⟨nI (qn (aQ A).1), st S7 p w9, mb v7 0 h', ?_, ?_, ⟨_, okA_op hA ok, RC_keep hP hK hA (by rw [← hr, hS2]; exact f7) ch7 ek, ?_⟩⟩
        · simp only [f_X12_paint, f_X12_paint_0, hnote, bd_s, s9, hc9, decide_true, ck_t, sp, hrt, s1, hct, e7, bd2_s, x12_kept hz ek, nm_eq]
        · simp only [f_X13_paint, f_X13_paint_0, ↓lm_1, ↓lm_2, ↓lm_3, ↓lm_4, ↓lm_5, ↓lm_6, ↓lm_7, ↓lm_8, ↓lm_9, ↓lm_10, ↓lm_11, li_0, li_1, li_2, li_3, li_4, li_5, li_6, li_7, li_8, li_9, li_10, li_11, li_12, li_13, li_14, li_15, li_16, li_17, li_18, li_19, li_20, li_21, li_22, li_23, li_24, li_25, li_26, li_27, li_28, li_29, li_30, li_31, li_32, li_33, li_34, li_35, li_36, li_37, li_38, li_39, li_40, li_41, li_42, li_43, li_44, li_45, li_46, li_47, li_48, li_49, li_50, li_51, li_52, li_53, li_54, li_55, li_56, li_57, li_58, li_59, li_60, li_61, li_62, li_63, li_64, li_65, li_66, li_96, li_97, li_99, li_100, li_122, li_125, li_126, li_140, li_255, li_256, li_999, li_1000, li_1001, li_1002, li_1100, li_1386, li_1452, li_1518, li_9999, li_1000000, nm_eq, m_isThief_in hg hG ha, m_isSpot_in hg hG hs, bd_s, n10, ↓reduceIte, em, ev, es, bd2_s]
        · rw [← mv_self]; exact RM_keep hA hM ok k7 x7 u7 p7 hmh
      · exact absurd hc c
    · rcases hms with ⟨c, _⟩ | ⟨_, em⟩
      · exact absurd c hn
      · have ep : S7 p = S p := by rw [lw_at l7 (by rw [sp, hP.1.1]; decide), sp]
        refine ⟨mI 1, S7, mv (sI v 0 (nI 0)) 0 F P (gA (sI v 0 (nI 0)) 24), ?_, ?_, ⟨A, hA, ?_, RM_mscr hA hM (mscr_mv0 (q1 v))⟩⟩
        · simp only [f_X12_paint, f_X12_paint_0, hnote, bd_s, s9, hc9, decide_true, ck_t, sp, hrt, s1, hct, e7, bd2_s, x12_kept_no, nm_eq]
          rw [st_self]
        · simp only [f_X13_paint, f_X13_paint_0, f_X13_paint_32, ↓lm_1, ↓lm_2, ↓lm_3, ↓lm_4, ↓lm_5, ↓lm_6, ↓lm_7, ↓lm_8, ↓lm_9, ↓lm_10, ↓lm_11, li_0, li_1, li_2, li_3, li_4, li_5, li_6, li_7, li_8, li_9, li_10, li_11, li_12, li_13, li_14, li_15, li_16, li_17, li_18, li_19, li_20, li_21, li_22, li_23, li_24, li_25, li_26, li_27, li_28, li_29, li_30, li_31, li_32, li_33, li_34, li_35, li_36, li_37, li_38, li_39, li_40, li_41, li_42, li_43, li_44, li_45, li_46, li_47, li_48, li_49, li_50, li_51, li_52, li_53, li_54, li_55, li_56, li_57, li_58, li_59, li_60, li_61, li_62, li_63, li_64, li_65, li_66, li_96, li_97, li_99, li_100, li_122, li_125, li_126, li_140, li_255, li_256, li_999, li_1000, li_1001, li_1002, li_1100, li_1386, li_1452, li_1518, li_9999, li_1000000, nm_eq, m_isThief_in hg hG ha, m_isSpot_in hg hG hs, bd_s, n10, ↓reduceIte, em, bd2_s]
        · refine RC_note hP hK hA (by rw [← hr, hS2]; exact fra_lw l7) ?_
          rw [lw_at l7 (by rw [s9, hc9]; decide)]; exact hw2
  · have e7 := x3_copyOf_out (fu := fu) hw2 hq hg2 hG hxy
    refine ⟨mI 1, S2, sI v 0 (nI 0), ?_, ?_, hno⟩
    · simp only [f_X12_paint, f_X12_paint_0, hnote, bd_s, s9, hc9, decide_true, ck_t, sp, hrt, s1, hct, e7, bd2_s, x12_kept_no, nm_eq]
      rw [← sp, st_self]
    · by_cases hx : ∃ j, j < nt (aG A) ∧ x = nI j
      · by_cases hz : ∃ j, j < ns (aG A) ∧ z0 = nI j
        · have hy : ¬ ∃ j, j < qn (aQ A).1 ∧ y = nI j := fun c => hxy ⟨hx, c, hz⟩
          obtain ⟨a, ha, rfl⟩ := hx
          obtain ⟨s, hs, rfl⟩ := hz
          have hms := m_mayPaint_out (fu := fu) (v := sI v 0 (nI 0)) (b := 0) (by omega) hh hq (x := nI a) (z := nI s) hy
          rw [hv0] at hms
          simp only [f_X13_paint, f_X13_paint_0, f_X13_paint_32, ↓lm_1, ↓lm_2, ↓lm_3, ↓lm_4, ↓lm_5, ↓lm_6, ↓lm_7, ↓lm_8, ↓lm_9, ↓lm_10, ↓lm_11, li_0, li_1, li_2, li_3, li_4, li_5, li_6, li_7, li_8, li_9, li_10, li_11, li_12, li_13, li_14, li_15, li_16, li_17, li_18, li_19, li_20, li_21, li_22, li_23, li_24, li_25, li_26, li_27, li_28, li_29, li_30, li_31, li_32, li_33, li_34, li_35, li_36, li_37, li_38, li_39, li_40, li_41, li_42, li_43, li_44, li_45, li_46, li_47, li_48, li_49, li_50, li_51, li_52, li_53, li_54, li_55, li_56, li_57, li_58, li_59, li_60, li_61, li_62, li_63, li_64, li_65, li_66, li_96, li_97, li_99, li_100, li_122, li_125, li_126, li_140, li_255, li_256, li_999, li_1000, li_1001, li_1002, li_1100, li_1386, li_1452, li_1518, li_9999, li_1000000, nm_eq, m_isThief_in hg hG ha, m_isSpot_in hg hG hs, bd_s, bd2_s, n10, ↓reduceIte, hms]
        · obtain ⟨a, ha, rfl⟩ := hx
          simp only [f_X13_paint, f_X13_paint_0, f_X13_paint_32, ↓lm_1, ↓lm_2, ↓lm_3, ↓lm_4, ↓lm_5, ↓lm_6, ↓lm_7, ↓lm_8, ↓lm_9, ↓lm_10, ↓lm_11, li_0, li_1, li_2, li_3, li_4, li_5, li_6, li_7, li_8, li_9, li_10, li_11, li_12, li_13, li_14, li_15, li_16, li_17, li_18, li_19, li_20, li_21, li_22, li_23, li_24, li_25, li_26, li_27, li_28, li_29, li_30, li_31, li_32, li_33, li_34, li_35, li_36, li_37, li_38, li_39, li_40, li_41, li_42, li_43, li_44, li_45, li_46, li_47, li_48, li_49, li_50, li_51, li_52, li_53, li_54, li_55, li_56, li_57, li_58, li_59, li_60, li_61, li_62, li_63, li_64, li_65, li_66, li_96, li_97, li_99, li_100, li_122, li_125, li_126, li_140, li_255, li_256, li_999, li_1000, li_1001, li_1002, li_1100, li_1386, li_1452, li_1518, li_9999, li_1000000, nm_eq, m_isThief_in hg hG ha, m_isSpot_out hg hG hz, bd_s, n10, ↓reduceIte]
      · simp only [f_X13_paint, f_X13_paint_0, f_X13_paint_32, ↓lm_1, ↓lm_2, ↓lm_3, ↓lm_4, ↓lm_5, ↓lm_6, ↓lm_7, ↓lm_8, ↓lm_9, ↓lm_10, ↓lm_11, li_0, li_1, li_2, li_3, li_4, li_5, li_6, li_7, li_8, li_9, li_10, li_11, li_12, li_13, li_14, li_15, li_16, li_17, li_18, li_19, li_20, li_21, li_22, li_23, li_24, li_25, li_26, li_27, li_28, li_29, li_30, li_31, li_32, li_33, li_34, li_35, li_36, li_37, li_38, li_39, li_40, li_41, li_42, li_43, li_44, li_45, li_46, li_47, li_48, li_49, li_50, li_51, li_52, li_53, li_54, li_55, li_56, li_57, li_58, li_59, li_60, li_61, li_62, li_63, li_64, li_65, li_66, li_96, li_97, li_99, li_100, li_122, li_125, li_126, li_140, li_255, li_256, li_999, li_1000, li_1001, li_1002, li_1100, li_1386, li_1452, li_1518, li_9999, li_1000000, nm_eq, m_isThief_out hg hG hx, bd_s, ↓reduceIte]
theorem MH_guard {h : Nat → Int32} {q : HP} (hh : MH h q) (h8 : qn q ≤ 8) (k : Nat) : MH (upd h 1 (nI (qg q ||| 2 ^ k))) (pguard q k) := by
  obtain ⟨c1, c2, c3, c4, c5⟩ := hh
  refine ⟨by rw [pk_un (by omega)]; exact c1, pk_us, by rw [pk_un (by omega)]; exact c3, fun x hx => ?_, fun t ht => by rw [pk_un (by omega)]; exact c5 t ht⟩
  rw [pk_un (by omega), pk_un (by omega), pk_un (by omega), pk_un (by omega), pk_un (by omega)]
  exact c4 x hx
theorem r_guard (hf : 1101 ≤ fu) (h : RR p S v) (x : Int32) : ∃ z S' v', f_X12_guard fu S p x = some (z, S') ∧ f_X13_guard fu v x = some (z, v') ∧ RR p S' v' := by
  obtain ⟨A, hA, hC, hM⟩ := h
  obtain ⟨t, d, ln, dl, f, hP, hK⟩ := id hC
  obtain ⟨r, hr, sp, s9, s1, hg2⟩ := S2f hP hK
  have hnote := x12_note (fu := fu) hP hK hA
  rw [← hr] at hnote
  generalize hS2 : st S r (tkN (S r) (S (p + 9))) = S2 at *
  have hc9 := hP.1.2.2.1
  have hq := hA.2.1.1
  have hG := hA.1
  have h8 := hq.1.2.1
  have hg24 := hq.1.2.2.2
  have hw2 : CH (S2 (p + 9)) (aQ A).1 := by rw [s9]; exact hK.1.1
  have hh : MH (gA (sI v 0 (nI 0)) 24) (aQ A).1 := hM.2.2.1.1
  have hRC2 : RC p S2 A := RC_note hP hK hA (S7 := S2) (by rw [← hr, hS2]; exact fra_refl _ _) hw2
  have hno : RR p S2 (sI v 0 (nI 0)) := ⟨A, hA, hRC2, RM_mscr hA hM (q1 v)⟩
  by_cases hx : ∃ j, j < 24 ∧ x = nI j
  · obtain ⟨a, ha, rfl⟩ := hx
    have e7 := x3_setGuard (fu := fu) hw2 hq ha
    have hbt := bt_lt (qg (aQ A).1) a
    by_cases c : bt (qg (aQ A).1) a = 0
    · rw [if_pos c] at e7
      obtain ⟨v7, ev, k7, x7, u7, p7, mh7, mg7⟩ := mkeeps hf hA hM (m1 v) rfl rfl
      have ok := okq_guard hq ha
      have f7 : fra (p + 9) S2 (st S2 (p + 9) (sI (S2 (p + 9)) 9 (nI (qg (aQ A).1 ||| 2 ^ a)))) := fra_st (fra_refl _ _) rfl (fun k hk => by rw [gI_sI, if_neg (by omega)])
      have ch7 : CH (st S2 (p + 9) (sI (S2 (p + 9)) 9 (nI (qg (aQ A).1 ||| 2 ^ a))) (p + 9)) (pguard (aQ A).1 a) := by rw [st_same]; exact CH_guard hw2 a
      obtain ⟨w9, ek⟩ : ∃ w9, f_X12_keepNoted fu (st S2 (p + 9) (sI (S2 (p + 9)) 9 (nI (qg (aQ A).1 ||| 2 ^ a))) p) = some w9 := by
        rw [st_ne _ _ (by omega), sp]
        obtain ⟨k16, kf, k17, kp⟩ := hK.2.2.2.2.1
        exact ⟨_, x12_keepNoted k16 kf k17 hA.2.2.1.1⟩
      have p2 : 2 ^ a < 2 ^ 24 := Nat.pow_lt_pow_right (by decide) ha
      refine ⟨nI 1, st (st S2 (p + 9) (sI (S2 (p + 9)) 9 (nI (qg (aQ A).1 ||| 2 ^ a)))) p w9, mb v7 0 (upd (gA v7 24) 1 (nI (qg (aQ A).1 ||| 2 ^ a))), ?_, ?_, ⟨_, okA_op hA ok, RC_keep hP hK hA (by rw [← hr, hS2]; exact f7) ch7 ek, ?_⟩⟩
      · simp only [f_X12_guard, f_X12_guard_0, f_X12_guard_21, ↓lm_1, ↓lm_2, ↓lm_3, ↓lm_4, ↓lm_5, ↓lm_6, ↓lm_7, ↓lm_8, ↓lm_9, ↓lm_10, ↓lm_11, li_0, li_1, li_2, li_3, li_4, li_5, li_6, li_7, li_8, li_9, li_10, li_11, li_12, li_13, li_14, li_15, li_16, li_17, li_18, li_19, li_20, li_21, li_22, li_23, li_24, li_25, li_26, li_27, li_28, li_29, li_30, li_31, li_32, li_33, li_34, li_35, li_36, li_37, li_38, li_39, li_40, li_41, li_42, li_43, li_44, li_45, li_46, li_47, li_48, li_49, li_50, li_51, li_52, li_53, li_54, li_55, li_56, li_57, li_58, li_59, li_60, li_61, li_62, li_63, li_64, li_65, li_66, li_96, li_97, li_99, li_100, li_122, li_125, li_126, li_140, li_255, li_256, li_999, li_1000, li_1001, li_1002, li_1100, li_1386, li_1452, li_1518, li_9999, li_1000000, hnote, bd_s, show gC (S2 (p + 9)) = 3 by rw [s9]; exact hc9, decide_true, ck_t, e7, bd2_s, n10, ↓reduceIte, ek, nm_eq, isB_1]
      · have e1 : ¬ nI (bt (qg (aQ A).1) a) = nI 1 := by rw [c]; decide
        have es : sA v7 24 1 (nI (qg (aQ A).1 ||| 2 ^ a)) = mb v7 0 (upd (gA v7 24) 1 (nI (qg (aQ A).1 ||| 2 ^ a))) := by
          have := mb_wr (v := v7) (b := 0) (i := 1) (h := gA v7 24) (x := nI (qg (aQ A).1 ||| 2 ^ a)) (by omega)
          rwa [mb0] at this
        simp (disch := omega) only [f_X13_guard, f_X13_guard_0, ↓lm_1, ↓lm_2, ↓lm_3, ↓lm_4, ↓lm_5, ↓lm_6, ↓lm_7, ↓lm_8, ↓lm_9, ↓lm_10, ↓lm_11, li_0, li_1, li_2, li_3, li_4, li_5, li_6, li_7, li_8, li_9, li_10, li_11, li_12, li_13, li_14, li_15, li_16, li_17, li_18, li_19, li_20, li_21, li_22, li_23, li_24, li_25, li_26, li_27, li_28, li_29, li_30, li_31, li_32, li_33, li_34, li_35, li_36, li_37, li_38, li_39, li_40, li_41, li_42, li_43, li_44, li_45, li_46, li_47, li_48, li_49, li_50, li_51, li_52, li_53, li_54, li_55, li_56, li_57, li_58, li_59, li_60, li_61, li_62, li_63, li_64, li_65, li_66, li_96, li_97, li_99, li_100, li_122, li_125, li_126, li_140, li_255, li_256, li_999, li_1000, li_1001, li_1002, li_1100, li_1386, li_1452, li_1518, li_9999, li_1000000, nm_eq, w_in, bd_s, n10, ↓reduceIte, nI_clamp, hh.2.1, nI_and31, nI_bt, e1, ev, mh7.2.1, nI_shl1, nI_orN, es]
      · rw [← mv_self]; exact RM_keep hA hM ok k7 x7 u7 p7 (MH_guard mh7 h8 a)
    · rw [if_neg c] at e7
      have c1 : bt (qg (aQ A).1) a = 1 := by omega
      refine ⟨nI 0, S2, sI v 0 (nI 0), ?_, ?_, hno⟩
      · simp only [f_X12_guard, f_X12_guard_0, f_X12_guard_21, ↓lm_1, ↓lm_2, ↓lm_3, ↓lm_4, ↓lm_5, ↓lm_6, ↓lm_7, ↓lm_8, ↓lm_9, ↓lm_10, ↓lm_11, li_0, li_1, li_2, li_3, li_4, li_5, li_6, li_7, li_8, li_9, li_10, li_11, li_12, li_13, li_14, li_15, li_16, li_17, li_18, li_19, li_20, li_21, li_22, li_23, li_24, li_25, li_26, li_27, li_28, li_29, li_30, li_31, li_32, li_33, li_34, li_35, li_36, li_37, li_38, li_39, li_40, li_41, li_42, li_43, li_44, li_45, li_46, li_47, li_48, li_49, li_50, li_51, li_52, li_53, li_54, li_55, li_56, li_57, li_58, li_59, li_60, li_61, li_62, li_63, li_64, li_65, li_66, li_96, li_97, li_99, li_100, li_122, li_125, li_126, li_140, li_255, li_256, li_999, li_1000, li_1001, li_1002, li_1100, li_1386, li_1452, li_1518, li_9999, li_1000000, hnote, bd_s, show gC (S2 (p + 9)) = 3 by rw [s9]; exact hc9, decide_true, ck_t, e7, bd2_s, ↓reduceIte, nm_eq, isB_0, st_self]
      · simp (disch := omega) only [f_X13_guard, f_X13_guard_0, f_X13_guard_29, ↓lm_1, ↓lm_2, ↓lm_3, ↓lm_4, ↓lm_5, ↓lm_6, ↓lm_7, ↓lm_8, ↓lm_9, ↓lm_10, ↓lm_11, li_0, li_1, li_2, li_3, li_4, li_5, li_6, li_7, li_8, li_9, li_10, li_11, li_12, li_13, li_14, li_15, li_16, li_17, li_18, li_19, li_20, li_21, li_22, li_23, li_24, li_25, li_26, li_27, li_28, li_29, li_30, li_31, li_32, li_33, li_34, li_35, li_36, li_37, li_38, li_39, li_40, li_41, li_42, li_43, li_44, li_45, li_46, li_47, li_48, li_49, li_50, li_51, li_52, li_53, li_54, li_55, li_56, li_57, li_58, li_59, li_60, li_61, li_62, li_63, li_64, li_65, li_66, li_96, li_97, li_99, li_100, li_122, li_125, li_126, li_140, li_255, li_256, li_999, li_1000, li_1001, li_1002, li_1100, li_1386, li_1452, li_1518, li_9999, li_1000000, nm_eq, w_in, bd_s, n10, ↓reduceIte, nI_clamp, hh.2.1, nI_and31, nI_bt, c1]
  · have e7 := x3_setGuard_out (fu := fu) (w := S2 (p + 9)) hx
    refine ⟨nI 0, S2, sI v 0 (nI 0), ?_, ?_, hno⟩
    · simp only [f_X12_guard, f_X12_guard_0, f_X12_guard_21, ↓lm_1, ↓lm_2, ↓lm_3, ↓lm_4, ↓lm_5, ↓lm_6, ↓lm_7, ↓lm_8, ↓lm_9, ↓lm_10, ↓lm_11, li_0, li_1, li_2, li_3, li_4, li_5, li_6, li_7, li_8, li_9, li_10, li_11, li_12, li_13, li_14, li_15, li_16, li_17, li_18, li_19, li_20, li_21, li_22, li_23, li_24, li_25, li_26, li_27, li_28, li_29, li_30, li_31, li_32, li_33, li_34, li_35, li_36, li_37, li_38, li_39, li_40, li_41, li_42, li_43, li_44, li_45, li_46, li_47, li_48, li_49, li_50, li_51, li_52, li_53, li_54, li_55, li_56, li_57, li_58, li_59, li_60, li_61, li_62, li_63, li_64, li_65, li_66, li_96, li_97, li_99, li_100, li_122, li_125, li_126, li_140, li_255, li_256, li_999, li_1000, li_1001, li_1002, li_1100, li_1386, li_1452, li_1518, li_9999, li_1000000, hnote, bd_s, show gC (S2 (p + 9)) = 3 by rw [s9]; exact hc9, decide_true, ck_t, e7, bd2_s, ↓reduceIte, nm_eq, isB_0, st_self]
    · simp (disch := omega) only [f_X13_guard, f_X13_guard_0, f_X13_guard_29, ↓lm_1, ↓lm_2, ↓lm_3, ↓lm_4, ↓lm_5, ↓lm_6, ↓lm_7, ↓lm_8, ↓lm_9, ↓lm_10, ↓lm_11, li_0, li_1, li_2, li_3, li_4, li_5, li_6, li_7, li_8, li_9, li_10, li_11, li_12, li_13, li_14, li_15, li_16, li_17, li_18, li_19, li_20, li_21, li_22, li_23, li_24, li_25, li_26, li_27, li_28, li_29, li_30, li_31, li_32, li_33, li_34, li_35, li_36, li_37, li_38, li_39, li_40, li_41, li_42, li_43, li_44, li_45, li_46, li_47, li_48, li_49, li_50, li_51, li_52, li_53, li_54, li_55, li_56, li_57, li_58, li_59, li_60, li_61, li_62, li_63, li_64, li_65, li_66, li_96, li_97, li_99, li_100, li_122, li_125, li_126, li_140, li_255, li_256, li_999, li_1000, li_1001, li_1002, li_1100, li_1386, li_1452, li_1518, li_9999, li_1000000, nm_eq, w_out hx, bd_s, ↓reduceIte]
theorem r_night (hf : 1101 ≤ fu) (h : RR p S v) : ∃ z S' v', f_X12_night fu S p = some (z, S') ∧ f_X13_night fu v = some (z, v') ∧ RR p S' v' := by
  obtain ⟨A, hA, hC, hM⟩ := h
  obtain ⟨t, d, ln, dl, f, hP, hK⟩ := id hC
  obtain ⟨r, hr, sp, s9, s1, hg2⟩ := S2f hP hK
  have hnote := x12_note (fu := fu) hP hK hA
  rw [← hr] at hnote
  generalize hS2 : st S r (tkN (S r) (S (p + 9))) = S2 at *
  have hc9 : gC (S2 (p + 9)) = 3 := by rw [s9]; exact hP.1.2.2.1
  have hq := hA.2.1.1
  have hG := hA.1
  have hw2 : CH (S2 (p + 9)) (aQ A).1 := by rw [s9]; exact hK.1.1
  obtain ⟨w7, e7, ch7, l7⟩ := x3_passNight (fu := fu) hw2 hq
  obtain ⟨v7, ev, k7, x7, u7, p7, mh7, mg7⟩ := mkeeps hf hA hM (m1 v) rfl rfl
  obtain ⟨h', es, hmh⟩ := m_passes (v := v7) (b := 0) hf (by omega) hG mh7 hq
  rw [mb0] at es
  have ok := okq_night hq
  have f7 : fra (p + 9) S2 (st S2 (p + 9) w7) := fra_st (fra_refl _ _) (by rw [ch7.1, hc9]) l7
  have ch8 : CH (st S2 (p + 9) w7 (p + 9)) (pnight (aQ A).1) := by rw [st_same]; exact ch7
  obtain ⟨w9, ek⟩ : ∃ w9, f_X12_keepNoted fu (S2 p) = some w9 := by
    rw [sp]
    obtain ⟨k16, kf, k17, kp⟩ := hK.2.2.2.2.1
    exact ⟨_, x12_keepNoted k16 kf k17 hA.2.2.1.1⟩
  have hne : p ≠ p + 9 := by omega
  refine ⟨qt (pnight (aQ A).1), st (st S2 (p + 9) w7) p w9, mb v7 0 h', ?_, ?_, ⟨_, okA_op hA ok, RC_keep hP hK hA (by rw [← hr, hS2]; exact f7) ch8 (by rw [st_ne _ _ hne]; exact ek), ?_⟩⟩
  · simp (disch := omega) only [f_X12_night, f_X12_night_0, hnote, bd_s, ek, nm_eq, st_ne, hc9, decide_true, ck_t, e7, st_same, ch7.2.1]
    rw [st_comm _ _ _ hne]
  · have e0 : gA (mb v7 0 h') 24 0 = qt (pnight (aQ A).1) := by
      have := mb_rd (v := v7) (b := 0) (i := 0) (h := h') (by omega)
      rw [Nat.zero_add] at this
      rw [this]; exact hmh.1
    simp (disch := omega) only [f_X13_night, f_X13_night_0, ↓lm_1, ↓lm_2, ↓lm_3, ↓lm_4, ↓lm_5, ↓lm_6, ↓lm_7, ↓lm_8, ↓lm_9, ↓lm_10, ↓lm_11, li_0, li_1, li_2, li_3, li_4, li_5, li_6, li_7, li_8, li_9, li_10, li_11, li_12, li_13, li_14, li_15, li_16, li_17, li_18, li_19, li_20, li_21, li_22, li_23, li_24, li_25, li_26, li_27, li_28, li_29, li_30, li_31, li_32, li_33, li_34, li_35, li_36, li_37, li_38, li_39, li_40, li_41, li_42, li_43, li_44, li_45, li_46, li_47, li_48, li_49, li_50, li_51, li_52, li_53, li_54, li_55, li_56, li_57, li_58, li_59, li_60, li_61, li_62, li_63, li_64, li_65, li_66, li_96, li_97, li_99, li_100, li_122, li_125, li_126, li_140, li_255, li_256, li_999, li_1000, li_1001, li_1002, li_1100, li_1386, li_1452, li_1518, li_9999, li_1000000, nm_eq, ev, bd_s, es, nI_clamp, e0]
  · rw [← mv_self]; exact RM_keep hA hM ok k7 x7 u7 p7 hmh
theorem okA_undo {A : AP} {n : Nat} (hA : okA A) (hn : (aP A).1 = n + 1) : okA (mkA (aG A) ((aP A).2 n, (aQ A).2) (n, (aP A).2) (aM A) (aB A) (aL A) (aT A) (aN A)) := by
  obtain ⟨o1, o2, ⟨o3, o4⟩, o5, o7, o8, o9⟩ := hA
  exact ⟨o1, ⟨o4 n (by omega), o2.2⟩, ⟨by simp only [aG_mk, aQ_mk, aP_mk, aM_mk, aB_mk, aL_mk, aT_mk, aN_mk]; omega, fun i hi => o4 i (by simp only [aG_mk, aQ_mk, aP_mk, aM_mk, aB_mk, aL_mk, aT_mk, aN_mk] at hi; omega)⟩, o5, o7, o8, o9⟩
theorem r_undo (hf : 1101 ≤ fu) (h : RR p S v) : ∃ z S' v', f_X12_undo fu S p = some (z, S') ∧ f_X13_undo fu v = some (z, v') ∧ RR p S' v' := by
  obtain ⟨A, hA, hC, hM⟩ := h
  obtain ⟨t, d, ln, dl, f, hP, hK⟩ := id hC
  obtain ⟨k16, kf, k17, kp⟩ := id hK.2.2.2.2.1
  have h16 := hA.2.2.1.1
  have hc9 := hP.1.2.2.1
  have m25 : gI (sI v 0 (nI 0)) 25 = nI (aP A).1 := hM.2.2.2.1.1
  by_cases c : (aP A).1 = 0
  · refine ⟨nI 0, S, sI v 0 (nI 0), ?_, ?_, RR_q hA hC hM (scr_refl p S) (q1 v)⟩
    · have e : ¬ nI 0 < nI 0 := by decide
      simp only [f_X12_undo, f_X12_undo_0, ↓lm_1, ↓lm_2, ↓lm_3, ↓lm_4, ↓lm_5, ↓lm_6, ↓lm_7, ↓lm_8, ↓lm_9, ↓lm_10, ↓lm_11, li_0, li_1, li_2, li_3, li_4, li_5, li_6, li_7, li_8, li_9, li_10, li_11, li_12, li_13, li_14, li_15, li_16, li_17, li_18, li_19, li_20, li_21, li_22, li_23, li_24, li_25, li_26, li_27, li_28, li_29, li_30, li_31, li_32, li_33, li_34, li_35, li_36, li_37, li_38, li_39, li_40, li_41, li_42, li_43, li_44, li_45, li_46, li_47, li_48, li_49, li_50, li_51, li_52, li_53, li_54, li_55, li_56, li_57, li_58, li_59, li_60, li_61, li_62, li_63, li_64, li_65, li_66, li_96, li_97, li_99, li_100, li_122, li_125, li_126, li_140, li_255, li_256, li_999, li_1000, li_1001, li_1002, li_1100, li_1386, li_1452, li_1518, li_9999, li_1000000, k17, c, e, ↓reduceIte]
    · simp only [f_X13_undo, f_X13_undo_0, ↓lm_1, ↓lm_2, ↓lm_3, ↓lm_4, ↓lm_5, ↓lm_6, ↓lm_7, ↓lm_8, ↓lm_9, ↓lm_10, ↓lm_11, li_0, li_1, li_2, li_3, li_4, li_5, li_6, li_7, li_8, li_9, li_10, li_11, li_12, li_13, li_14, li_15, li_16, li_17, li_18, li_19, li_20, li_21, li_22, li_23, li_24, li_25, li_26, li_27, li_28, li_29, li_30, li_31, li_32, li_33, li_34, li_35, li_36, li_37, li_38, li_39, li_40, li_41, li_42, li_43, li_44, li_45, li_46, li_47, li_48, li_49, li_50, li_51, li_52, li_53, li_54, li_55, li_56, li_57, li_58, li_59, li_60, li_61, li_62, li_63, li_64, li_65, li_66, li_96, li_97, li_99, li_100, li_122, li_125, li_126, li_140, li_255, li_256, li_999, li_1000, li_1001, li_1002, li_1100, li_1386, li_1452, li_1518, li_9999, li_1000000, nm_eq, m25, c, ↓reduceIte]
  · obtain ⟨n, hn⟩ : ∃ n, (aP A).1 = n + 1 := ⟨(aP A).1 - 1, by omega⟩
    have hr : (f + n) % 17 < 17 := Nat.mod_lt _ (by decide)
    have c1 := hP.2.2.1 _ hr
    have h8 := (hA.2.2.1.2 n (by omega)).1.2.1
    have pos : nI 0 < nI (n + 1) := nI_lt (by omega) (by omega)
    have pr : f_X12_pastRow fu (sI (S p) 17 (nI n)) (nI n) = some (nI ((f + n) % 17)) := x12_pastRow (by rw [gI_sI, if_neg (by decide)]; exact k16) kf (by omega)
    have hne : p + 83 + 7 * ((f + n) % 17) ≠ p + 9 := by omega
    refine ⟨nI 1, st (st S p (sI (S p) 17 (nI n))) (p + 9) (tkN (S (p + 9)) (S (p + 83 + 7 * ((f + n) % 17)))), sAf (sI (sI v 0 (nI 0)) 25 (nI n)) 24 (va_cpy (gA v 24) (gA v 24) (66 * (5 + n)) 0 48), ?_, ?_, ⟨mkA (aG A) ((aP A).2 n, (aQ A).2) (n, (aP A).2) (aM A) (aB A) (aL A) (aT A) (aN A), okA_undo hA hn, ?_, ?_⟩⟩
    · have tk := x3_takeNights (fu := fu) (S := st S p (sI (S p) 17 (nI n))) hne
      simp (disch := omega) only [st_ne] at tk
      have gq : gQ (sI (S p) 17 (nI n)) 4 ((f + n) % 17) = some (p + 83 + 7 * ((f + n) % 17)) := c1.2
      simp (disch := omega) only [f_X12_undo, f_X12_undo_0, ↓lm_1, ↓lm_2, ↓lm_3, ↓lm_4, ↓lm_5, ↓lm_6, ↓lm_7, ↓lm_8, ↓lm_9, ↓lm_10, ↓lm_11, li_0, li_1, li_2, li_3, li_4, li_5, li_6, li_7, li_8, li_9, li_10, li_11, li_12, li_13, li_14, li_15, li_16, li_17, li_18, li_19, li_20, li_21, li_22, li_23, li_24, li_25, li_26, li_27, li_28, li_29, li_30, li_31, li_32, li_33, li_34, li_35, li_36, li_37, li_38, li_39, li_40, li_41, li_42, li_43, li_44, li_45, li_46, li_47, li_48, li_49, li_50, li_51, li_52, li_53, li_54, li_55, li_56, li_57, li_58, li_59, li_60, li_61, li_62, li_63, li_64, li_65, li_66, li_96, li_97, li_99, li_100, li_122, li_125, li_126, li_140, li_255, li_256, li_999, li_1000, li_1001, li_1002, li_1100, li_1386, li_1452, li_1518, li_9999, li_1000000, k17, hn, pos, ↓reduceIte, nm_eq, pk_sub, Nat.add_sub_cancel, st_ne, st_same, hc9, decide_true, ck_t, gI_sI, pr, bd_s, inb_n, nI_clamp, gq, c1.1, tk]
    · have e1 : ¬ nI (n + 1) = nI 0 := by rw [nI_eq (by omega) (by omega)]; omega
      have cp := m_copies (v := sI (sI v 0 (nI 0)) 25 (nI n)) hf (a := 66 * (5 + n)) (b := 0) (n := 48) (by omega) (by omega) (by omega) (by omega)
      rw [hn] at m25
      simp (disch := omega) only [f_X13_undo, f_X13_undo_0, ↓lm_1, ↓lm_2, ↓lm_3, ↓lm_4, ↓lm_5, ↓lm_6, ↓lm_7, ↓lm_8, ↓lm_9, ↓lm_10, ↓lm_11, li_0, li_1, li_2, li_3, li_4, li_5, li_6, li_7, li_8, li_9, li_10, li_11, li_12, li_13, li_14, li_15, li_16, li_17, li_18, li_19, li_20, li_21, li_22, li_23, li_24, li_25, li_26, li_27, li_28, li_29, li_30, li_31, li_32, li_33, li_34, li_35, li_36, li_37, li_38, li_39, li_40, li_41, li_42, li_43, li_44, li_45, li_46, li_47, li_48, li_49, li_50, li_51, li_52, li_53, li_54, li_55, li_56, li_57, li_58, li_59, li_60, li_61, li_62, li_63, li_64, li_65, li_66, li_96, li_97, li_99, li_100, li_122, li_125, li_126, li_140, li_255, li_256, li_999, li_1000, li_1001, li_1002, li_1100, li_1386, li_1452, li_1518, li_9999, li_1000000, nm_eq, m25, e1, ↓reduceIte, pk_sub, Nat.add_sub_cancel, gI_sI, nI_add, nI_mulN, cp, bd_s]
      rfl
    · refine RC_chg (f' := f) hP hK ?_ ?_ ?_ ?_ ?_ ?_ ?_
      · intro b x1 x2 _ _
        rw [st_ne _ _ x2, st_ne _ _ x1]; exact Or.inl rfl
      · intro b
        by_cases e : b = p + 9
        · subst e; rw [st_same, gC_tkN]
        · rw [st_ne _ _ e]
          by_cases e2 : b = p
          · subst e2; rw [st_same]; rfl
          · rw [st_ne _ _ e2]
      · intro k; rw [st_ne _ _ (by omega), st_same]; rfl
      · intro k; rw [st_ne _ _ (by omega), st_same]; rfl
      · rw [st_same]
        refine ⟨CH_tkN (kp n (by omega)) hc9 h8, ?_, ?_, ?_⟩ <;> rw [gI_tkN _ _ (by omega)]
        · exact hK.1.2.1
        · exact hK.1.2.2.1
        · exact hK.1.2.2.2
      · rw [st_ne _ _ (by omega), st_same]
        refine ⟨by rw [gI_sI, if_neg (by decide)]; exact k16, kf, by rw [gI_sI, if_pos rfl], fun i hi => ?_⟩
        have hi : i < n := hi
        have hi17 : (f + i) % 17 < 17 := Nat.mod_lt _ (by decide)
        rw [st_ne _ _ (by omega), st_ne _ _ (by omega)]
        exact kp i (by omega)
      · rw [st_ne _ _ (by omega), st_same]
        refine ⟨by rw [gI_sI, if_neg (by decide)]; exact hK.2.2.2.2.2.1.1, fun m hm hb => ?_⟩
        rw [st_ne _ _ (by omega), st_ne _ _ (by omega)]
        exact hK.2.2.2.2.2.1.2 m hm hb
    · refine RM_op hA hM (mop_sAf (mop_sI (m1 v) (by omega) (by omega)) (by omega)) ?_ ?_ ⟨rfl, fun i hi => ?_⟩
      · rw [gA_sAf]
        have := MH_cpy (f := gA v 24) (a := 66 * (5 + n)) (b := 0) (n := 48) h8 (by omega) (hM.2.2.2.1.2 n (by omega))
        simp only [Nat.zero_add] at this
        exact this
      · intro x h1 h2
        rw [gA_sAf, pk_cpy_out (by omega)]
      · have hi : i < n := hi
        simp only [gA_sAf]
        exact MH_cpo (c := 66 * (5 + i)) (hA.2.2.1.2 i (by omega)).1.2.1 (by omega) (hM.2.2.2.1.2 i (by omega))
end H
