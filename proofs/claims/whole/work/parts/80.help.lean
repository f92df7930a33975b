/-! ===== loops by what holds in them; bits; the model at its first block ===== -/
section LOOP
variable {A B C D E β : Type}
theorem lpI1 (F : (A → Option β) → A → Option β) (I : Nat → A → Prop) (Q : Option β → Prop) (e : Nat) (hx : ∀ a, I e a → ∃ r, Q r ∧ ∀ rec, F rec a = r) (hs : ∀ k a, k < e → I k a → (∃ a', I (k + 1) a' ∧ ∀ rec, F rec a = rec a') ∨ ∃ r, Q r ∧ ∀ rec, F rec a = r) : ∀ n i a, I i a → i ≤ e → e - i < n → ∃ r, Q r ∧ lq_1 F n a = r := by
  intro n
  induction n with
  | zero => intro i a _ _ h; omega
  | succ n ih =>
    intro i a hI hi hn
    by_cases q : i = e
    · subst q
      obtain ⟨r, hr, e⟩ := hx a hI
      exact ⟨r, hr, by rw [lq1_s]; exact e _⟩
    · rcases hs i a (by omega) hI with ⟨a', hI', e⟩ | ⟨r, hr, e⟩
      · obtain ⟨r, hr, er⟩ := ih (i + 1) a' hI' (by omega) (by omega)
        exact ⟨r, hr, by rw [lq1_s, e]; exact er⟩
      · exact ⟨r, hr, by rw [lq1_s]; exact e _⟩
theorem lpI2 (F : (A → B → Option β) → A → B → Option β) (I : Nat → A → B → Prop) (Q : Option β → Prop) (e : Nat) (hx : ∀ a b, I e a b → ∃ r, Q r ∧ ∀ rec, F rec a b = r) (hs : ∀ k a b, k < e → I k a b → (∃ a' b', I (k + 1) a' b' ∧ ∀ rec, F rec a b = rec a' b') ∨ ∃ r, Q r ∧ ∀ rec, F rec a b = r) : ∀ n i a b, I i a b → i ≤ e → e - i < n → ∃ r, Q r ∧ lq_2 F n a b = r := by
  intro n
  induction n with
  | zero => intro i a b _ _ h; omega
  | succ n ih =>
    intro i a b hI hi hn
    by_cases q : i = e
    · subst q
      obtain ⟨r, hr, e⟩ := hx a b hI
      exact ⟨r, hr, by rw [lq2_s]; exact e _⟩
    · rcases hs i a b (by omega) hI with ⟨a', b', hI', e⟩ | ⟨r, hr, e⟩
      · obtain ⟨r, hr, er⟩ := ih (i + 1) a' b' hI' (by omega) (by omega)
        exact ⟨r, hr, by rw [lq2_s, e]; exact er⟩
      · exact ⟨r, hr, by rw [lq2_s]; exact e _⟩
theorem lpI3 (F : (A → B → C → Option β) → A → B → C → Option β) (I : Nat → A → B → C → Prop) (Q : Option β → Prop) (e : Nat) (hx : ∀ a b c, I e a b c → ∃ r, Q r ∧ ∀ rec, F rec a b c = r) (hs : ∀ k a b c, k < e → I k a b c → (∃ a' b' c', I (k + 1) a' b' c' ∧ ∀ rec, F rec a b c = rec a' b' c') ∨ ∃ r, Q r ∧ ∀ rec, F rec a b c = r) : ∀ n i a b c, I i a b c → i ≤ e → e - i < n → ∃ r, Q r ∧ lq_3 F n a b c = r := by
  intro n
  induction n with
  | zero => intro i a b c _ _ h; omega
  | succ n ih =>
    intro i a b c hI hi hn
    by_cases q : i = e
    · subst q
      obtain ⟨r, hr, e⟩ := hx a b c hI
      exact ⟨r, hr, by rw [lq3_s]; exact e _⟩
    · rcases hs i a b c (by omega) hI with ⟨a', b', c', hI', e⟩ | ⟨r, hr, e⟩
      · obtain ⟨r, hr, er⟩ := ih (i + 1) a' b' c' hI' (by omega) (by omega)
        exact ⟨r, hr, by rw [lq3_s, e]; exact er⟩
      · exact ⟨r, hr, by rw [lq3_s]; exact e _⟩
theorem lpI4 (F : (A → B → C → D → Option β) → A → B → C → D → Option β) (I : Nat → A → B → C → D → Prop) (Q : Option β → Prop) (e : Nat) (hx : ∀ a b c d, I e a b c d → ∃ r, Q r ∧ ∀ rec, F rec a b c d = r) (hs : ∀ k a b c d, k < e → I k a b c d → (∃ a' b' c' d', I (k + 1) a' b' c' d' ∧ ∀ rec, F rec a b c d = rec a' b' c' d') ∨ ∃ r, Q r ∧ ∀ rec, F rec a b c d = r) : ∀ n i a b c d, I i a b c d → i ≤ e → e - i < n → ∃ r, Q r ∧ lq_4 F n a b c d = r := by
  intro n
  induction n with
  | zero => intro i a b c d _ _ h; omega
  | succ n ih =>
    intro i a b c d hI hi hn
    by_cases q : i = e
    · subst q
      obtain ⟨r, hr, e⟩ := hx a b c d hI
      exact ⟨r, hr, by rw [lq4_s]; exact e _⟩
    · rcases hs i a b c d (by omega) hI with ⟨a', b', c', d', hI', e⟩ | ⟨r, hr, e⟩
      · obtain ⟨r, hr, er⟩ := ih (i + 1) a' b' c' d' hI' (by omega) (by omega)
        exact ⟨r, hr, by rw [lq4_s, e]; exact er⟩
      · exact ⟨r, hr, by rw [lq4_s]; exact e _⟩
end LOOP
theorem bt_tb (x k : Nat) : bt x k = 1 ↔ x.testBit k = true := by
  rw [Nat.testBit_eq_decide_div_mod_eq, decide_eq_true_iff]; rfl
theorem bt_01 (x k : Nat) : bt x k = 0 ∨ bt x k = 1 := by have := bt_lt x k; omega
theorem bt_0 (x k : Nat) : bt x k = 0 ↔ x.testBit k = false := by
  have h := bt_tb x k
  rcases bt_01 x k with e | e
  · rw [e] at h ⊢
    cases c : x.testBit k
    · simp
    · rw [c] at h; simp at h
  · rw [h.mp e, e]; simp
theorem tb_setb (P : Nat → Bool) : ∀ n k, (setb P n).testBit k = (decide (k < n) && P k) := by
  intro n
  induction n with
  | zero => intro k; simp [setb]
  | succ n ih =>
    intro k
    simp only [setb]
    split
    · rename_i h
      rw [Nat.testBit_or, ih, Nat.testBit_two_pow]
      by_cases e : n = k
      · subst e; simp [h]
      · have : k < n + 1 ↔ k < n := by omega
        simp [e, this]
    · rename_i h
      rw [ih]
      by_cases e : n = k
      · subst e; simp [h]
      · have : k < n + 1 ↔ k < n := by omega
        simp [this]
theorem bt_setb (P : Nat → Bool) (n k : Nat) : bt (setb P n) k = if k < n ∧ P k = true then 1 else 0 := by
  split
  · rename_i h; rw [bt_tb, tb_setb]; simp [h]
  · rename_i h; rw [bt_0, tb_setb]
    by_cases c : k < n
    · have : ¬ P k = true := fun q => h ⟨c, q⟩
      simp [this]
    · simp [c]
/-- how many are so -/
def cnt (P : Nat → Bool) : Nat → Nat
  | 0 => 0
  | k + 1 => if P k = true then cnt P k + 1 else cnt P k
theorem cnt_le (P : Nat → Bool) (n : Nat) : cnt P n ≤ n := by
  induction n with
  | zero => exact Nat.le_refl _
  | succ n ih => simp only [cnt]; split <;> omega
theorem bs_setb (P : Nat → Bool) (n : Nat) : ∀ k, bs (setb P n) k = cnt P (min k n) := by
  intro k
  induction k with
  | zero => simp [bs, cnt]
  | succ k ih =>
    rw [bs, ih, bt_setb]
    by_cases c : k < n
    · rw [show min k n = k by omega, show min (k + 1) n = k + 1 by omega, cnt]
      by_cases h : P k = true
      · rw [if_pos ⟨c, h⟩, if_pos h]
      · rw [if_neg (fun q => h q.2), if_neg h]; rfl
    · rw [show min k n = n by omega, show min (k + 1) n = n by omega, if_neg (fun q => c q.1)]; rfl
theorem pcn_setb (P : Nat → Bool) {n : Nat} (h : n ≤ 30) : pcn (setb P n) = cnt P n := by
  rw [pcn, bs_setb, show min 30 n = n by omega]
theorem ne_of {x : Int32} {n : Nat} (hx : ¬ ∃ j, j < n ∧ x = nI j) {k : Nat} (hk : k < n) : ¬ x = nI k := fun e => hx ⟨k, hk, e⟩
theorem tb256 {a : Nat} (h : a < 256) {k : Nat} (hk : 8 ≤ k) : a.testBit k = false := by
  apply Nat.testBit_lt_two_pow
  exact Nat.lt_of_lt_of_le h (Nat.pow_le_pow_right (n := 2) (by decide) hk)
/-- a has no bit that b hasn't -/
theorem andn0 {a b : Nat} (ha : a < 2147483648) (hb : b < 2147483648) : nI a &&& (nI b ^^^ mI 1) = nI 0 ↔ ∀ k, a.testBit k = true → b.testBit k = true := by
  have e : (nI a &&& (nI b ^^^ mI 1)).toBitVec = BitVec.ofNat 32 a &&& (BitVec.ofNat 32 b ^^^ BitVec.allOnes 32) := by
    rw [Int32.toBitVec_and, Int32.toBitVec_xor]; rfl
  constructor
  · intro h k hk
    have h31 : k < 32 := by
      apply Classical.byContradiction
      intro c
      rw [Nat.testBit_lt_two_pow (Nat.lt_of_lt_of_le ha (Nat.pow_le_pow_right (n := 2) (by decide) (show 31 ≤ k by omega)))] at hk
      exact absurd hk (by decide)
    have h2 : (nI a &&& (nI b ^^^ mI 1)).toBitVec = (nI 0).toBitVec := by rw [h]
    rw [e] at h2
    have h3 := congrArg (fun x => BitVec.getLsbD x k) h2
    have z : (nI 0).toBitVec.getLsbD k = false := by
      show (BitVec.ofNat 32 0).getLsbD k = false
      simp
    simp only [BitVec.getLsbD_and, BitVec.getLsbD_xor, BitVec.getLsbD_ofNat, BitVec.getLsbD_allOnes, h31, hk, z, decide_true, Bool.true_and, Bool.xor_true, Bool.not_eq_false'] at h3
    simpa using h3
  · intro h
    apply Int32.toBitVec_inj.mp
    rw [e]
    apply BitVec.eq_of_getLsbD_eq
    intro k hk
    have z : (nI 0).toBitVec.getLsbD k = false := by
      show (BitVec.ofNat 32 0).getLsbD k = false
      simp
    rw [z]
    simp only [BitVec.getLsbD_and, BitVec.getLsbD_xor, BitVec.getLsbD_ofNat, BitVec.getLsbD_allOnes, hk, decide_true, Bool.true_and, Bool.xor_true]
    cases c : a.testBit k
    · rfl
    · rw [h k c]; rfl
section M0
variable {fu : Nat} {v : GV} {G : GP} {q : HP} {t p r s : Nat}
theorem mb0 {v : GV} : mb v 0 (gA v 24) = v := by
  have := mb_self (v := v) (b := 0)
  simp only [Nat.zero_add] at this
  exact this
theorem w_in {j n : Nat} (hj : j ≤ n) (hn : n ≤ 100000) : f_X13_within fu (nI j) (nI 0) (nI n) = some (nI 1) := by
  simp only [f_X13_within_14, f_X13_within_0, f_X13_within, ↓lm_1, ↓lm_2, ↓lm_3, ↓lm_4, ↓lm_5, ↓lm_6, ↓lm_7, ↓lm_8, ↓lm_9, ↓lm_10, ↓lm_11, li_0, li_1, li_2, li_3, li_4, li_5, li_6, li_7, li_8, li_9, li_10, li_11, li_12, li_13, li_14, li_15, li_16, li_17, li_18, li_19, li_20, li_21, li_22, li_23, li_24, li_25, li_26, li_27, li_28, li_29, li_30, li_31, li_32, li_33, li_34, li_35, li_36, li_37, li_38, li_39, li_40, li_41, li_42, li_43, li_44, li_45, li_46, li_47, li_48, li_49, li_50, li_51, li_52, li_53, li_54, li_55, li_56, li_57, li_58, li_59, li_60, li_61, li_62, li_63, li_64, li_65, li_66, li_96, li_97, li_99, li_100, li_122, li_125, li_126, li_140, li_255, li_256, li_999, li_1000, li_1001, li_1002, li_1100, li_1386, li_1452, li_1518, li_9999, li_1000000]
  exact wi_in hj hn _ _
theorem w_out {x : Int32} {n : Nat} (hx : ¬ ∃ j, j < n + 1 ∧ x = nI j) (hn : n ≤ 100000) : f_X13_within fu x (nI 0) (nI n) = some (nI 0) := by
  simp only [f_X13_within_14, f_X13_within_0, f_X13_within, ↓lm_1, ↓lm_2, ↓lm_3, ↓lm_4, ↓lm_5, ↓lm_6, ↓lm_7, ↓lm_8, ↓lm_9, ↓lm_10, ↓lm_11, li_0, li_1, li_2, li_3, li_4, li_5, li_6, li_7, li_8, li_9, li_10, li_11, li_12, li_13, li_14, li_15, li_16, li_17, li_18, li_19, li_20, li_21, li_22, li_23, li_24, li_25, li_26, li_27, li_28, li_29, li_30, li_31, li_32, li_33, li_34, li_35, li_36, li_37, li_38, li_39, li_40, li_41, li_42, li_43, li_44, li_45, li_46, li_47, li_48, li_49, li_50, li_51, li_52, li_53, li_54, li_55, li_56, li_57, li_58, li_59, li_60, li_61, li_62, li_63, li_64, li_65, li_66, li_96, li_97, li_99, li_100, li_122, li_125, li_126, li_140, li_255, li_256, li_999, li_1000, li_1001, li_1002, li_1100, li_1386, li_1452, li_1518, li_9999, li_1000000]
  rw [← li_0]
  rcases pk_ix x (n := n + 1) (by omega) with h | h | h
  · rw [if_pos h]
  · have e : nI n < x := by
      rw [Int32.lt_iff_toInt_lt, nI_toInt (by omega)]
      rw [Int32.le_iff_toInt_le, nI_toInt (by omega)] at h
      omega
    rw [if_pos e]; split <;> rfl
  · exact absurd h hx
theorem m0_isPiece_in (hh : MH (gA v 24) q) (hq : okq G q) (hp : p < qn q) : f_X13_isPiece fu v (nI 0) (nI p) = some (nI 1) := by
  have := m_isPiece_in (fu := fu) (v := v) (b := 0) (by omega) hh hq hp
  rwa [mb0] at this
theorem m0_isPiece_out (hh : MH (gA v 24) q) (hq : okq G q) {x : Int32} (hx : ¬ ∃ j, j < qn q ∧ x = nI j) : f_X13_isPiece fu v (nI 0) x = some (nI 0) := by
  have := m_isPiece_out (fu := fu) (v := v) (b := 0) (by omega) hh hq hx
  rwa [mb0] at this
theorem m0_hanging (hf : 1101 ≤ fu) (hG : okG G) (hh : MH (gA v 24) q) (hq : okq G q) : f_X13_hanging fu v (nI 0) = some (nI (qj q)) := by
  have := m_hanging (fu := fu) (v := v) (b := 0) hf (by omega) hG hh hq
  rwa [mb0] at this
theorem m0_hasOf (hf : 1101 ≤ fu) (hG : okG G) (hh : MH (gA v 24) q) (hq : okq G q) (ht : t < 100) : f_X13_hasOf fu v (nI 0) (nI t) = some (nI (hasq q t)) := by
  have := m_hasOf (fu := fu) (v := v) (b := 0) hf (by omega) hG hh hq ht
  rwa [mb0] at this
theorem m0_coinsOf (hf : 1101 ≤ fu) (hM : MG v G) (hG : okG G) (hh : MH (gA v 24) q) (hq : okq G q) : f_X13_coinsOf fu v (nI 0) = some (csum (qc q) 5) := by
  have := m_coinsOf (fu := fu) (v := v) (b := 0) hf (by omega) hM hG hh hq
  rwa [mb0] at this
theorem m0_worthOf (hf : 1101 ≤ fu) (hM : MG v G) (hh : MH (gA v 24) q) (hq : okq G q) (hp : p < qn q) : ∃ F P, f_X13_worthOf fu v (nI 0) (nI p) = some (wof G q p, mv v 0 F P (gA v 24)) := by
  have := m_worthOf (fu := fu) (v := v) (b := 0) hf (by omega) hM hh hq hp
  rwa [mb0] at this
theorem m0_hardOf (hf : 1101 ≤ fu) (hM : MG v G) (hh : MH (gA v 24) q) (hq : okq G q) (hp : p < qn q) : ∃ F P, f_X13_hardOf fu v (nI 0) (nI p) (nI s) = some (hof G q p s, mv v 0 F P (gA v 24)) := by
  have := m_hardOf (fu := fu) (v := v) (b := 0) (s := s) hf (by omega) hM hh hq hp
  rwa [mb0] at this
theorem m0_distanceOf (hf : 1101 ≤ fu) (hh : MH (gA v 24) q) (hq : okq G q) (hp : p < qn q) (hr : r < qn q) : f_X13_distanceOf fu v (nI p) (nI r) = some (nI (pcn (qo q p ^^^ qo q r))) := by
  have h8 := hq.1.2.1
  have b1 := (hq.2.1 p hp).1
  have b2 := (hq.2.1 r hr).1
  have b3 := xor256 b1 b2
  simp (disch := omega) only [f_X13_distanceOf, f_X13_distanceOf_0, ↓lm_1, ↓lm_2, ↓lm_3, ↓lm_4, ↓lm_5, ↓lm_6, ↓lm_7, ↓lm_8, ↓lm_9, ↓lm_10, ↓lm_11, li_0, li_1, li_2, li_3, li_4, li_5, li_6, li_7, li_8, li_9, li_10, li_11, li_12, li_13, li_14, li_15, li_16, li_17, li_18, li_19, li_20, li_21, li_22, li_23, li_24, li_25, li_26, li_27, li_28, li_29, li_30, li_31, li_32, li_33, li_34, li_35, li_36, li_37, li_38, li_39, li_40, li_41, li_42, li_43, li_44, li_45, li_46, li_47, li_48, li_49, li_50, li_51, li_52, li_53, li_54, li_55, li_56, li_57, li_58, li_59, li_60, li_61, li_62, li_63, li_64, li_65, li_66, li_96, li_97, li_99, li_100, li_122, li_125, li_126, li_140, li_255, li_256, li_999, li_1000, li_1001, li_1002, li_1100, li_1386, li_1452, li_1518, li_9999, li_1000000, nI_add, nm_eq, inb_n, ck_t, nI_clamp, (hh.2.2.2.1 p hp).1, (hh.2.2.2.1 r hr).1, nI_xorN, x13_bits (show 31 ≤ fu by omega) (show qo q p ^^^ qo q r < 1073741824 by omega), bd_s]
end M0
theorem RR_q {p : Nat} {S S' : ST} {v v' : GV} {A : AP} (hA : okA A) (hC : RC p S A) (hM : RM v A) (hs : scr p S S') (hm : mscr v v') : RR p S' v' := ⟨A, hA, RC_scr hC hs, RM_mscr hA hM hm⟩
