/-! ===== watch: the fewest hours, of these the least, that see all thieves but some ===== -/
def ky (m : Nat) : Nat := pcn m * 16777216 + m
def seen (G : GP) (m : Nat) : Nat := setb (fun t => decide (hr G t &&& m ≠ 0)) (nt G)
def atb (G : GP) (h : Nat) : Nat := setb (fun t => decide (bt (hr G t) h = 1)) (nt G)
def unb (G : GP) (m k : Nat) : Nat := cnt (fun t => decide (hr G t &&& m = 0)) k
theorem ky_inj {a b : Nat} (ha : a < 16777216) (hb : b < 16777216) (h : ky a = ky b) : a = b := by
  unfold ky at h; omega
theorem sub_le {a b : Nat} (h : ∀ j, a.testBit j = true → b.testBit j = true) : a ≤ b := by
  rw [← (subs_tb b a).mpr h]; exact Nat.and_le_left
theorem ky_sub {a b : Nat} (h : ∀ j, a.testBit j = true → b.testBit j = true) : ky a ≤ ky b := by
  have h1 := sub_le h
  have h2 : pcn a ≤ pcn b := bs_sub h 30
  exact Nat.add_le_add (Nat.mul_le_mul_right 16777216 h2) h1
theorem pcn_or {m h : Nat} (hm : m < 2 ^ h) (hh : h < 30) : pcn (m ||| 2 ^ h) = pcn m + 1 := by
  have key : ∀ k, bs (m ||| 2 ^ h) k = bs m k + (if h < k then 1 else 0) := by
    intro k
    induction k with
    | zero => rfl
    | succ k ih =>
      simp only [bs]
      rw [ih]
      by_cases e : h = k
      · subst e
        have e1 : bt (m ||| 2 ^ h) h = 1 := (bt_or_p2 m h h).mpr (Or.inr rfl)
        have e2 : bt m h = 0 := (bt_0 m h).mpr (Nat.testBit_lt_two_pow hm)
        rw [e1, e2, if_neg (by omega), if_pos (by omega)]
      · rw [bt_or_ne e]
        by_cases c : h < k
        · rw [if_pos c, if_pos (by omega)]; omega
        · rw [if_neg c, if_neg (by omega)]; omega
  rw [pcn, key, if_pos hh]; rfl
theorem ky_or {m h : Nat} (hm : m < 2 ^ h) (hh : h < 24) : ky (m ||| 2 ^ h) = ky m + 16777216 + 2 ^ h := by
  rw [ky, pcn_or hm (by omega), Nat.or_two_pow_eq_add_of_lt hm, ky]; omega
theorem seen_or (G : GP) (m h : Nat) : seen G (m ||| 2 ^ h) = seen G m ||| atb G h := by
  apply Nat.eq_of_testBit_eq
  intro t
  rw [Nat.testBit_or, seen, seen, atb, tb_setb, tb_setb, tb_setb]
  have := dis_or (hr G t) m h
  by_cases c1 : hr G t &&& m = 0
  · rcases bt_01 (hr G t) h with c2 | c2
    · simp [this.mpr ⟨c1, c2⟩, c1, c2]
    · have : ¬ (hr G t &&& (m ||| 2 ^ h) = 0) := fun q => by have := (this.mp q).2; omega
      simp [this, c1, c2]
  · have : ¬ (hr G t &&& (m ||| 2 ^ h) = 0) := fun q => c1 (this.mp q).1
    simp only [this, c1, ne_eq, not_false_eq_true, decide_true, Bool.and_true]
    cases decide (t < nt G) <;> simp
theorem s32 (P : Nat → Bool) {n : Nat} (h : n ≤ 5) : setb P n < 32 := Nat.lt_of_lt_of_le (setb_lt P n) (Nat.pow_le_pow_right (n := 2) (by decide) h)
theorem seen_lt {G : GP} (hG : okG G) (m : Nat) : seen G m < 32 := s32 _ hG.2.1
theorem atb_lt {G : GP} (hG : okG G) (h : Nat) : atb G h < 32 := s32 _ hG.2.1
theorem cnt_not (P : Nat → Bool) : ∀ n, cnt P n + cnt (fun k => !P k) n = n := by
  intro n
  induction n with
  | zero => rfl
  | succ n ih =>
    simp only [cnt]
    by_cases c : P n = true
    · rw [if_pos c, if_neg (by rw [c]; decide)]; omega
    · have c' : P n = false := by simpa using c
      rw [if_neg c, if_pos (by rw [c']; rfl)]; omega
theorem cnt_congr {P Q : Nat → Bool} : ∀ n, (∀ k, k < n → P k = Q k) → cnt P n = cnt Q n := by
  intro n
  induction n with
  | zero => intro _; rfl
  | succ n ih => intro h; simp only [cnt]; rw [ih (fun k hk => h k (by omega)), h n (by omega)]
theorem cnt_mono (P : Nat → Bool) {m n : Nat} (h : m ≤ n) : cnt P m ≤ cnt P n := by
  induction n with
  | zero => rw [show m = 0 by omega]; exact Nat.le_refl _
  | succ n ih =>
    by_cases c : m = n + 1
    · rw [c]; exact Nat.le_refl _
    · have := ih (by omega)
      simp only [cnt]; split <;> omega
theorem cnt_imp {P Q : Nat → Bool} : ∀ n, (∀ k, k < n → P k = true → Q k = true) → cnt P n ≤ cnt Q n := by
  intro n
  induction n with
  | zero => intro _; exact Nat.le_refl _
  | succ n ih =>
    intro h
    have := ih (fun k hk => h k (by omega))
    simp only [cnt]
    by_cases c : P n = true
    · rw [if_pos c, if_pos (h n (by omega) c)]; omega
    · rw [if_neg c]; split <;> omega
theorem pcn_seen {G : GP} (hG : okG G) (m : Nat) : pcn (seen G m) + unb G m (nt G) = nt G := by
  have h5 := hG.2.1
  have h1 := cnt_not (fun t => decide (hr G t &&& m ≠ 0)) (nt G)
  have h2 : cnt (fun t => decide (hr G t &&& m = 0)) (nt G) = cnt (fun k => !decide (hr G k &&& m ≠ 0)) (nt G) := by
    refine cnt_congr _ (fun k _ => ?_)
    by_cases c : hr G k &&& m = 0 <;> simp [c]
  rw [seen, pcn_setb _ (by omega), unb, h2]
  exact h1
theorem unb_s (G : GP) (m k : Nat) : unb G m (k + 1) = if hr G k &&& m = 0 then unb G m k + 1 else unb G m k := by
  simp only [unb, cnt, decide_eq_true_eq]
theorem unb_anti (G : GP) {a b : Nat} (h : ∀ j, a.testBit j = true → b.testBit j = true) (k : Nat) : unb G b k ≤ unb G a k := by
  refine cnt_imp _ (fun t _ ht => ?_)
  have ht := of_decide_eq_true ht
  refine decide_eq_true ?_
  rw [disj_tb] at ht ⊢
  exact fun j hj => ht j (h j hj)
theorem and_ne {a b : Nat} (h : a &&& b ≠ 0) : ∃ j, a.testBit j = true ∧ b.testBit j = true := by
  apply Classical.byContradiction
  intro c
  apply h
  rw [disj_tb]
  intro j hj
  cases q : a.testBit j
  · rfl
  · exact absurd ⟨j, q, hj⟩ c
theorem ne_and {a b j : Nat} (h1 : a.testBit j = true) (h2 : b.testBit j = true) : a &&& b ≠ 0 := by
  intro q
  rw [disj_tb] at q
  rw [q j h2] at h1
  exact absurd h1 (by decide)
/-- the answer -/
def okW (G : GP) (but b : Nat) : Prop := b < 16777216 ∧ unb G b (nt G) ≤ but ∧ ∀ m, m < 16777216 → unb G m (nt G) ≤ but → ky b ≤ ky m
theorem okW_one {G : GP} {but a b : Nat} (ha : okW G but a) (hb : okW G but b) : a = b := ky_inj ha.1 hb.1 (Nat.le_antisymm (ha.2.2 b hb.1 hb.2.1) (hb.2.2 a ha.1 ha.2.1))
theorem all_h {G : GP} (hG : okG G) : unb G 16777215 (nt G) = 0 := by
  have : ∀ k, k ≤ nt G → unb G 16777215 k = 0 := by
    intro k
    induction k with
    | zero => intro _; rfl
    | succ k ih =>
      intro hk
      rw [unb_s, if_neg, ih (by omega)]
      rw [show (16777215 : Nat) = 2 ^ 24 - 1 from rfl, Nat.and_two_pow_sub_one_eq_mod]
      have := (hG.2.2.2.1 k (by omega)).2.2
      omega
  exact this _ (Nat.le_refl _)
/-! the class: hour by hour -/
def wH (G : GP) (h : Nat) (W : Nat → Option Nat) : Prop := (∀ s m, s < 32 → W s = some m → m < 2 ^ h ∧ seen G m = s) ∧ ∀ m, m < 2 ^ h → ∃ w, W (seen G m) = some w ∧ ky w ≤ ky m
def wI (G : GP) (h s : Nat) (W : Nat → Option Nat) : Prop := (∀ s' m, s' < 32 → W s' = some m → m < 2 ^ (h + 1) ∧ seen G m = s') ∧ (∀ m, m < 2 ^ h → ∃ w, W (seen G m) = some w ∧ ky w ≤ ky m) ∧ ∀ m, m < 2 ^ h → seen G m < s → ∃ w, W (seen G m ||| atb G h) = some w ∧ ky w ≤ ky (m ||| 2 ^ h)
def upW (W : Nat → Option Nat) (k : Nat) (x : Option Nat) : Nat → Option Nat := fun j => if j = k then x else W j
section W
variable {G : GP} {h s : Nat} {W : Nat → Option Nat}
theorem wI_0 (H : wH G h W) : wI G h 0 W := by
  refine ⟨fun s' m h1 h2 => ⟨?_, (H.1 s' m h1 h2).2⟩, H.2, fun m _ c => by omega⟩
  have := (H.1 s' m h1 h2).1
  rw [Nat.pow_succ]; omega
theorem wI_32 (hG : okG G) (H : wI G h 32 W) : wH G (h + 1) W := by
  refine ⟨H.1, fun m hm => ?_⟩
  by_cases c : m < 2 ^ h
  · exact H.2.1 m c
  · have h2 : 2 ^ (h + 1) = 2 ^ h + 2 ^ h := by rw [Nat.pow_succ]; omega
    have hm' : m - 2 ^ h < 2 ^ h := by omega
    have e : m = (m - 2 ^ h) ||| 2 ^ h := by rw [Nat.or_two_pow_eq_add_of_lt hm']; omega
    obtain ⟨w, h3, h4⟩ := H.2.2 _ hm' (seen_lt hG _)
    refine ⟨w, ?_, ?_⟩
    · rw [e, seen_or]; exact h3
    · rw [← e] at h4; exact h4
theorem wI_none (H : wI G h s W) (hs : W s = none) : wI G h (s + 1) W := by
  refine ⟨H.1, H.2.1, fun m hm c => ?_⟩
  by_cases e : seen G m = s
  · obtain ⟨w, h1, _⟩ := H.2.1 m hm
    rw [e, hs] at h1; cases h1
  · exact H.2.2 m hm (by omega)
theorem w_or (H : wI G h s W) (h24 : h < 24) (hs32 : s < 32) {w : Nat} (hs : W s = some w) : ∀ m, m < 2 ^ h → seen G m = s → ky (w ||| 2 ^ h) ≤ ky (m ||| 2 ^ h) := by
  intro m hm e
  obtain ⟨w', h1, h2⟩ := H.2.1 m hm
  rw [e, hs] at h1
  cases h1
  by_cases c : w < 2 ^ h
  · rw [ky_or c h24, ky_or hm h24]; omega
  · have hw := (H.1 s w hs32 hs).1
    have h3 : 2 ^ (h + 1) = 2 ^ h + 2 ^ h := by rw [Nat.pow_succ]; omega
    have hw' : w - 2 ^ h < 2 ^ h := by omega
    have e2 : w = (w - 2 ^ h) ||| 2 ^ h := by rw [Nat.or_two_pow_eq_add_of_lt hw']; omega
    have e3 : w ||| 2 ^ h = w := by
      rw [e2, Nat.or_assoc, Nat.or_self]
    rw [e3, ky_or hm h24]; omega
theorem wI_keep (H : wI G h s W) (h24 : h < 24) (hs32 : s < 32) {w b : Nat} (hs : W s = some w) (hb : W (s ||| atb G h) = some b) (hk : ky b ≤ ky (w ||| 2 ^ h)) : wI G h (s + 1) W := by
  refine ⟨H.1, H.2.1, fun m hm c => ?_⟩
  by_cases e : seen G m = s
  · have := w_or H h24 hs32 hs m hm e
    exact ⟨b, by rw [e]; exact hb, by omega⟩
  · exact H.2.2 m hm (by omega)
theorem wI_put (H : wI G h s W) (h24 : h < 24) (hs32 : s < 32) {w : Nat} (hs : W s = some w) (hb : ∀ b, W (s ||| atb G h) = some b → ky (w ||| 2 ^ h) < ky b) : wI G h (s + 1) (upW W (s ||| atb G h) (some (w ||| 2 ^ h))) := by
  have hw := H.1 s w hs32 hs
  refine ⟨fun s' m h1 h2 => ?_, fun m hm => ?_, fun m hm c => ?_⟩
  · unfold upW at h2
    by_cases e : s' = s ||| atb G h
    · rw [if_pos e] at h2
      cases h2
      refine ⟨Nat.or_lt_two_pow hw.1 ?_, ?_⟩
      · exact Nat.pow_lt_pow_right (by decide) (by omega)
      · rw [seen_or, hw.2, e]
    · rw [if_neg e] at h2; exact H.1 s' m h1 h2
  · obtain ⟨w', h1, h2⟩ := H.2.1 m hm
    by_cases e : seen G m = s ||| atb G h
    · rw [e] at h1
      have := hb w' h1
      exact ⟨w ||| 2 ^ h, by rw [upW, if_pos e], by omega⟩
    · exact ⟨w', by rw [upW, if_neg e]; exact h1, h2⟩
  · by_cases e : seen G m = s
    · exact ⟨w ||| 2 ^ h, by rw [upW, if_pos (by rw [e])], w_or H h24 hs32 hs m hm e⟩
    · obtain ⟨w', h1, h2⟩ := H.2.2 m hm (by omega)
      by_cases e2 : seen G m ||| atb G h = s ||| atb G h
      · rw [e2] at h1
        have := hb w' h1
        exact ⟨w ||| 2 ^ h, by rw [upW, if_pos e2], by omega⟩
      · exact ⟨w', by rw [upW, if_neg e2]; exact h1, h2⟩
end W
theorem lpC2 {A B A' B' β : Type} (F : (A' → B' → Option β) → (A → B → Option β) → A → B → Option β) (I : Nat → A → B → Prop) (Q : A' → B' → Prop) (e : Nat) (hx : ∀ a b, I e a b → ∃ a' b', Q a' b' ∧ ∀ k rec, F k rec a b = k a' b') (hs : ∀ j a b, j < e → I j a b → ∃ a' b', I (j + 1) a' b' ∧ ∀ k rec, F k rec a b = rec a' b') : ∀ n i a b, I i a b → i ≤ e → e - i < n → ∃ a' b', Q a' b' ∧ ∀ k, lq_2 (F k) n a b = k a' b' := by
  intro n
  induction n with
  | zero => intro i a b _ _ h; omega
  | succ n ih =>
    intro i a b hI hi hn
    by_cases q : i = e
    · subst q
      obtain ⟨a', b', hq, e⟩ := hx a b hI
      exact ⟨a', b', hq, fun k => by rw [lq2_s]; exact e k _⟩
    · obtain ⟨a1, b1, hI', e⟩ := hs i a b (by omega) hI
      obtain ⟨a', b', hq, er⟩ := ih (i + 1) a1 b1 hI' (by omega) (by omega)
      exact ⟨a', b', hq, fun k => by rw [lq2_s, e]; exact er k⟩
theorem shl0 {k : Nat} (hk : k < 32) : nI 0 <<< nI k = nI 0 := by
  have h : (List.range 32).all (fun k => decide (nI 0 <<< nI k = nI 0)) = true := by decide +kernel
  exact co_dec h hk
theorem x1_thievesAt {fu g h : Nat} {S : ST} {G : GP} (hf : 1101 ≤ fu) (hG : okG G) (hg : CG S g G) (hh : h < 24) : f_X1_thievesAt fu (S g) (nI h) = some (nI (atb G h)) := by
  have h5 := hG.2.1
  simp only [f_X1_thievesAt, f_X1_thievesAt_0, f_X1_thievesAt_4, ↓lm_1, ↓lm_2, ↓lm_3, ↓lm_4, ↓lm_5, ↓lm_6, ↓lm_7, ↓lm_8, ↓lm_9, ↓lm_10, ↓lm_11, li_0, li_1, li_2, li_3, li_4, li_5, li_6, li_7, li_8, li_9, li_10, li_11, li_12, li_13, li_14, li_15, li_16, li_17, li_18, li_19, li_20, li_21, li_22, li_23, li_24, li_25, li_26, li_27, li_28, li_29, li_30, li_31, li_32, li_33, li_34, li_35, li_36, li_37, li_38, li_39, li_40, li_41, li_42, li_43, li_44, li_45, li_46, li_47, li_48, li_49, li_50, li_51, li_52, li_53, li_54, li_55, li_56, li_57, li_58, li_59, li_60, li_61, li_62, li_63, li_64, li_65, li_66, li_96, li_97, li_99, li_100, li_122, li_125, li_126, li_140, li_255, li_256, li_999, li_1000, li_1001, li_1002, li_1100, li_1386, li_1452, li_1518, li_9999, li_1000000]
  refine for2 _ (fun k => nI (setb (fun t => decide (bt (hr G t) h = 1)) k)) (fun k => nI k) 0 (nt G) _ ?_ ?_ fu (by omega) (by omega)
  · intro rec
    simp (disch := omega) only [f_X1_thievesAt_4s, ↓lm_1, ↓lm_2, ↓lm_3, ↓lm_4, ↓lm_5, ↓lm_6, ↓lm_7, ↓lm_8, ↓lm_9, ↓lm_10, ↓lm_11, li_0, li_1, li_2, li_3, li_4, li_5, li_6, li_7, li_8, li_9, li_10, li_11, li_12, li_13, li_14, li_15, li_16, li_17, li_18, li_19, li_20, li_21, li_22, li_23, li_24, li_25, li_26, li_27, li_28, li_29, li_30, li_31, li_32, li_33, li_34, li_35, li_36, li_37, li_38, li_39, li_40, li_41, li_42, li_43, li_44, li_45, li_46, li_47, li_48, li_49, li_50, li_51, li_52, li_53, li_54, li_55, li_56, li_57, li_58, li_59, li_60, li_61, li_62, li_63, li_64, li_65, li_66, li_96, li_97, li_99, li_100, li_122, li_125, li_126, li_140, li_255, li_256, li_999, li_1000, li_1001, li_1002, li_1100, li_1386, li_1452, li_1518, li_9999, li_1000000, hg.2.2.1, nI_leI, Nat.le_refl, ↓reduceIte]
    rfl
  · intro k rec _ hk
    have hle : ¬ nI (nt G) ≤ nI k := nI_ge hk (by omega)
    have hr24 := (hG.2.2.2.1 k hk).2.2.2
    have hz := setb_lt' (fun t => decide (bt (hr G t) h = 1)) (k := k) (by omega)
    simp (disch := omega) only [f_X1_thievesAt_4s, ↓lm_1, ↓lm_2, ↓lm_3, ↓lm_4, ↓lm_5, ↓lm_6, ↓lm_7, ↓lm_8, ↓lm_9, ↓lm_10, ↓lm_11, li_0, li_1, li_2, li_3, li_4, li_5, li_6, li_7, li_8, li_9, li_10, li_11, li_12, li_13, li_14, li_15, li_16, li_17, li_18, li_19, li_20, li_21, li_22, li_23, li_24, li_25, li_26, li_27, li_28, li_29, li_30, li_31, li_32, li_33, li_34, li_35, li_36, li_37, li_38, li_39, li_40, li_41, li_42, li_43, li_44, li_45, li_46, li_47, li_48, li_49, li_50, li_51, li_52, li_53, li_54, li_55, li_56, li_57, li_58, li_59, li_60, li_61, li_62, li_63, li_64, li_65, li_66, li_96, li_97, li_99, li_100, li_122, li_125, li_126, li_140, li_255, li_256, li_999, li_1000, li_1001, li_1002, li_1100, li_1386, li_1452, li_1518, li_9999, li_1000000, hg.2.2.1, hle, ↓reduceIte, inb_n, ck_t, nI_clamp, (hg.2.2.2.2.1 k hk).2.2, nI_and31, nI_bt, nm_eq, nI_add, setb, decide_eq_true_eq]
    rcases bt_01 (hr G k) h with e | e
    · rw [e, shl0 (by omega), if_neg (by omega), nI_orN (by omega) (by omega), Nat.or_zero]
    · rw [e, nI_shl1 (by omega), if_pos rfl, setb_step _ (by omega)]
theorem x12_fewer {fu a b : Nat} (ha : a < 16777216) (hb : b < 16777216) : f_X12_isFewer fu (nI a) (nI b) = some (b01 (decide (ky a < ky b))) := by
  have hm : ¬ nI b = mI 1 := nI_nem (by omega) (by omega) (by omega)
  have p1 := pcn30 a
  have p2 := pcn30 b
  simp (disch := omega) only [f_X12_isFewer, f_X12_isFewer_0, f_X12_isFewer_30, f_X12_isFewer_34, ↓lm_1, ↓lm_2, ↓lm_3, ↓lm_4, ↓lm_5, ↓lm_6, ↓lm_7, ↓lm_8, ↓lm_9, ↓lm_10, ↓lm_11, li_0, li_1, li_2, li_3, li_4, li_5, li_6, li_7, li_8, li_9, li_10, li_11, li_12, li_13, li_14, li_15, li_16, li_17, li_18, li_19, li_20, li_21, li_22, li_23, li_24, li_25, li_26, li_27, li_28, li_29, li_30, li_31, li_32, li_33, li_34, li_35, li_36, li_37, li_38, li_39, li_40, li_41, li_42, li_43, li_44, li_45, li_46, li_47, li_48, li_49, li_50, li_51, li_52, li_53, li_54, li_55, li_56, li_57, li_58, li_59, li_60, li_61, li_62, li_63, li_64, li_65, li_66, li_96, li_97, li_99, li_100, li_122, li_125, li_126, li_140, li_255, li_256, li_999, li_1000, li_1001, li_1002, li_1100, li_1386, li_1452, li_1518, li_9999, li_1000000, hm, ↓reduceIte, bcN, bd_s, nm_eq, nI_leI]
  by_cases c : pcn a < pcn b
  · have e : nI (pcn a) - nI (pcn b) < nI 0 := pk_sneg (by omega) c
    rw [if_pos e, decide_eq_true (by unfold ky; omega)]; rfl
  · rw [pk_sub (by omega), if_neg (nI_nlt (by omega) (by omega))]
    simp (disch := omega) only [nI_eq]
    by_cases c2 : pcn a = pcn b
    · rw [if_pos (by omega)]
      by_cases c3 : b ≤ a
      · rw [if_pos c3, decide_eq_false (by unfold ky; omega)]; rfl
      · rw [if_neg c3, decide_eq_true (by unfold ky; omega)]; rfl
    · rw [if_neg (by omega), decide_eq_false (by unfold ky; omega)]; rfl
theorem x12_fewer0 {fu : Nat} {x : Int32} : f_X12_isFewer fu x (mI 1) = some (nI 1) := by
  simp only [f_X12_isFewer, f_X12_isFewer_0, ↓lm_1, ↓lm_2, ↓lm_3, ↓lm_4, ↓lm_5, ↓lm_6, ↓lm_7, ↓lm_8, ↓lm_9, ↓lm_10, ↓lm_11, li_0, li_1, li_2, li_3, li_4, li_5, li_6, li_7, li_8, li_9, li_10, li_11, li_12, li_13, li_14, li_15, li_16, li_17, li_18, li_19, li_20, li_21, li_22, li_23, li_24, li_25, li_26, li_27, li_28, li_29, li_30, li_31, li_32, li_33, li_34, li_35, li_36, li_37, li_38, li_39, li_40, li_41, li_42, li_43, li_44, li_45, li_46, li_47, li_48, li_49, li_50, li_51, li_52, li_53, li_54, li_55, li_56, li_57, li_58, li_59, li_60, li_61, li_62, li_63, li_64, li_65, li_66, li_96, li_97, li_99, li_100, li_122, li_125, li_126, li_140, li_255, li_256, li_999, li_1000, li_1001, li_1002, li_1100, li_1386, li_1452, li_1518, li_9999, li_1000000, ↓reduceIte]
theorem p24 {h : Nat} (hh : h ≤ 24) : 2 ^ h ≤ 16777216 := Nat.pow_le_pow_right (n := 2) (by decide) hh
section CW
variable {fu p t d ln dl f : Nat} {S : ST} {A : AP}
theorem c_hour (hf : 1101 ≤ fu) (hG : okG (aG A)) {h : Nat} (hh : h < 24) {S0 : ST} {F0 : Nat → Int32} {W0 : Nat → Option Nat} (hW : wH (aG A) h W0) (hF : ∀ s, s < 32 → F0 s = oI (W0 s)) : ∃ S' x', (x' = nI (h + 1) ∧ ∃ F W, S' = st S p (sAf (S p) 9 F) ∧ (∀ s, s < 32 → F s = oI (W s)) ∧ wH (aG A) (h + 1) W) ∧ ∀ k17, f_X12_setWatches_34 fu fu k17 p (nI h) (nI (atb (aG A) h)) (nI 0) (st S p (sAf (S p) 9 F0)) = k17 x' S' := by
  have hat := atb_lt hG h
  have key := lpC2 (fun k17 k34 => f_X12_setWatches_34s fu k17 k34 p (nI h) (nI (atb (aG A) h))) (fun s x S' => x = nI s ∧ ∃ F W, S' = st S p (sAf (S p) 9 F) ∧ (∀ s, s < 32 → F s = oI (W s)) ∧ wI (aG A) h s W) (fun x' S' => x' = nI (h + 1) ∧ ∃ F W, S' = st S p (sAf (S p) 9 F) ∧ (∀ s, s < 32 → F s = oI (W s)) ∧ wH (aG A) (h + 1) W) 32 ?_ ?_ fu 0 (nI 0) (st S p (sAf (S p) 9 F0)) ⟨rfl, F0, W0, rfl, hF, wI_0 hW⟩ (by omega) (by omega)
  · obtain ⟨x', S', h1, h2⟩ := key
    exact ⟨S', x', h1, fun k17 => by rw [f_X12_setWatches_34]; exact h2 k17⟩
  · rintro x S' ⟨rfl, F, W, rfl, h1, h2⟩
    refine ⟨nI (h + 1), _, ⟨rfl, F, W, rfl, h1, wI_32 hG h2⟩, fun k rec => ?_⟩
    have e : nI 32 ≤ nI 32 := by decide
    simp only [f_X12_setWatches_34s, ↓lm_1, ↓lm_2, ↓lm_3, ↓lm_4, ↓lm_5, ↓lm_6, ↓lm_7, ↓lm_8, ↓lm_9, ↓lm_10, ↓lm_11, li_0, li_1, li_2, li_3, li_4, li_5, li_6, li_7, li_8, li_9, li_10, li_11, li_12, li_13, li_14, li_15, li_16, li_17, li_18, li_19, li_20, li_21, li_22, li_23, li_24, li_25, li_26, li_27, li_28, li_29, li_30, li_31, li_32, li_33, li_34, li_35, li_36, li_37, li_38, li_39, li_40, li_41, li_42, li_43, li_44, li_45, li_46, li_47, li_48, li_49, li_50, li_51, li_52, li_53, li_54, li_55, li_56, li_57, li_58, li_59, li_60, li_61, li_62, li_63, li_64, li_65, li_66, li_96, li_97, li_99, li_100, li_122, li_125, li_126, li_140, li_255, li_256, li_999, li_1000, li_1001, li_1002, li_1100, li_1386, li_1452, li_1518, li_9999, li_1000000, e, ↓reduceIte, nm_eq, nI_add]
  · rintro s x S' hs ⟨rfl, F, W, rfl, h1, h2⟩
    have e : ¬ nI 32 ≤ nI s := nI_ge hs (by omega)
    have h2p := p24 (show h + 1 ≤ 24 by omega)
    have hb : s ||| atb (aG A) h < 32 := Nat.or_lt_two_pow (n := 5) hs hat
    have ei : nI (s ||| atb (aG A) h) &&& (nI 32 - nI 1) = nI (s ||| atb (aG A) h) := by
      rw [pk_sub (by omega), nI_andN (by omega) (by omega), show (32 - 1 : Nat) = 2 ^ 5 - 1 from rfl, Nat.and_two_pow_sub_one_eq_mod]
      congr 1; omega
    cases hWs : W s with
    | none =>
      refine ⟨nI (s + 1), _, ⟨rfl, F, W, rfl, h1, wI_none h2 hWs⟩, fun k rec => ?_⟩
      have e1 : F s = mI 1 := by rw [h1 s hs, hWs]; rfl
      simp (disch := omega) only [f_X12_setWatches_34s, f_X12_setWatches_106, ↓lm_1, ↓lm_2, ↓lm_3, ↓lm_4, ↓lm_5, ↓lm_6, ↓lm_7, ↓lm_8, ↓lm_9, ↓lm_10, ↓lm_11, li_0, li_1, li_2, li_3, li_4, li_5, li_6, li_7, li_8, li_9, li_10, li_11, li_12, li_13, li_14, li_15, li_16, li_17, li_18, li_19, li_20, li_21, li_22, li_23, li_24, li_25, li_26, li_27, li_28, li_29, li_30, li_31, li_32, li_33, li_34, li_35, li_36, li_37, li_38, li_39, li_40, li_41, li_42, li_43, li_44, li_45, li_46, li_47, li_48, li_49, li_50, li_51, li_52, li_53, li_54, li_55, li_56, li_57, li_58, li_59, li_60, li_61, li_62, li_63, li_64, li_65, li_66, li_96, li_97, li_99, li_100, li_122, li_125, li_126, li_140, li_255, li_256, li_999, li_1000, li_1001, li_1002, li_1100, li_1386, li_1452, li_1518, li_9999, li_1000000, e, ↓reduceIte, nm_eq, inb_n, ck_t, nI_clamp, st_same, gA_sAf, e1, nI_add]
    | some w =>
      have hw := (h2.1 s w hs hWs).1
      have p2 : 2 ^ h < 2 ^ (h + 1) := Nat.pow_lt_pow_right (by decide) (by omega)
      have hwo : w ||| 2 ^ h < 2 ^ (h + 1) := Nat.or_lt_two_pow hw p2
      have e1 : F s = nI w := by rw [h1 s hs, hWs]; rfl
      have e2 : ¬ nI w = mI 1 := nI_nem (by omega) (by omega) (by omega)
      have eb := h1 (s ||| atb (aG A) h) hb
      have put : ∀ r8 : Int32, ¬ r8 = nI 0 → f_X12_isFewer fu (nI (w ||| 2 ^ h)) (oI (W (s ||| atb (aG A) h))) = some r8 → (∀ b, W (s ||| atb (aG A) h) = some b → ky (w ||| 2 ^ h) < ky b) → ∃ a' b', (a' = nI (s + 1) ∧ ∃ F W, b' = st S p (sAf (S p) 9 F) ∧ (∀ s, s < 32 → F s = oI (W s)) ∧ wI (aG A) h (s + 1) W) ∧ ∀ k rec, f_X12_setWatches_34s fu k rec p (nI h) (nI (atb (aG A) h)) (nI s) (st S p (sAf (S p) 9 F)) = rec a' b' := by
        intro r8 hr8 e8 hlt
        refine ⟨nI (s + 1), st S p (sAf (S p) 9 (upd F (s ||| atb (aG A) h) (nI (w ||| 2 ^ h)))), ⟨rfl, _, upW W (s ||| atb (aG A) h) (some (w ||| 2 ^ h)), rfl, fun s' hs' => ?_, wI_put h2 hh hs hWs hlt⟩, fun k rec => ?_⟩
        · by_cases q : s' = s ||| atb (aG A) h
          · rw [q, pk_us, upW, if_pos rfl]; rfl
          · rw [pk_un q, upW, if_neg q]; exact h1 s' hs'
        · simp (disch := omega) only [f_X12_setWatches_34s, f_X12_setWatches_106, ↓lm_1, ↓lm_2, ↓lm_3, ↓lm_4, ↓lm_5, ↓lm_6, ↓lm_7, ↓lm_8, ↓lm_9, ↓lm_10, ↓lm_11, li_0, li_1, li_2, li_3, li_4, li_5, li_6, li_7, li_8, li_9, li_10, li_11, li_12, li_13, li_14, li_15, li_16, li_17, li_18, li_19, li_20, li_21, li_22, li_23, li_24, li_25, li_26, li_27, li_28, li_29, li_30, li_31, li_32, li_33, li_34, li_35, li_36, li_37, li_38, li_39, li_40, li_41, li_42, li_43, li_44, li_45, li_46, li_47, li_48, li_49, li_50, li_51, li_52, li_53, li_54, li_55, li_56, li_57, li_58, li_59, li_60, li_61, li_62, li_63, li_64, li_65, li_66, li_96, li_97, li_99, li_100, li_122, li_125, li_126, li_140, li_255, li_256, li_999, li_1000, li_1001, li_1002, li_1100, li_1386, li_1452, li_1518, li_9999, li_1000000, e, ↓reduceIte, nm_eq, ei, inb_n, ck_t, nI_clamp, st_same, st_st, gA_sAf, e1, e2, eb, nI_and31, nI_shl1, nI_orN, e8, bd_s, hr8, nI_add, sA, sAf_sAf]
      cases hWb : W (s ||| atb (aG A) h) with
      | none =>
        refine put (nI 1) n10 (by rw [hWb]; exact x12_fewer0) (fun b q => ?_)
        rw [hWb] at q; cases q
      | some b =>
        have hb24 := (h2.1 _ b hb hWb).1
        have ef := x12_fewer (fu := fu) (a := w ||| 2 ^ h) (b := b) (by omega) (by omega)
        by_cases c : ky (w ||| 2 ^ h) < ky b
        · rw [decide_eq_true c] at ef
          refine put (nI 1) n10 (by rw [hWb]; exact ef) (fun b' q => ?_)
          rw [hWb] at q; cases q; exact c
        · rw [decide_eq_false c] at ef
          refine ⟨nI (s + 1), _, ⟨rfl, F, W, rfl, h1, wI_keep h2 hh hs hWs hWb (by omega)⟩, fun k rec => ?_⟩
          have eb' : F (s ||| atb (aG A) h) = nI b := by rw [eb, hWb]; rfl
          simp (disch := omega) only [f_X12_setWatches_34s, f_X12_setWatches_106, ↓lm_1, ↓lm_2, ↓lm_3, ↓lm_4, ↓lm_5, ↓lm_6, ↓lm_7, ↓lm_8, ↓lm_9, ↓lm_10, ↓lm_11, li_0, li_1, li_2, li_3, li_4, li_5, li_6, li_7, li_8, li_9, li_10, li_11, li_12, li_13, li_14, li_15, li_16, li_17, li_18, li_19, li_20, li_21, li_22, li_23, li_24, li_25, li_26, li_27, li_28, li_29, li_30, li_31, li_32, li_33, li_34, li_35, li_36, li_37, li_38, li_39, li_40, li_41, li_42, li_43, li_44, li_45, li_46, li_47, li_48, li_49, li_50, li_51, li_52, li_53, li_54, li_55, li_56, li_57, li_58, li_59, li_60, li_61, li_62, li_63, li_64, li_65, li_66, li_96, li_97, li_99, li_100, li_122, li_125, li_126, li_140, li_255, li_256, li_999, li_1000, li_1001, li_1002, li_1100, li_1386, li_1452, li_1518, li_9999, li_1000000, e, ↓reduceIte, nm_eq, ei, inb_n, ck_t, nI_clamp, st_same, gA_sAf, e1, e2, eb', nI_and31, nI_shl1, nI_orN, ef, b01_f, bd_s, nI_add]
theorem c_setWatches (hf : 1101 ≤ fu) (hA : okA A) (hP : RP p t d ln dl S) (hK : RK p t ln f S A) : ∃ F W, f_X12_setWatches fu S p = some (st S p (sAf (S p) 9 F)) ∧ (∀ s, s < 32 → F s = oI (W s)) ∧ wH (aG A) 24 W := by
  have hG := hA.1
  have td := hP.2.2.2.2.2.1
  have hct := hP.2.1.1
  have hrt := hP.2.2.2.2.1.1
  have key := lpI2 (fun k17 => f_X12_setWatches_17s fu k17 p) (fun h x S' => x = nI h ∧ ∃ F W, S' = st S p (sAf (S p) 9 F) ∧ (∀ s, s < 32 → F s = oI (W s)) ∧ wH (aG A) h W) (fun r => ∃ F W, r = some (st S p (sAf (S p) 9 F)) ∧ (∀ s, s < 32 → F s = oI (W s)) ∧ wH (aG A) 24 W) 24 ?_ ?_ fu 0 (nI 0) (st S p (sAf (S p) 9 (upd (flA (gA (S p) 9) 32 (mI 1)) 0 (nI 0)))) ⟨rfl, _, fun s => if s = 0 then some 0 else none, rfl, fun s hs => ?_, ⟨fun s m hs h => ?_, fun m hm => ?_⟩⟩ (by omega) (by omega)
  · obtain ⟨r, ⟨F, W, e, h⟩, e2⟩ := key
    refine ⟨F, W, ?_, h⟩
    rw [← e, ← e2]
    simp (disch := omega) only [f_X12_setWatches, f_X12_setWatches_0, f_X12_setWatches_17, ↓lm_1, ↓lm_2, ↓lm_3, ↓lm_4, ↓lm_5, ↓lm_6, ↓lm_7, ↓lm_8, ↓lm_9, ↓lm_10, ↓lm_11, li_0, li_1, li_2, li_3, li_4, li_5, li_6, li_7, li_8, li_9, li_10, li_11, li_12, li_13, li_14, li_15, li_16, li_17, li_18, li_19, li_20, li_21, li_22, li_23, li_24, li_25, li_26, li_27, li_28, li_29, li_30, li_31, li_32, li_33, li_34, li_35, li_36, li_37, li_38, li_39, li_40, li_41, li_42, li_43, li_44, li_45, li_46, li_47, li_48, li_49, li_50, li_51, li_52, li_53, li_54, li_55, li_56, li_57, li_58, li_59, li_60, li_61, li_62, li_63, li_64, li_65, li_66, li_96, li_97, li_99, li_100, li_122, li_125, li_126, li_140, li_255, li_256, li_999, li_1000, li_1001, li_1002, li_1100, li_1386, li_1452, li_1518, li_9999, li_1000000, nm_eq, st_same, st_st, nI_clamp, sA, sAf_sAf, gA_sAf]
  · rintro x S' ⟨rfl, F, W, rfl, h1, h2⟩
    refine ⟨_, ⟨F, W, rfl, h1, h2⟩, fun rec => ?_⟩
    have e : nI 24 ≤ nI 24 := by decide
    simp only [f_X12_setWatches_17s, ↓lm_1, ↓lm_2, ↓lm_3, ↓lm_4, ↓lm_5, ↓lm_6, ↓lm_7, ↓lm_8, ↓lm_9, ↓lm_10, ↓lm_11, li_0, li_1, li_2, li_3, li_4, li_5, li_6, li_7, li_8, li_9, li_10, li_11, li_12, li_13, li_14, li_15, li_16, li_17, li_18, li_19, li_20, li_21, li_22, li_23, li_24, li_25, li_26, li_27, li_28, li_29, li_30, li_31, li_32, li_33, li_34, li_35, li_36, li_37, li_38, li_39, li_40, li_41, li_42, li_43, li_44, li_45, li_46, li_47, li_48, li_49, li_50, li_51, li_52, li_53, li_54, li_55, li_56, li_57, li_58, li_59, li_60, li_61, li_62, li_63, li_64, li_65, li_66, li_96, li_97, li_99, li_100, li_122, li_125, li_126, li_140, li_255, li_256, li_999, li_1000, li_1001, li_1002, li_1100, li_1386, li_1452, li_1518, li_9999, li_1000000, e, ↓reduceIte]
  · rintro h x S' hh ⟨rfl, F, W, rfl, h1, h2⟩
    obtain ⟨S2, x2, hq, he⟩ := c_hour (S := S) (p := p) (A := A) hf hG hh (S0 := S) h2 h1
    refine Or.inl ⟨x2, S2, hq, fun rec => ?_⟩
    have e : ¬ nI 24 ≤ nI h := nI_ge hh (by omega)
    have et : st S p (sAf (S p) 9 F) t = S t := st_ne _ _ (by omega)
    have ta := x1_thievesAt hf hG hK.2.1 hh
    have gr : gR (sAf (S p) 9 F) 12 = some t := hrt
    simp only [f_X12_setWatches_17s, ↓lm_1, ↓lm_2, ↓lm_3, ↓lm_4, ↓lm_5, ↓lm_6, ↓lm_7, ↓lm_8, ↓lm_9, ↓lm_10, ↓lm_11, li_0, li_1, li_2, li_3, li_4, li_5, li_6, li_7, li_8, li_9, li_10, li_11, li_12, li_13, li_14, li_15, li_16, li_17, li_18, li_19, li_20, li_21, li_22, li_23, li_24, li_25, li_26, li_27, li_28, li_29, li_30, li_31, li_32, li_33, li_34, li_35, li_36, li_37, li_38, li_39, li_40, li_41, li_42, li_43, li_44, li_45, li_46, li_47, li_48, li_49, li_50, li_51, li_52, li_53, li_54, li_55, li_56, li_57, li_58, li_59, li_60, li_61, li_62, li_63, li_64, li_65, li_66, li_96, li_97, li_99, li_100, li_122, li_125, li_126, li_140, li_255, li_256, li_999, li_1000, li_1001, li_1002, li_1100, li_1386, li_1452, li_1518, li_9999, li_1000000, e, ↓reduceIte, st_same, gr, bd_s, et, hct, decide_true, ck_t, ta]
    exact he rec
  · by_cases q : s = 0
    · rw [q, pk_us]; rfl
    · rw [pk_un q]; simp only [if_neg q]; exact if_pos hs
  · by_cases q : s = 0
    · simp only [if_pos q] at h
      cases h
      refine ⟨by decide, ?_⟩
      rw [q]
      apply Nat.eq_of_testBit_eq
      intro j
      rw [seen, tb_setb]
      simp
    · simp only [if_neg q] at h; cases h
  · have e0 : m = 0 := by simp only [Nat.pow_zero] at hm; omega
    subst e0
    refine ⟨0, ?_, Nat.le_refl _⟩
    have : seen (aG A) 0 = 0 := by
      apply Nat.eq_of_testBit_eq
      intro j
      rw [seen, tb_setb]
      simp
    rw [this]; rfl
theorem c_watch (hf : 1101 ≤ fu) (hA : okA A) (hC : RC p S A) {but : Nat} (hb : but ≤ 5) : ∃ b S', okW (aG A) but b ∧ f_X12_watch fu S p (nI but) = some (nI b, S') ∧ scr p S S' := by
  obtain ⟨t, d, ln, dl, f, hP, hK⟩ := id hC
  have hG := hA.1
  have h5 := hG.2.1
  have td := hP.2.2.2.2.2.1
  have hct := hP.2.1.1
  have hrt := hP.2.2.2.2.1.1
  have hnt := hK.2.1.2.2.1
  obtain ⟨F, W, e0, hF, hW⟩ := c_setWatches (fu := fu) hf hA hP hK
  have et : st S p (sAf (S p) 9 F) t = S t := st_ne _ _ (by omega)
  have gr : gR (sAf (S p) 9 F) 12 = some t := hrt
  have key := lpI3 (fun k19 => f_X12_watch_19s fu k19 p (nI but)) (fun s x y S' => y = nI s ∧ S' = st S p (sAf (S p) 9 F) ∧ ∃ B : Option Nat, x = oI B ∧ (∀ m, B = some m → m < 16777216 ∧ unb (aG A) m (nt (aG A)) ≤ but) ∧ ∀ s', s' < s → nt (aG A) ≤ pcn s' + but → ∀ w, W s' = some w → ∃ m, B = some m ∧ ky m ≤ ky w) (fun r => ∃ b, okW (aG A) but b ∧ r = some (nI b, st S p (sAf (S p) 9 F))) 32 ?_ ?_ fu 0 (mI 1) (nI 0) (st S p (sAf (S p) 9 F)) ⟨rfl, rfl, none, rfl, (fun m h => by cases h), (fun s' h => by omega)⟩ (by omega) (by omega)
  · obtain ⟨r, ⟨b, h1, h2⟩, e2⟩ := key
    refine ⟨b, _, h1, ?_, scr_p (scr_refl p S) (w := sAf (S p) 9 F) rfl (fun _ => rfl) (fun _ => rfl) (fun _ => rfl)⟩
    have a1 : ¬ nI but < nI 0 := nI_nlt (by omega) (by omega)
    have a2 : nI but ≤ nI 5 := nI_le (by omega) (by omega)
    rw [← h2, ← e2]
    simp only [f_X12_watch, f_X12_watch_0, f_X12_watch_19, ↓lm_1, ↓lm_2, ↓lm_3, ↓lm_4, ↓lm_5, ↓lm_6, ↓lm_7, ↓lm_8, ↓lm_9, ↓lm_10, ↓lm_11, li_0, li_1, li_2, li_3, li_4, li_5, li_6, li_7, li_8, li_9, li_10, li_11, li_12, li_13, li_14, li_15, li_16, li_17, li_18, li_19, li_20, li_21, li_22, li_23, li_24, li_25, li_26, li_27, li_28, li_29, li_30, li_31, li_32, li_33, li_34, li_35, li_36, li_37, li_38, li_39, li_40, li_41, li_42, li_43, li_44, li_45, li_46, li_47, li_48, li_49, li_50, li_51, li_52, li_53, li_54, li_55, li_56, li_57, li_58, li_59, li_60, li_61, li_62, li_63, li_64, li_65, li_66, li_96, li_97, li_99, li_100, li_122, li_125, li_126, li_140, li_255, li_256, li_999, li_1000, li_1001, li_1002, li_1100, li_1386, li_1452, li_1518, li_9999, li_1000000, a1, a2, ↓reduceIte, e0, bd_s]
  · rintro x y S' ⟨rfl, rfl, B, rfl, h1, h2⟩
    have e : nI 32 ≤ nI 32 := by decide
    have best : ∀ m, m < 16777216 → unb (aG A) m (nt (aG A)) ≤ but → ∃ b, B = some b ∧ ky b ≤ ky m := by
      intro m hm hu
      obtain ⟨w, w1, w2⟩ := hW.2 m hm
      have ps := pcn_seen hG m
      obtain ⟨b, b1, b2⟩ := h2 (seen (aG A) m) (seen_lt hG m) (by omega) w w1
      exact ⟨b, b1, by omega⟩
    obtain ⟨b, hb1, _⟩ := best 16777215 (by omega) (by rw [all_h hG]; omega)
    subst hb1
    refine ⟨_, ⟨b, ⟨(h1 b rfl).1, (h1 b rfl).2, fun m hm hu => ?_⟩, rfl⟩, fun rec => ?_⟩
    · obtain ⟨b', q1, q2⟩ := best m hm hu
      cases q1; exact q2
    · simp only [f_X12_watch_19s, ↓lm_1, ↓lm_2, ↓lm_3, ↓lm_4, ↓lm_5, ↓lm_6, ↓lm_7, ↓lm_8, ↓lm_9, ↓lm_10, ↓lm_11, li_0, li_1, li_2, li_3, li_4, li_5, li_6, li_7, li_8, li_9, li_10, li_11, li_12, li_13, li_14, li_15, li_16, li_17, li_18, li_19, li_20, li_21, li_22, li_23, li_24, li_25, li_26, li_27, li_28, li_29, li_30, li_31, li_32, li_33, li_34, li_35, li_36, li_37, li_38, li_39, li_40, li_41, li_42, li_43, li_44, li_45, li_46, li_47, li_48, li_49, li_50, li_51, li_52, li_53, li_54, li_55, li_56, li_57, li_58, li_59, li_60, li_61, li_62, li_63, li_64, li_65, li_66, li_96, li_97, li_99, li_100, li_122, li_125, li_126, li_140, li_255, li_256, li_999, li_1000, li_1001, li_1002, li_1100, li_1386, li_1452, li_1518, li_9999, li_1000000, e, ↓reduceIte, oI]
  · rintro s x y S' hs ⟨rfl, rfl, B, rfl, h1, h2⟩
    have e : ¬ nI 32 ≤ nI s := nI_ge hs (by omega)
    have ps := pcn30 s
    have bc := bcN (fu := fu) (x := s) (by omega)
    have hcmp : nI (pcn s) < nI (nt (aG A)) - nI but ↔ pcn s + but < nt (aG A) := by
      rw [Int32.lt_iff_toInt_lt, pk_sub_toInt (by omega) (by omega), nI_toInt (by omega)]; omega
    by_cases c : pcn s + but < nt (aG A)
    · refine Or.inl ⟨oI B, nI (s + 1), _, ⟨rfl, rfl, B, rfl, h1, fun s' q1 q2 => ?_⟩, fun rec => ?_⟩
      · by_cases q : s' = s
        · subst q; omega
        · exact h2 s' (by omega) q2
      · simp (disch := omega) only [f_X12_watch_19s, f_X12_watch_49, f_X12_watch_86, ↓lm_1, ↓lm_2, ↓lm_3, ↓lm_4, ↓lm_5, ↓lm_6, ↓lm_7, ↓lm_8, ↓lm_9, ↓lm_10, ↓lm_11, li_0, li_1, li_2, li_3, li_4, li_5, li_6, li_7, li_8, li_9, li_10, li_11, li_12, li_13, li_14, li_15, li_16, li_17, li_18, li_19, li_20, li_21, li_22, li_23, li_24, li_25, li_26, li_27, li_28, li_29, li_30, li_31, li_32, li_33, li_34, li_35, li_36, li_37, li_38, li_39, li_40, li_41, li_42, li_43, li_44, li_45, li_46, li_47, li_48, li_49, li_50, li_51, li_52, li_53, li_54, li_55, li_56, li_57, li_58, li_59, li_60, li_61, li_62, li_63, li_64, li_65, li_66, li_96, li_97, li_99, li_100, li_122, li_125, li_126, li_140, li_255, li_256, li_999, li_1000, li_1001, li_1002, li_1100, li_1386, li_1452, li_1518, li_9999, li_1000000, e, ↓reduceIte, bc, bd_s, st_same, gr, et, hct, decide_true, ck_t, hnt, hcmp, c, nm_eq, nI_add]
    · cases hWs : W s with
      | none =>
        have e1 : F s = mI 1 := by rw [hF s hs, hWs]; rfl
        refine Or.inl ⟨oI B, nI (s + 1), _, ⟨rfl, rfl, B, rfl, h1, fun s' q1 q2 w q3 => ?_⟩, fun rec => ?_⟩
        · by_cases q : s' = s
          · subst q; rw [hWs] at q3; cases q3
          · exact h2 s' (by omega) q2 w q3
        · simp (disch := omega) only [f_X12_watch_19s, f_X12_watch_49, f_X12_watch_86, ↓lm_1, ↓lm_2, ↓lm_3, ↓lm_4, ↓lm_5, ↓lm_6, ↓lm_7, ↓lm_8, ↓lm_9, ↓lm_10, ↓lm_11, li_0, li_1, li_2, li_3, li_4, li_5, li_6, li_7, li_8, li_9, li_10, li_11, li_12, li_13, li_14, li_15, li_16, li_17, li_18, li_19, li_20, li_21, li_22, li_23, li_24, li_25, li_26, li_27, li_28, li_29, li_30, li_31, li_32, li_33, li_34, li_35, li_36, li_37, li_38, li_39, li_40, li_41, li_42, li_43, li_44, li_45, li_46, li_47, li_48, li_49, li_50, li_51, li_52, li_53, li_54, li_55, li_56, li_57, li_58, li_59, li_60, li_61, li_62, li_63, li_64, li_65, li_66, li_96, li_97, li_99, li_100, li_122, li_125, li_126, li_140, li_255, li_256, li_999, li_1000, li_1001, li_1002, li_1100, li_1386, li_1452, li_1518, li_9999, li_1000000, e, ↓reduceIte, bc, bd_s, st_same, gr, et, hct, decide_true, ck_t, hnt, hcmp, c, n10, nm_eq, nI_add, inb_n, nI_clamp, gA_sAf, e1]
      | some w =>
        have hw := hW.1 s w hs hWs
        have hw24 : w < 16777216 := hw.1
        have ws := pcn_seen hG w
        rw [hw.2] at ws
        have e1 : F s = nI w := by rw [hF s hs, hWs]; rfl
        have e2 : ¬ nI w = mI 1 := nI_nem (by omega) (by omega) (by omega)
        have put : f_X12_isFewer fu (nI w) (oI B) = some (nI 1) → (∀ m, B = some m → ky w < ky m) → ∃ a' b' c', (b' = nI (s + 1) ∧ c' = st S p (sAf (S p) 9 F) ∧ ∃ B : Option Nat, a' = oI B ∧ (∀ m, B = some m → m < 16777216 ∧ unb (aG A) m (nt (aG A)) ≤ but) ∧ ∀ s', s' < s + 1 → nt (aG A) ≤ pcn s' + but → ∀ w, W s' = some w → ∃ m, B = some m ∧ ky m ≤ ky w) ∧ ∀ rec, f_X12_watch_19s fu rec p (nI but) (oI B) (nI s) (st S p (sAf (S p) 9 F)) = rec a' b' c' := by
          intro ef hlt
          refine ⟨nI w, nI (s + 1), _, ⟨rfl, rfl, some w, rfl, fun m q => ?_, fun s' q1 q2 w' q3 => ?_⟩, fun rec => ?_⟩
          · cases q; exact ⟨hw24, by omega⟩
          · by_cases q : s' = s
            · subst q; rw [hWs] at q3; cases q3; exact ⟨w, rfl, Nat.le_refl _⟩
            · obtain ⟨m, m1, m2⟩ := h2 s' (by omega) q2 w' q3
              have := hlt m m1
              exact ⟨w, rfl, by omega⟩
          · simp (disch := omega) only [f_X12_watch_19s, f_X12_watch_49, f_X12_watch_86, ↓lm_1, ↓lm_2, ↓lm_3, ↓lm_4, ↓lm_5, ↓lm_6, ↓lm_7, ↓lm_8, ↓lm_9, ↓lm_10, ↓lm_11, li_0, li_1, li_2, li_3, li_4, li_5, li_6, li_7, li_8, li_9, li_10, li_11, li_12, li_13, li_14, li_15, li_16, li_17, li_18, li_19, li_20, li_21, li_22, li_23, li_24, li_25, li_26, li_27, li_28, li_29, li_30, li_31, li_32, li_33, li_34, li_35, li_36, li_37, li_38, li_39, li_40, li_41, li_42, li_43, li_44, li_45, li_46, li_47, li_48, li_49, li_50, li_51, li_52, li_53, li_54, li_55, li_56, li_57, li_58, li_59, li_60, li_61, li_62, li_63, li_64, li_65, li_66, li_96, li_97, li_99, li_100, li_122, li_125, li_126, li_140, li_255, li_256, li_999, li_1000, li_1001, li_1002, li_1100, li_1386, li_1452, li_1518, li_9999, li_1000000, e, ↓reduceIte, bc, bd_s, st_same, gr, et, hct, decide_true, ck_t, hnt, hcmp, c, n10, nm_eq, nI_add, inb_n, nI_clamp, gA_sAf, e1, e2, ef]
        cases B with
        | none => exact Or.inl (put x12_fewer0 (fun m q => by cases q))
        | some b =>
          have hb24 := (h1 b rfl).1
          have ef := x12_fewer (fu := fu) (a := w) (b := b) hw24 hb24
          by_cases q : ky w < ky b
          · rw [decide_eq_true q] at ef
            exact Or.inl (put ef (fun m q' => by cases q'; exact q))
          · rw [decide_eq_false q] at ef
            refine Or.inl ⟨nI b, nI (s + 1), _, ⟨rfl, rfl, some b, rfl, h1, fun s' q1 q2 w' q3 => ?_⟩, fun rec => ?_⟩
            · by_cases q' : s' = s
              · subst q'; rw [hWs] at q3; cases q3; exact ⟨b, rfl, by omega⟩
              · exact h2 s' (by omega) q2 w' q3
            · simp (disch := omega) only [f_X12_watch_19s, f_X12_watch_49, f_X12_watch_86, ↓lm_1, ↓lm_2, ↓lm_3, ↓lm_4, ↓lm_5, ↓lm_6, ↓lm_7, ↓lm_8, ↓lm_9, ↓lm_10, ↓lm_11, li_0, li_1, li_2, li_3, li_4, li_5, li_6, li_7, li_8, li_9, li_10, li_11, li_12, li_13, li_14, li_15, li_16, li_17, li_18, li_19, li_20, li_21, li_22, li_23, li_24, li_25, li_26, li_27, li_28, li_29, li_30, li_31, li_32, li_33, li_34, li_35, li_36, li_37, li_38, li_39, li_40, li_41, li_42, li_43, li_44, li_45, li_46, li_47, li_48, li_49, li_50, li_51, li_52, li_53, li_54, li_55, li_56, li_57, li_58, li_59, li_60, li_61, li_62, li_63, li_64, li_65, li_66, li_96, li_97, li_99, li_100, li_122, li_125, li_126, li_140, li_255, li_256, li_999, li_1000, li_1001, li_1002, li_1100, li_1386, li_1452, li_1518, li_9999, li_1000000, e, ↓reduceIte, bc, bd_s, st_same, gr, et, hct, decide_true, ck_t, hnt, hcmp, c, n10, nm_eq, nI_add, inb_n, nI_clamp, gA_sAf, e1, e2, oI, ef, b01_f]
end CW
/-! the model: thief by thief -/
theorem sI_sI (v : GV) (k : Nat) (x y : Int32) : sI (sI v k x) k y = sI v k y := by
  simp only [sI]
  congr 2
  funext j
  by_cases h : j = k <;> simp [va_up, h]
theorem sI_self (v : GV) (k : Nat) : sI v k (gI v k) = v := by
  have : va_up v.2.1 k (gI v k) = v.2.1 := by
    funext j
    by_cases h : j = k
    · subst h; simp [va_up, gI]
    · simp [va_up, h]
  simp [sI, this]
theorem wD_s (fu d : Nat) : f_X13_watchesD fu (d + 1) = f_X13_watches fu (f_X13_watchesD fu d) := (id rfl)
section MW
variable {fu but : Nat} {G : GP}
theorem tb24 {a j : Nat} (h : a < 16777216) (hj : a.testBit j = true) : j < 24 := by
  apply Classical.byContradiction
  intro c
  rw [Nat.testBit_lt_two_pow (Nat.lt_of_lt_of_le h (Nat.pow_le_pow_right (n := 2) (by decide) (show 24 ≤ j by omega)))] at hj
  exact absurd hj (by decide)
theorem m_watches (hf : 1101 ≤ fu) (hG : okG G) : ∀ d t, t ≤ nt G → nt G < t + d → ∀ (v : GV) (set left : Nat) (B : Option Nat), MG v G → set < 16777216 → left ≤ 5 → gI v 37 = oI B → (∀ m, B = some m → m < 16777216) → unb G set t + left ≤ but → ∃ B' : Option Nat, f_X13_watchesD fu d v (nI t) (nI set) (nI left) = some (sI v 37 (oI B')) ∧ (∀ m, B' = some m → B = some m ∨ (m < 16777216 ∧ unb G m (nt G) ≤ but)) ∧ (∀ m, B = some m → ∃ m', B' = some m' ∧ ky m' ≤ ky m) ∧ (∀ M, M < 16777216 → (∀ j, set.testBit j = true → M.testBit j = true) → unb G M (nt G) ≤ unb G M t + left → ∃ m', B' = some m' ∧ ky m' ≤ ky M) := by
  intro d
  induction d with
  | zero => intro t h1 h2; omega
  | succ d ih =>
    intro t ht hd v set left B hM hset hleft hB hBm hu
    have h5 := hG.2.1
    have eth := x13_thieves (fu := fu) hM.2.1
    by_cases c : t = nt G
    · -- a leaf
      subst c
      have put : f_X13_watchesD fu (d + 1) v (nI (nt G)) (nI set) (nI left) = some (sI v 37 (nI set)) → (∀ b, B = some b → ky set ≤ ky b) → ∃ B' : Option Nat, f_X13_watchesD fu (d + 1) v (nI (nt G)) (nI set) (nI left) = some (sI v 37 (oI B')) ∧ (∀ m, B' = some m → B = some m ∨ (m < 16777216 ∧ unb G m (nt G) ≤ but)) ∧ (∀ m, B = some m → ∃ m', B' = some m' ∧ ky m' ≤ ky m) ∧ (∀ M, M < 16777216 → (∀ j, set.testBit j = true → M.testBit j = true) → unb G M (nt G) ≤ unb G M (nt G) + left → ∃ m', B' = some m' ∧ ky m' ≤ ky M) := by
        intro e hlt
        refine ⟨some set, e, fun m q => ?_, fun m q => ⟨set, rfl, hlt m q⟩, fun M _ hs _ => ⟨set, rfl, ky_sub hs⟩⟩
        cases q; exact Or.inr ⟨hset, by omega⟩
      cases B with
      | none =>
        refine put ?_ (fun b q => by cases q)
        have e1 : mI 1 < nI 0 := by decide
        rw [wD_s]
        simp only [f_X13_watches, f_X13_watches_0, f_X13_watches_51, f_X13_watches_56, f_X13_watches_72, ↓lm_1, ↓lm_2, ↓lm_3, ↓lm_4, ↓lm_5, ↓lm_6, ↓lm_7, ↓lm_8, ↓lm_9, ↓lm_10, ↓lm_11, li_0, li_1, li_2, li_3, li_4, li_5, li_6, li_7, li_8, li_9, li_10, li_11, li_12, li_13, li_14, li_15, li_16, li_17, li_18, li_19, li_20, li_21, li_22, li_23, li_24, li_25, li_26, li_27, li_28, li_29, li_30, li_31, li_32, li_33, li_34, li_35, li_36, li_37, li_38, li_39, li_40, li_41, li_42, li_43, li_44, li_45, li_46, li_47, li_48, li_49, li_50, li_51, li_52, li_53, li_54, li_55, li_56, li_57, li_58, li_59, li_60, li_61, li_62, li_63, li_64, li_65, li_66, li_96, li_97, li_99, li_100, li_122, li_125, li_126, li_140, li_255, li_256, li_999, li_1000, li_1001, li_1002, li_1100, li_1386, li_1452, li_1518, li_9999, li_1000000, eth, bd_s, ↓reduceIte, hB, oI, e1, n10, nm_eq]
      | some b =>
        have hb := hBm b rfl
        have e1 : ¬ nI b < nI 0 := nI_nlt (by omega) (by omega)
        have p1 := pcn30 set
        have p2 := pcn30 b
        by_cases q : ky set < ky b
        · refine put ?_ (fun b' q' => by cases q'; omega)
          rw [wD_s]
          simp (disch := omega) only [f_X13_watches, f_X13_watches_0, f_X13_watches_51, f_X13_watches_55, f_X13_watches_56, f_X13_watches_72, ↓lm_1, ↓lm_2, ↓lm_3, ↓lm_4, ↓lm_5, ↓lm_6, ↓lm_7, ↓lm_8, ↓lm_9, ↓lm_10, ↓lm_11, li_0, li_1, li_2, li_3, li_4, li_5, li_6, li_7, li_8, li_9, li_10, li_11, li_12, li_13, li_14, li_15, li_16, li_17, li_18, li_19, li_20, li_21, li_22, li_23, li_24, li_25, li_26, li_27, li_28, li_29, li_30, li_31, li_32, li_33, li_34, li_35, li_36, li_37, li_38, li_39, li_40, li_41, li_42, li_43, li_44, li_45, li_46, li_47, li_48, li_49, li_50, li_51, li_52, li_53, li_54, li_55, li_56, li_57, li_58, li_59, li_60, li_61, li_62, li_63, li_64, li_65, li_66, li_96, li_97, li_99, li_100, li_122, li_125, li_126, li_140, li_255, li_256, li_999, li_1000, li_1001, li_1002, li_1100, li_1386, li_1452, li_1518, li_9999, li_1000000, eth, bd_s, ↓reduceIte, hB, oI, e1, n10, nm_eq, x13_bits, nI_ltI, nI_eq, nI_leI, Nat.one_ne_zero]
          by_cases q1 : pcn set < pcn b
          · rw [if_pos q1]
          · rw [if_neg q1]
            have q2 : pcn set = pcn b := by unfold ky at q; omega
            rw [if_pos q2, if_neg (by unfold ky at q; omega)]
        · refine ⟨some b, ?_, fun m q' => Or.inl q', fun m q' => ⟨m, q', Nat.le_refl _⟩, fun M _ hs _ => ⟨b, rfl, ?_⟩⟩
          · rw [wD_s]
            simp (disch := omega) only [f_X13_watches, f_X13_watches_0, f_X13_watches_51, f_X13_watches_55, f_X13_watches_56, f_X13_watches_72, ↓lm_1, ↓lm_2, ↓lm_3, ↓lm_4, ↓lm_5, ↓lm_6, ↓lm_7, ↓lm_8, ↓lm_9, ↓lm_10, ↓lm_11, li_0, li_1, li_2, li_3, li_4, li_5, li_6, li_7, li_8, li_9, li_10, li_11, li_12, li_13, li_14, li_15, li_16, li_17, li_18, li_19, li_20, li_21, li_22, li_23, li_24, li_25, li_26, li_27, li_28, li_29, li_30, li_31, li_32, li_33, li_34, li_35, li_36, li_37, li_38, li_39, li_40, li_41, li_42, li_43, li_44, li_45, li_46, li_47, li_48, li_49, li_50, li_51, li_52, li_53, li_54, li_55, li_56, li_57, li_58, li_59, li_60, li_61, li_62, li_63, li_64, li_65, li_66, li_96, li_97, li_99, li_100, li_122, li_125, li_126, li_140, li_255, li_256, li_999, li_1000, li_1001, li_1002, li_1100, li_1386, li_1452, li_1518, li_9999, li_1000000, eth, bd_s, ↓reduceIte, hB, oI, e1, n10, nm_eq, x13_bits, nI_ltI, nI_eq, nI_leI, Nat.one_ne_zero]
            by_cases q1 : pcn set < pcn b
            · exact absurd (by unfold ky; omega) q
            · rw [if_neg q1]
              by_cases q2 : pcn set = pcn b
              · rw [if_pos q2, if_pos (by unfold ky at q; omega)]
              · rw [if_neg q2]
          · have := ky_sub hs; omega
    · -- a thief
      have htt : t < nt G := by omega
      have hH := (hG.2.2.2.1 t htt).2.2
      have eh := m_hours (fu := fu) hM hG htt
      have hne : ¬ nI t = nI (nt G) := by rw [nI_eq (by omega) (by omega)]; exact c
      have hand : hr G t &&& set < 16777216 := Nat.lt_of_le_of_lt Nat.and_le_left hH.2
      -- the branch that leaves him, if there is one
      have skip : ∃ B1 : Option Nat, f_X13_watchesD fu (d + 1) v (nI t) (nI set) (nI left) = f_X13_watches_117 fu (f_X13_watchesD fu d) (sI v 37 (oI B1)) (nI t) (nI set) (nI left) (nI (hr G t)) ∧ (∀ m, B1 = some m → B = some m ∨ (m < 16777216 ∧ unb G m (nt G) ≤ but)) ∧ (∀ m, B = some m → ∃ m', B1 = some m' ∧ ky m' ≤ ky m) ∧ (∀ M, M < 16777216 → (∀ j, set.testBit j = true → M.testBit j = true) → unb G M (nt G) ≤ unb G M t + left → (hr G t &&& set ≠ 0 ∨ hr G t &&& M = 0) → ∃ m', B1 = some m' ∧ ky m' ≤ ky M) := by
        by_cases q : hr G t &&& set = 0
        · by_cases q2 : left = 0
          · -- none
            refine ⟨B, ?_, fun m h => Or.inl h, fun m h => ⟨m, h, Nat.le_refl _⟩, fun M h1 h2 h3 h4 => ?_⟩
            · rw [← hB, sI_self, wD_s]
              subst q2
              have e0 : ¬ nI 0 < nI 0 := by decide
              simp (disch := omega) only [f_X13_watches, f_X13_watches_0, ↓lm_1, ↓lm_2, ↓lm_3, ↓lm_4, ↓lm_5, ↓lm_6, ↓lm_7, ↓lm_8, ↓lm_9, ↓lm_10, ↓lm_11, li_0, li_1, li_2, li_3, li_4, li_5, li_6, li_7, li_8, li_9, li_10, li_11, li_12, li_13, li_14, li_15, li_16, li_17, li_18, li_19, li_20, li_21, li_22, li_23, li_24, li_25, li_26, li_27, li_28, li_29, li_30, li_31, li_32, li_33, li_34, li_35, li_36, li_37, li_38, li_39, li_40, li_41, li_42, li_43, li_44, li_45, li_46, li_47, li_48, li_49, li_50, li_51, li_52, li_53, li_54, li_55, li_56, li_57, li_58, li_59, li_60, li_61, li_62, li_63, li_64, li_65, li_66, li_96, li_97, li_99, li_100, li_122, li_125, li_126, li_140, li_255, li_256, li_999, li_1000, li_1001, li_1002, li_1100, li_1386, li_1452, li_1518, li_9999, li_1000000, eth, bd_s, hne, ↓reduceIte, eh, e0, nI_andN, q]
            · rcases h4 with h4 | h4
              · exact absurd q h4
              · have e1 := unb_s G M t
                rw [if_pos h4] at e1
                have e2 : unb G M (t + 1) ≤ unb G M (nt G) := cnt_mono _ (by omega)
                omega
          · have e1 := unb_s G set t
            rw [if_pos q] at e1
            obtain ⟨B1, k1, k2, k3, k4⟩ := ih (t + 1) (by omega) (by omega) v set (left - 1) B hM hset (by omega) hB hBm (by omega)
            refine ⟨B1, ?_, k2, k3, fun M h1 h2 h3 h4 => ?_⟩
            · have e0 : nI 0 < nI left := nI_lt (by omega) (by omega)
              rw [wD_s]
              simp (disch := omega) only [f_X13_watches, f_X13_watches_0, f_X13_watches_95, f_X13_watches_114, ↓lm_1, ↓lm_2, ↓lm_3, ↓lm_4, ↓lm_5, ↓lm_6, ↓lm_7, ↓lm_8, ↓lm_9, ↓lm_10, ↓lm_11, li_0, li_1, li_2, li_3, li_4, li_5, li_6, li_7, li_8, li_9, li_10, li_11, li_12, li_13, li_14, li_15, li_16, li_17, li_18, li_19, li_20, li_21, li_22, li_23, li_24, li_25, li_26, li_27, li_28, li_29, li_30, li_31, li_32, li_33, li_34, li_35, li_36, li_37, li_38, li_39, li_40, li_41, li_42, li_43, li_44, li_45, li_46, li_47, li_48, li_49, li_50, li_51, li_52, li_53, li_54, li_55, li_56, li_57, li_58, li_59, li_60, li_61, li_62, li_63, li_64, li_65, li_66, li_96, li_97, li_99, li_100, li_122, li_125, li_126, li_140, li_255, li_256, li_999, li_1000, li_1001, li_1002, li_1100, li_1386, li_1452, li_1518, li_9999, li_1000000, eth, bd_s, hne, ↓reduceIte, eh, e0, nI_andN, q, nI_add, pk_sub, k1]
            · rcases h4 with h4 | h4
              · exact absurd q h4
              · have e2 := unb_s G M t
                rw [if_pos h4] at e2
                exact k4 M h1 h2 (by omega)
        · have e1 := unb_s G set t
          rw [if_neg q] at e1
          obtain ⟨B1, k1, k2, k3, k4⟩ := ih (t + 1) (by omega) (by omega) v set left B hM hset hleft hB hBm (by omega)
          refine ⟨B1, ?_, k2, k3, fun M h1 h2 h3 _ => ?_⟩
          · have q' : ¬ nI (hr G t &&& set) = nI 0 := by rw [nI_eq (by omega) (by omega)]; exact q
            rw [wD_s]
            simp (disch := omega) only [f_X13_watches, f_X13_watches_0, f_X13_watches_95, f_X13_watches_114, ↓lm_1, ↓lm_2, ↓lm_3, ↓lm_4, ↓lm_5, ↓lm_6, ↓lm_7, ↓lm_8, ↓lm_9, ↓lm_10, ↓lm_11, li_0, li_1, li_2, li_3, li_4, li_5, li_6, li_7, li_8, li_9, li_10, li_11, li_12, li_13, li_14, li_15, li_16, li_17, li_18, li_19, li_20, li_21, li_22, li_23, li_24, li_25, li_26, li_27, li_28, li_29, li_30, li_31, li_32, li_33, li_34, li_35, li_36, li_37, li_38, li_39, li_40, li_41, li_42, li_43, li_44, li_45, li_46, li_47, li_48, li_49, li_50, li_51, li_52, li_53, li_54, li_55, li_56, li_57, li_58, li_59, li_60, li_61, li_62, li_63, li_64, li_65, li_66, li_96, li_97, li_99, li_100, li_122, li_125, li_126, li_140, li_255, li_256, li_999, li_1000, li_1001, li_1002, li_1100, li_1386, li_1452, li_1518, li_9999, li_1000000, eth, bd_s, hne, ↓reduceIte, eh, nI_andN, q', nI_add, k1, ite_self]
          · obtain ⟨j, j1, j2⟩ := and_ne q
            have e2 := unb_s G M t
            rw [if_neg (ne_and j1 (h2 j j2))] at e2
            exact k4 M h1 h2 (by omega)
      obtain ⟨B1, s1, s2, s3, s4⟩ := skip
      have hB1m : ∀ m, B1 = some m → m < 16777216 := fun m h => (s2 m h).elim (hBm m) (fun h => h.1)
      -- the branches by an hour of his
      have key := lpI2 (fun k120 => f_X13_watches_120s fu (f_X13_watchesD fu d) k120 (nI t) (nI set) (nI left) (nI (hr G t))) (fun h x w => x = nI h ∧ ∃ Bh : Option Nat, w = sI v 37 (oI Bh) ∧ (∀ m, Bh = some m → B1 = some m ∨ (m < 16777216 ∧ unb G m (nt G) ≤ but)) ∧ (∀ m, B1 = some m → ∃ m', Bh = some m' ∧ ky m' ≤ ky m) ∧ (∀ M, M < 16777216 → (∀ j, set.testBit j = true → M.testBit j = true) → unb G M (nt G) ≤ unb G M t + left → (∃ j, j < h ∧ (hr G t).testBit j = true ∧ M.testBit j = true) → ∃ m', Bh = some m' ∧ ky m' ≤ ky M)) (fun r => ∃ Bh : Option Nat, r = some (sI v 37 (oI Bh)) ∧ (∀ m, Bh = some m → B1 = some m ∨ (m < 16777216 ∧ unb G m (nt G) ≤ but)) ∧ (∀ m, B1 = some m → ∃ m', Bh = some m' ∧ ky m' ≤ ky m) ∧ (∀ M, M < 16777216 → (∀ j, set.testBit j = true → M.testBit j = true) → unb G M (nt G) ≤ unb G M t + left → (∃ j, j < 24 ∧ (hr G t).testBit j = true ∧ M.testBit j = true) → ∃ m', Bh = some m' ∧ ky m' ≤ ky M)) 24 ?_ ?_ fu 0 (nI 0) (sI v 37 (oI B1)) ⟨rfl, B1, rfl, fun m h => Or.inl h, fun m h => ⟨m, h, Nat.le_refl _⟩, fun M _ _ _ q => by obtain ⟨j, j1, _⟩ := q; omega⟩ (by omega) (by omega)
      · obtain ⟨r, ⟨Bh, e, b1, b2, b3⟩, e2⟩ := key
        refine ⟨Bh, ?_, fun m h => ?_, fun m h => ?_, fun M h1 h2 h3 => ?_⟩
        · rw [s1, f_X13_watches_117, f_X13_watches_120, ← e, ← e2]
          simp only [↓lm_1, ↓lm_2, ↓lm_3, ↓lm_4, ↓lm_5, ↓lm_6, ↓lm_7, ↓lm_8, ↓lm_9, ↓lm_10, ↓lm_11, li_0, li_1, li_2, li_3, li_4, li_5, li_6, li_7, li_8, li_9, li_10, li_11, li_12, li_13, li_14, li_15, li_16, li_17, li_18, li_19, li_20, li_21, li_22, li_23, li_24, li_25, li_26, li_27, li_28, li_29, li_30, li_31, li_32, li_33, li_34, li_35, li_36, li_37, li_38, li_39, li_40, li_41, li_42, li_43, li_44, li_45, li_46, li_47, li_48, li_49, li_50, li_51, li_52, li_53, li_54, li_55, li_56, li_57, li_58, li_59, li_60, li_61, li_62, li_63, li_64, li_65, li_66, li_96, li_97, li_99, li_100, li_122, li_125, li_126, li_140, li_255, li_256, li_999, li_1000, li_1001, li_1002, li_1100, li_1386, li_1452, li_1518, li_9999, li_1000000]
        · rcases b1 m h with q | q
          · exact s2 m q
          · exact Or.inr q
        · obtain ⟨m', q1, q2⟩ := s3 m h
          obtain ⟨m2, q3, q4⟩ := b2 m' q1
          exact ⟨m2, q3, by omega⟩
        · by_cases q : hr G t &&& set ≠ 0 ∨ hr G t &&& M = 0
          · obtain ⟨m', q1, q2⟩ := s4 M h1 h2 h3 q
            obtain ⟨m2, q3, q4⟩ := b2 m' q1
            exact ⟨m2, q3, by omega⟩
          · have q' : hr G t &&& M ≠ 0 := fun e => q (Or.inr e)
            obtain ⟨j, j1, j2⟩ := and_ne q'
            exact b3 M h1 h2 h3 ⟨j, tb24 h1 j2, j1, j2⟩
      · rintro x w ⟨rfl, Bh, rfl, b1, b2, b3⟩
        refine ⟨_, ⟨Bh, rfl, b1, b2, b3⟩, fun rec => ?_⟩
        have e : nI 24 ≤ nI 24 := by decide
        simp only [f_X13_watches_120s, ↓lm_1, ↓lm_2, ↓lm_3, ↓lm_4, ↓lm_5, ↓lm_6, ↓lm_7, ↓lm_8, ↓lm_9, ↓lm_10, ↓lm_11, li_0, li_1, li_2, li_3, li_4, li_5, li_6, li_7, li_8, li_9, li_10, li_11, li_12, li_13, li_14, li_15, li_16, li_17, li_18, li_19, li_20, li_21, li_22, li_23, li_24, li_25, li_26, li_27, li_28, li_29, li_30, li_31, li_32, li_33, li_34, li_35, li_36, li_37, li_38, li_39, li_40, li_41, li_42, li_43, li_44, li_45, li_46, li_47, li_48, li_49, li_50, li_51, li_52, li_53, li_54, li_55, li_56, li_57, li_58, li_59, li_60, li_61, li_62, li_63, li_64, li_65, li_66, li_96, li_97, li_99, li_100, li_122, li_125, li_126, li_140, li_255, li_256, li_999, li_1000, li_1001, li_1002, li_1100, li_1386, li_1452, li_1518, li_9999, li_1000000, e, ↓reduceIte]
      · rintro h x w hh ⟨rfl, Bh, rfl, b1, b2, b3⟩
        have e : ¬ nI 24 ≤ nI h := nI_ge hh (by omega)
        have p2 : 2 ^ h < 16777216 := Nat.pow_lt_pow_right (a := 2) (by decide) hh
        have hbt := bt_lt (hr G t) h
        by_cases q : bt (hr G t) h = 1
        · have qt := (bt_tb _ _).mp q
          have hso : set ||| 2 ^ h < 16777216 := Nat.or_lt_two_pow (n := 24) hset p2
          have hseen : hr G t &&& (set ||| 2 ^ h) ≠ 0 := ne_and qt (by rw [Nat.testBit_or, Nat.testBit_two_pow]; simp)
          have e1 := unb_s G (set ||| 2 ^ h) t
          rw [if_neg hseen] at e1
          have e2 := unb_anti G (a := set) (b := set ||| 2 ^ h) (fun j hj => by rw [Nat.testBit_or, hj]; rfl) t
          obtain ⟨B2, k1, k2, k3, k4⟩ := ih (t + 1) (by omega) (by omega) (sI v 37 (oI Bh)) (set ||| 2 ^ h) left Bh hM hso hleft (by rw [gI_sI, if_pos rfl]) (fun m h => (b1 m h).elim (hB1m m) (fun h => h.1)) (by omega)
          rw [sI_sI] at k1
          refine Or.inl ⟨nI (h + 1), sI v 37 (oI B2), ⟨rfl, B2, rfl, fun m h' => ?_, fun m h' => ?_, fun M h1 h2 h3 h4 => ?_⟩, fun rec => ?_⟩
          · rcases k2 m h' with q1 | q1
            · exact b1 m q1
            · exact Or.inr q1
          · obtain ⟨m', q1, q2⟩ := b2 m h'
            obtain ⟨m2, q3, q4⟩ := k3 m' q1
            exact ⟨m2, q3, by omega⟩
          · obtain ⟨j, j1, j2, j3⟩ := h4
            by_cases ej : j = h
            · subst ej
              have e3 := unb_s G M t
              rw [if_neg (ne_and j2 j3)] at e3
              refine k4 M h1 (fun i hi => ?_) (by omega)
              rw [Nat.testBit_or, Nat.testBit_two_pow] at hi
              by_cases ei : j = i
              · subst ei; exact j3
              · simp [ei] at hi; exact h2 i hi
            · obtain ⟨m', q1, q2⟩ := b3 M h1 h2 h3 ⟨j, by omega, j2, j3⟩
              obtain ⟨m2, q3, q4⟩ := k3 m' q1
              exact ⟨m2, q3, by omega⟩
          · simp (disch := omega) only [f_X13_watches_120s, f_X13_watches_152, ↓lm_1, ↓lm_2, ↓lm_3, ↓lm_4, ↓lm_5, ↓lm_6, ↓lm_7, ↓lm_8, ↓lm_9, ↓lm_10, ↓lm_11, li_0, li_1, li_2, li_3, li_4, li_5, li_6, li_7, li_8, li_9, li_10, li_11, li_12, li_13, li_14, li_15, li_16, li_17, li_18, li_19, li_20, li_21, li_22, li_23, li_24, li_25, li_26, li_27, li_28, li_29, li_30, li_31, li_32, li_33, li_34, li_35, li_36, li_37, li_38, li_39, li_40, li_41, li_42, li_43, li_44, li_45, li_46, li_47, li_48, li_49, li_50, li_51, li_52, li_53, li_54, li_55, li_56, li_57, li_58, li_59, li_60, li_61, li_62, li_63, li_64, li_65, li_66, li_96, li_97, li_99, li_100, li_122, li_125, li_126, li_140, li_255, li_256, li_999, li_1000, li_1001, li_1002, li_1100, li_1386, li_1452, li_1518, li_9999, li_1000000, e, ↓reduceIte, nI_and31, nI_bt, q, nI_add, nI_shl1, nI_orN, k1, bd_s, nm_eq]
        · refine Or.inl ⟨nI (h + 1), sI v 37 (oI Bh), ⟨rfl, Bh, rfl, b1, b2, fun M h1 h2 h3 h4 => ?_⟩, fun rec => ?_⟩
          · obtain ⟨j, j1, j2, j3⟩ := h4
            by_cases ej : j = h
            · subst ej; exact absurd ((bt_tb _ _).mpr j2) q
            · exact b3 M h1 h2 h3 ⟨j, by omega, j2, j3⟩
          · have q0 : bt (hr G t) h = 0 := by omega
            have n01 : ¬ nI 0 = nI 1 := by decide
            simp (disch := omega) only [f_X13_watches_120s, f_X13_watches_152, ↓lm_1, ↓lm_2, ↓lm_3, ↓lm_4, ↓lm_5, ↓lm_6, ↓lm_7, ↓lm_8, ↓lm_9, ↓lm_10, ↓lm_11, li_0, li_1, li_2, li_3, li_4, li_5, li_6, li_7, li_8, li_9, li_10, li_11, li_12, li_13, li_14, li_15, li_16, li_17, li_18, li_19, li_20, li_21, li_22, li_23, li_24, li_25, li_26, li_27, li_28, li_29, li_30, li_31, li_32, li_33, li_34, li_35, li_36, li_37, li_38, li_39, li_40, li_41, li_42, li_43, li_44, li_45, li_46, li_47, li_48, li_49, li_50, li_51, li_52, li_53, li_54, li_55, li_56, li_57, li_58, li_59, li_60, li_61, li_62, li_63, li_64, li_65, li_66, li_96, li_97, li_99, li_100, li_122, li_125, li_126, li_140, li_255, li_256, li_999, li_1000, li_1001, li_1002, li_1100, li_1386, li_1452, li_1518, li_9999, li_1000000, e, ↓reduceIte, nI_and31, nI_bt, q0, n01, nI_add, nm_eq]
end MW
theorem r_watch {fu p : Nat} {S : ST} {v : GV} (hf : 1101 ≤ fu) (h : RR p S v) (x : Int32) : ∃ z S' v', f_X12_watch fu S p x = some (z, S') ∧ f_X13_watch fu v x = some (z, v') ∧ RR p S' v' := by
  obtain ⟨A, hA, hC, hM⟩ := h
  have hno : RR p S (sI v 0 (nI 0)) := RR_q hA hC hM (scr_refl p S) (q1 v)
  by_cases hx : ∃ j, j < 5 + 1 ∧ x = nI j
  · obtain ⟨but, hb, rfl⟩ := hx
    have hG := hA.1
    have h5 := hG.2.1
    obtain ⟨b, S', w1, w2, w3⟩ := c_watch (S := S) (p := p) hf hA hC (show but ≤ 5 by omega)
    have hg : MG (sI (sI v 0 (nI 0)) 37 (mI 1)) (aG A) := hM.2.1
    obtain ⟨B, k1, k2, k3, k4⟩ := m_watches (fu := fu) (but := but) hf hG 8 0 (by omega) (by omega) (sI (sI v 0 (nI 0)) 37 (mI 1)) 0 but none hg (by omega) (by omega) (by rw [gI_sI, if_pos rfl]; rfl) (fun m h => by cases h) (by simp only [unb, cnt]; omega)
    have hle : ∀ m, m < 16777216 → unb (aG A) m (nt (aG A)) ≤ but → ∃ b', B = some b' ∧ ky b' ≤ ky m := by
      intro m hm hu
      exact k4 m hm (fun j hj => by rw [Nat.zero_testBit] at hj; exact absurd hj (by decide)) (by simp only [unb, cnt] at hu ⊢; omega)
    obtain ⟨b', e1, _⟩ := hle b w1.1 w1.2.1
    subst e1
    have hb' : okW (aG A) but b' := by
      rcases k2 b' rfl with q | q
      · cases q
      · refine ⟨q.1, q.2, fun m hm hu => ?_⟩
        obtain ⟨b2, e2, e3⟩ := hle m hm hu
        cases e2; exact e3
    have e := okW_one w1 hb'
    subst e
    rw [sI_sI] at k1
    refine ⟨nI b, S', sI (sI v 0 (nI 0)) 37 (nI b), w2, ?_, RR_q hA hC hM w3 (mscr_sI (q1 v) (by decide) (by decide) (by decide))⟩
    have k1' : f_X13_watchesD fu 8 (sI (sI v 0 (nI 0)) 37 (mI 1)) (nI 0) (nI 0) (nI but) = some (sI (sI v 0 (nI 0)) 37 (nI b)) := k1
    simp (disch := omega) only [f_X13_watch, f_X13_watch_0, ↓lm_1, ↓lm_2, ↓lm_3, ↓lm_4, ↓lm_5, ↓lm_6, ↓lm_7, ↓lm_8, ↓lm_9, ↓lm_10, ↓lm_11, li_0, li_1, li_2, li_3, li_4, li_5, li_6, li_7, li_8, li_9, li_10, li_11, li_12, li_13, li_14, li_15, li_16, li_17, li_18, li_19, li_20, li_21, li_22, li_23, li_24, li_25, li_26, li_27, li_28, li_29, li_30, li_31, li_32, li_33, li_34, li_35, li_36, li_37, li_38, li_39, li_40, li_41, li_42, li_43, li_44, li_45, li_46, li_47, li_48, li_49, li_50, li_51, li_52, li_53, li_54, li_55, li_56, li_57, li_58, li_59, li_60, li_61, li_62, li_63, li_64, li_65, li_66, li_96, li_97, li_99, li_100, li_122, li_125, li_126, li_140, li_255, li_256, li_999, li_1000, li_1001, li_1002, li_1100, li_1386, li_1452, li_1518, li_9999, li_1000000, nm_eq, w_in, bd_s, n10, ↓reduceIte, k1', gI_sI]
  · refine ⟨mI 1, S, sI v 0 (nI 0), ?_, ?_, hno⟩
    · simp only [f_X12_watch, f_X12_watch_0, f_X12_watch_9, ↓lm_1, ↓lm_2, ↓lm_3, ↓lm_4, ↓lm_5, ↓lm_6, ↓lm_7, ↓lm_8, ↓lm_9, ↓lm_10, ↓lm_11, li_0, li_1, li_2, li_3, li_4, li_5, li_6, li_7, li_8, li_9, li_10, li_11, li_12, li_13, li_14, li_15, li_16, li_17, li_18, li_19, li_20, li_21, li_22, li_23, li_24, li_25, li_26, li_27, li_28, li_29, li_30, li_31, li_32, li_33, li_34, li_35, li_36, li_37, li_38, li_39, li_40, li_41, li_42, li_43, li_44, li_45, li_46, li_47, li_48, li_49, li_50, li_51, li_52, li_53, li_54, li_55, li_56, li_57, li_58, li_59, li_60, li_61, li_62, li_63, li_64, li_65, li_66, li_96, li_97, li_99, li_100, li_122, li_125, li_126, li_140, li_255, li_256, li_999, li_1000, li_1001, li_1002, li_1100, li_1386, li_1452, li_1518, li_9999, li_1000000]
      rcases w0_out (by omega) hx with c | ⟨c, c2⟩
      · rw [if_pos c]
      · rw [if_neg c, if_neg]
        rw [Int32.lt_iff_toInt_lt] at c2
        rw [Int32.le_iff_toInt_le]; omega
    · simp (disch := omega) only [f_X13_watch, f_X13_watch_0, ↓lm_1, ↓lm_2, ↓lm_3, ↓lm_4, ↓lm_5, ↓lm_6, ↓lm_7, ↓lm_8, ↓lm_9, ↓lm_10, ↓lm_11, li_0, li_1, li_2, li_3, li_4, li_5, li_6, li_7, li_8, li_9, li_10, li_11, li_12, li_13, li_14, li_15, li_16, li_17, li_18, li_19, li_20, li_21, li_22, li_23, li_24, li_25, li_26, li_27, li_28, li_29, li_30, li_31, li_32, li_33, li_34, li_35, li_36, li_37, li_38, li_39, li_40, li_41, li_42, li_43, li_44, li_45, li_46, li_47, li_48, li_49, li_50, li_51, li_52, li_53, li_54, li_55, li_56, li_57, li_58, li_59, li_60, li_61, li_62, li_63, li_64, li_65, li_66, li_96, li_97, li_99, li_100, li_122, li_125, li_126, li_140, li_255, li_256, li_999, li_1000, li_1001, li_1002, li_1100, li_1386, li_1452, li_1518, li_9999, li_1000000, nm_eq, w_out hx, bd_s, ↓reduceIte]
