/-! ===== gallery: a law is read; its steps as class and model write them ===== -/
def dO (v : GV) : Nat → Int32 := fun x => gA v 11 (1100 + x)
def dA (v : GV) : Nat → Int32 := fun x => gA v 12 (1100 + x)
def hOK (op arg : Nat → Int32) (fr len : Nat) : Prop := ∀ k, k < len → (op (fr + k) = nI 1 ∧ tp op fr k < 32) ∨ (op (fr + k) = nI 2 ∧ (∃ a, a < 4 ∧ arg (fr + k) = nI a) ∧ tp op fr k < 32) ∨ (op (fr + k) = nI 3 ∧ 1 ≤ tp op fr k) ∨ (∃ o, 4 ≤ o ∧ o ≤ 10 ∧ op (fr + k) = nI o ∧ 2 ≤ tp op fr k)
def HT (v : GV) (c0 u h : Nat) : Prop := hOK (dO v) (dA v) c0 u ∧ tp (dO v) c0 u = h
theorem tp_ext {op op' : Nat → Int32} {fr : Nat} : ∀ k, (∀ j, j < k → op' (fr + j) = op (fr + j)) → tp op' fr k = tp op fr k := by
  intro k
  induction k with
  | zero => intro _; rfl
  | succ k ih =>
    intro h
    simp only [tp]
    rw [h k (by omega), ih (fun j hj => h j (by omega))]
theorem hOK_ext {op op' arg arg' : Nat → Int32} {fr len : Nat} (h1 : ∀ j, j < len → op' (fr + j) = op (fr + j)) (h2 : ∀ j, j < len → arg' (fr + j) = arg (fr + j)) (h : hOK op arg fr len) : hOK op' arg' fr len := by
  intro k hk
  rw [h1 k hk, h2 k hk, tp_ext k (fun j hj => h1 j (by omega))]
  exact h k hk
def em (v : GV) (c : Nat) (o y : Int32) : GV := sI (sA (sA v 11 (1100 + c) o) 12 (1100 + c) y) 13 (nI (c + 1))
def pu (r : GV) (u : Nat) (x : Int32) : GV := sI (sA r 1 u x) 2 (nI (u + 1))
theorem dO_em (v : GV) (c : Nat) (o y : Int32) (x : Nat) : dO (em v c o y) x = if x = c then o else dO v x := by
  simp only [dO, em, gA_sI]
  rw [gA_sAn _ _ _ (by decide), gA_sA]
  by_cases e : x = c
  · rw [if_pos (by omega), if_pos e]
  · rw [if_neg (by omega), if_neg e]
theorem dA_em (v : GV) (c : Nat) (o y : Int32) (x : Nat) : dA (em v c o y) x = if x = c then y else dA v x := by
  simp only [dA, em, gA_sI]
  rw [gA_sA]
  by_cases e : x = c
  · rw [if_pos (by omega), if_pos e]
  · rw [if_neg (by omega), if_neg e, gA_sAn _ _ _ (by decide)]
theorem HT_s {v : GV} {c0 u h h' : Nat} {o y : Int32} (k : HT v c0 u h) (h1 : (o = nI 1 ∧ h < 32 ∧ h' = h + 1) ∨ (o = nI 2 ∧ (∃ a, a < 4 ∧ y = nI a) ∧ h < 32 ∧ h' = h + 1) ∨ (o = nI 3 ∧ 1 ≤ h ∧ h' = h) ∨ (∃ m, 4 ≤ m ∧ m ≤ 10 ∧ o = nI m ∧ 2 ≤ h ∧ h' = h - 1)) : HT (em v (c0 + u) o y) c0 (u + 1) h' := by
  obtain ⟨k1, k2⟩ := k
  have eo : ∀ j, j < u → dO (em v (c0 + u) o y) (c0 + j) = dO v (c0 + j) := fun j hj => by rw [dO_em, if_neg (by omega)]
  have ea : ∀ j, j < u → dA (em v (c0 + u) o y) (c0 + j) = dA v (c0 + j) := fun j hj => by rw [dA_em, if_neg (by omega)]
  have ou : dO (em v (c0 + u) o y) (c0 + u) = o := by rw [dO_em, if_pos rfl]
  have au : dA (em v (c0 + u) o y) (c0 + u) = y := by rw [dA_em, if_pos rfl]
  have tu : tp (dO (em v (c0 + u) o y)) c0 u = h := by rw [tp_ext u eo]; exact k2
  refine ⟨fun j hj => ?_, ?_⟩
  · by_cases e : j = u
    · subst e
      rw [ou, au, tu]
      rcases h1 with ⟨e, q, _⟩ | ⟨e, q2, q, _⟩ | ⟨e, q, _⟩ | ⟨m, m1, m2, e, q, _⟩
      · exact Or.inl ⟨e, q⟩
      · exact Or.inr (Or.inl ⟨e, q2, q⟩)
      · exact Or.inr (Or.inr (Or.inl ⟨e, q⟩))
      · exact Or.inr (Or.inr (Or.inr ⟨m, m1, m2, e, q⟩))
    · exact hOK_ext eo ea k1 j (by omega)
  · simp only [tp]
    rw [ou, tu]
    rcases h1 with ⟨e, q, q2⟩ | ⟨e, _, q, q2⟩ | ⟨e, q, q2⟩ | ⟨m, m1, m2, e, q, q2⟩
    · rw [if_pos (Or.inl e), q2]
    · rw [if_pos (Or.inr e), q2]
    · rw [e, if_neg (by decide), if_pos rfl, q2]
    · rw [e, if_neg (by rw [nI_eq (by omega) (by omega), nI_eq (by omega) (by omega)]; omega), if_neg (by rw [nI_eq (by omega) (by omega)]; omega), q2]
/-- class and model while a law is read -/
def PE (K : KT) (w : GV) (p th c0 : Nat) (S : ST) (v : GV) (a fl u : Nat) : Prop := okP K a fl ∧ S (p + 1) = tw w a fl ∧ (gC (S (p + 7)) = 5 ∧ gR (S (p + 7)) 0 = some (p + 1) ∧ gI (S (p + 7)) 3 = nI (26 + th) ∧ gI (S (p + 7)) 2 = nI u) ∧ MB v K ∧ WB9 v ∧ gI v 13 = nI (c0 + u) ∧ gI v 20 = nI (3 + 2 ^ th) ∧ ∀ k, k < u → csR th (gA (S (p + 7)) 1 k) (dO v (c0 + k)) (dA v (c0 + k))
def FR (p : Nat) (S S' : ST) : Prop := ∀ b, b ≠ p + 1 → b ≠ p + 7 → S' b = S b
def MF (c0 : Nat) (v v' : GV) : Prop := (∀ k, k ≠ 11 → k ≠ 12 → gA v' k = gA v k) ∧ (∀ x, x < 1100 + c0 → gA v' 11 x = gA v 11 x ∧ gA v' 12 x = gA v 12 x) ∧ (∀ k, k ≠ 13 → gI v' k = gI v k) ∧ gL v' = gL v ∧ gC v' = gC v
theorem FR_refl (p : Nat) (S : ST) : FR p S S := fun _ _ _ => rfl
theorem FR_trans {p : Nat} {S S' T : ST} (h : FR p S S') (k : FR p S' T) : FR p S T := fun b h1 h2 => (k b h1 h2).trans (h b h1 h2)
theorem FR_1 {p : Nat} {S : ST} {x : GV} : FR p S (st S (p + 1) x) := fun _ h1 _ => st_ne _ _ h1
theorem FR_7 {p : Nat} {S : ST} {x : GV} : FR p S (st S (p + 7) x) := fun _ _ h1 => st_ne _ _ h1
theorem MF_refl (c : Nat) (v : GV) : MF c v v := ⟨fun _ _ _ => rfl, fun _ _ => ⟨rfl, rfl⟩, fun _ _ => rfl, rfl, rfl⟩
theorem MF_trans {c : Nat} {v v' w : GV} (h : MF c v v') (k : MF c v' w) : MF c v w := ⟨fun j a b => (k.1 j a b).trans (h.1 j a b), fun x a => ⟨(k.2.1 x a).1.trans (h.2.1 x a).1, (k.2.1 x a).2.trans (h.2.1 x a).2⟩, fun j a => (k.2.2.1 j a).trans (h.2.2.1 j a), k.2.2.2.1.trans h.2.2.2.1, k.2.2.2.2.trans h.2.2.2.2⟩
theorem MF_em {c0 u : Nat} {v : GV} {o y : Int32} : MF c0 v (em v (c0 + u) o y) := by
  refine ⟨fun k h1 h2 => ?_, fun x hx => ⟨?_, ?_⟩, fun k hk => ?_, rfl, rfl⟩
  · rw [em, gA_sI, gA_sAn _ _ _ h2, gA_sAn _ _ _ h1]
  · rw [em, gA_sI, gA_sAn _ _ _ (by decide), gA_sA, if_neg (by omega)]
  · rw [em, gA_sI, gA_sA, if_neg (by omega), gA_sAn _ _ _ (by decide)]
  · rw [em, gI_sI, if_neg hk]; rfl
theorem MB_MF {c : Nat} {v v' : GV} {K : KT} (h : MB v K) (k : MF c v v') : MB v' K := by
  intro i hi
  obtain ⟨a, b, c⟩ := h i hi
  refine ⟨?_, ?_, fun q => ?_⟩
  · rw [k.1 4 (by decide) (by decide)]; exact a
  · rw [k.1 5 (by decide) (by decide)]; exact b
  · rw [k.2.2.2.1]; exact c q
theorem WB_MF {c : Nat} {v v' : GV} (h : WB9 v) (k : MF c v v') : WB9 v' := fun i hi => by rw [k.2.2.2.1]; exact h i hi
section Q
variable {fu p th c0 : Nat} {K : KT} {w : GV}
theorem PE_t {S : ST} {v : GV} {a fl u a' fl' : Nat} (h : PE K w p th c0 S v a fl u) (h' : okP K a' fl') : PE K w p th c0 (st S (p + 1) (tw w a' fl')) v a' fl' u := by
  obtain ⟨h1, h2, h3, h4⟩ := h
  rw [PE, st_same, st_ne _ _ (show p + 7 ≠ p + 1 by omega)]
  exact ⟨h', rfl, h3, h4⟩
theorem PE_em {S : ST} {v : GV} {a fl u : Nat} {x o y : Int32} (h : PE K w p th c0 S v a fl u) (hx : csR th x o y) (hu : c0 + u < 1000) : f_X5_put fu (S (p + 7)) x = some (pu (S (p + 7)) u x) ∧ f_X13_emit fu (mw v a fl) o y = some (mw (em v (c0 + u) o y) a fl) ∧ PE K w p th c0 (st S (p + 7) (pu (S (p + 7)) u x)) (em v (c0 + u) o y) a fl (u + 1) := by
  obtain ⟨h1, h2, ⟨h3, h4, h5, h6⟩, h7, h8, h9, h10, h11⟩ := h
  refine ⟨?_, ?_, h1, ?_, ⟨?_, ?_, ?_, ?_⟩, MB_MF (c := c0) h7 MF_em, WB_MF (c := c0) h8 MF_em, ?_, ?_, fun k hk => ?_⟩
  · have e : ¬ nI 1000 ≤ nI u := nI_ge (by omega) (by omega)
    simp (disch := omega) only [f_X5_put, f_X5_put_0, ↓lm_1, ↓lm_2, ↓lm_3, ↓lm_4, ↓lm_5, ↓lm_6, ↓lm_7, ↓lm_8, ↓lm_9, ↓lm_10, ↓lm_11, li_0, li_1, li_2, li_3, li_4, li_5, li_6, li_7, li_8, li_9, li_10, li_11, li_12, li_13, li_14, li_15, li_16, li_17, li_18, li_19, li_20, li_21, li_22, li_23, li_24, li_25, li_26, li_27, li_28, li_29, li_30, li_31, li_32, li_33, li_34, li_35, li_36, li_37, li_38, li_39, li_40, li_41, li_42, li_43, li_44, li_45, li_46, li_47, li_48, li_49, li_50, li_51, li_52, li_53, li_54, li_55, li_56, li_57, li_58, li_59, li_60, li_61, li_62, li_63, li_64, li_65, li_66, li_96, li_97, li_99, li_100, li_122, li_125, li_126, li_140, li_255, li_256, li_999, li_1000, li_1001, li_1002, li_1100, li_1386, li_1452, li_1518, li_9999, li_1000000, h6, e, ↓reduceIte, inb_n, ck_t, nI_clamp, nm_eq, gI_sA, nI_add, pu]
  · simp (disch := omega) only [f_X13_emit, f_X13_emit_0, ↓lm_1, ↓lm_2, ↓lm_3, ↓lm_4, ↓lm_5, ↓lm_6, ↓lm_7, ↓lm_8, ↓lm_9, ↓lm_10, ↓lm_11, li_0, li_1, li_2, li_3, li_4, li_5, li_6, li_7, li_8, li_9, li_10, li_11, li_12, li_13, li_14, li_15, li_16, li_17, li_18, li_19, li_20, li_21, li_22, li_23, li_24, li_25, li_26, li_27, li_28, li_29, li_30, li_31, li_32, li_33, li_34, li_35, li_36, li_37, li_38, li_39, li_40, li_41, li_42, li_43, li_44, li_45, li_46, li_47, li_48, li_49, li_50, li_51, li_52, li_53, li_54, li_55, li_56, li_57, li_58, li_59, li_60, li_61, li_62, li_63, li_64, li_65, li_66, li_96, li_97, li_99, li_100, li_122, li_125, li_126, li_140, li_255, li_256, li_999, li_1000, li_1001, li_1002, li_1100, li_1386, li_1452, li_1518, li_9999, li_1000000, mw_I, mw_sA, h9, gI_sA, nI_add, inb_n, ck_t, nI_clamp, nm_eq, mw_sI, em]
  · rw [st_ne _ _ (by omega)]; exact h2
  · rw [st_same]; exact h3
  · rw [st_same]; exact h4
  · rw [st_same, pu, gI_sI, if_neg (by decide)]; exact h5
  · rw [st_same, pu, gI_sI, if_pos rfl]
  · rw [em, gI_sI, if_pos rfl]; rfl
  · rw [em, gI_sI, if_neg (by decide)]; exact h10
  · rw [st_same, pu, gA_sI, gA_sA, dO_em, dA_em]
    by_cases e : k = u
    · subst e; rw [if_pos rfl, if_pos rfl, if_pos rfl]; exact hx
    · rw [if_neg e, if_neg (by omega), if_neg (by omega)]; exact h11 k (by omega)
/-- a piece of a law is read alike -/
def PS (K : KT) (w : GV) (p th c0 B : Nat) (F : ST → Option ST) (Fm : GV → Option GV) : Prop := ∀ S v a fl u h, PE K w p th c0 S v a fl u → c0 + u + 1 ≤ a → (fl = 0 → HT v c0 u h ∧ h ≤ B) → ∃ S' v' a' fl' u', F S = some S' ∧ Fm (mw v a fl) = some (mw v' a' fl') ∧ PE K w p th c0 S' v' a' fl' u' ∧ FR p S S' ∧ MF c0 v v' ∧ a ≤ a' ∧ u' + a ≤ u + a' ∧ (fl' = 0 → fl = 0 ∧ a < a' ∧ HT v' c0 u' (h + 1))
def PB (K : KT) (w : GV) (p th c0 B : Nat) (F : (Int32 → ST → Option ST) → Int32 → ST → Option ST) (Fm : (GV → Option GV) → GV → Option GV) : Prop := ∀ i S v a fl u h, i < 1000 → PE K w p th c0 S v a fl u → c0 + u + 1 ≤ a → (fl = 0 → HT v c0 u (h + 1) ∧ h ≤ B) → (∀ k km, F k (nI i) S = some S ∧ Fm km (mw v a fl) = some (mw v a fl)) ∨ ∃ S' v' a' fl' u', (∀ k km, F k (nI i) S = k (nI (i + 1)) S' ∧ Fm km (mw v a fl) = km (mw v' a' fl')) ∧ PE K w p th c0 S' v' a' fl' u' ∧ FR p S S' ∧ MF c0 v v' ∧ a < a' ∧ u' + a ≤ u + a' ∧ (fl' = 0 → fl = 0 ∧ HT v' c0 u' (h + 1))
theorem PS_mono {B B' : Nat} {F : ST → Option ST} {Fm : GV → Option GV} (h : PS K w p th c0 B F Fm) (hb : B' ≤ B) : PS K w p th c0 B' F Fm := fun S v a fl u x h1 h2 h3 => h S v a fl u x h1 h2 (fun q => ⟨(h3 q).1, by have := (h3 q).2; omega⟩)
theorem PB_loop {B : Nat} {F : (Int32 → ST → Option ST) → Int32 → ST → Option ST} {Fm : (GV → Option GV) → GV → Option GV} (hK : okK K) (hB : PB K w p th c0 B F Fm) : ∀ r i n1 n2 S v a fl u h, a + r = 1001 → r < n1 → r < n2 → i + 1 ≤ a → PE K w p th c0 S v a fl u → c0 + u + 1 ≤ a → (fl = 0 → HT v c0 u (h + 1) ∧ h ≤ B) → ∃ S' v' a' fl' u', lq_2 F n1 (nI i) S = some S' ∧ lq_1 Fm n2 (mw v a fl) = some (mw v' a' fl') ∧ PE K w p th c0 S' v' a' fl' u' ∧ FR p S S' ∧ MF c0 v v' ∧ a ≤ a' ∧ u' + a ≤ u + a' ∧ (fl' = 0 → fl = 0 ∧ HT v' c0 u' (h + 1)) := by
  intro r
  induction r using Nat.strongRecOn with
  | _ r ih =>
    intro i n1 n2 S v a fl u h har hn1 hn2 hi hE hc hh
    obtain ⟨n1, rfl⟩ : ∃ k, n1 = k + 1 := ⟨n1 - 1, by omega⟩
    obtain ⟨n2, rfl⟩ : ∃ k, n2 = k + 1 := ⟨n2 - 1, by omega⟩
    have ha := hE.1.1
    have hN := hK.1
    rw [lq2_s, lq1_s]
    rcases hB i S v a fl u h (by omega) hE hc hh with q | ⟨S1, v1, a1, fl1, u1, q, e1, e2, e3, e4, e5, e6⟩
    · obtain ⟨q1, q2⟩ := q (lq_2 F n1) (lq_1 Fm n2)
      exact ⟨S, v, a, fl, u, q1, q2, hE, FR_refl p S, MF_refl c0 v, Nat.le_refl _, Nat.le_refl _, fun q => ⟨q, (hh q).1⟩⟩
    · obtain ⟨q1, q2⟩ := q (lq_2 F n1) (lq_1 Fm n2)
      have ha1 := e1.1.1
      obtain ⟨S2, v2, a2, fl2, u2, d1, d2, d3, d4, d5, d6, d7, d8⟩ := ih (1001 - a1) (by omega) (i + 1) n1 n2 S1 v1 a1 fl1 u1 h (by omega) (by omega) (by omega) (by omega) e1 (by omega) (fun z => ⟨(e6 z).2, (hh (e6 z).1).2⟩)
      exact ⟨S2, v2, a2, fl2, u2, by rw [q1, d1], by rw [q2, d2], d3, FR_trans e2 d4, MF_trans e3 d5, by omega, by omega, fun z => ⟨(e6 (d8 z).1).1, (d8 z).2⟩⟩
theorem PS_loop {B : Nat} {F1 : ST → Option ST} {F1m : GV → Option GV} {F : (Int32 → ST → Option ST) → Int32 → ST → Option ST} {Fm : (GV → Option GV) → GV → Option GV} (hf : 1101 ≤ fu) (hK : okK K) (h1 : PS K w p th c0 B F1 F1m) (hB : PB K w p th c0 B F Fm) : PS K w p th c0 B (fun S => bd (F1 S) fun S2 => lq_2 F fu (nI 0) S2) (fun v => bd (F1m v) fun v2 => lq_1 Fm fu v2) := by
  intro S v a fl u h hE hc hh
  obtain ⟨S1, v1, a1, fl1, u1, e1, e2, e3, e4, e5, e6, e7, e8⟩ := h1 S v a fl u h hE hc hh
  have ha1 := e3.1.1
  have hN := hK.1
  obtain ⟨S2, v2, a2, fl2, u2, d1, d2, d3, d4, d5, d6, d7, d8⟩ := PB_loop hK hB (1001 - a1) 0 fu fu S1 v1 a1 fl1 u1 h (by omega) (by omega) (by omega) (by omega) e3 (by omega) (fun z => ⟨(e8 z).2.2, (hh (e8 z).1).2⟩)
  refine ⟨S2, v2, a2, fl2, u2, ?_, ?_, d3, FR_trans e4 d4, MF_trans e5 d5, by omega, by omega, fun z => ⟨(e8 (d8 z).1).1, ?_, (d8 z).2⟩⟩
  · simp only [e1, bd_s, d1]
  · simp only [e2, bd_s, d2]
  · have := (e8 (d8 z).1).2.1; omega
/-- a sign or word is behind us, then comes a piece, then its step is written -/
theorem PE_op {B : Nat} {S : ST} {v : GV} {a u h o : Nat} {x : Int32} {F1 : ST → Option ST} {F1m : GV → Option GV} (hK : okK K) (h1 : PS K w p th c0 (B + 1) F1 F1m) (hE : PE K w p th c0 S v a 0 u) (hk : kK K a ≠ 0) (hc : c0 + u + 1 ≤ a) (hh : HT v c0 u (h + 1)) (hb : h ≤ B) (ho : 4 ≤ o ∧ o ≤ 10) (hx : csR th x (nI o) (nI 0)) : ∃ S1 z v1 v2 a1 fl1 u1, F1 (st S (p + 1) (tw w (a + 1) 0)) = some S1 ∧ F1m (mw v (a + 1) 0) = some (mw v1 a1 fl1) ∧ f_X5_put fu (S1 (p + 7)) x = some z ∧ f_X13_emit fu (mw v1 a1 fl1) (nI o) (nI 0) = some (mw v2 a1 fl1) ∧ PE K w p th c0 (st S1 (p + 7) z) v2 a1 fl1 u1 ∧ FR p S (st S1 (p + 7) z) ∧ MF c0 v v2 ∧ a < a1 ∧ u1 + a ≤ u + a1 ∧ (fl1 = 0 → a + 1 < a1 ∧ HT v2 c0 u1 (h + 1)) := by
  have ok1 := okP_in hK hE.1 hk
  obtain ⟨S1, v1, a1, fl1, u1, e1, e2, e3, e4, e5, e6, e7, e8⟩ := h1 _ v (a + 1) 0 u (h + 1) (PE_t hE ok1) (by omega) (fun _ => ⟨hh, by omega⟩)
  have ha1 := e3.1.1
  have hN := hK.1
  obtain ⟨q1, q2, q3⟩ := PE_em (fu := fu) e3 hx (by omega)
  refine ⟨S1, _, v1, _, a1, fl1, u1 + 1, e1, e2, q1, q2, q3, FR_trans FR_1 (FR_trans e4 FR_7), MF_trans e5 MF_em, by omega, by omega, fun z => ⟨(e8 z).2.1, ?_⟩⟩
  exact HT_s (e8 z).2.2 (Or.inr (Or.inr (Or.inr ⟨o, ho.1, ho.2, rfl, by omega, by omega⟩)))
end Q
