/-! ===== gallery: lines of spots ===== -/
def gpS (G : GP) : GP := ((ns G + 1, nt G, ne G), G.2)
def gpT (G : GP) (k s h : Nat) : GP := ((ns G, nt G + 1, ne G), upN (kd G) (nt G) k, upN (sk G) (nt G) s, upN (hr G) (nt G) h, se G, wo G, ha G)
def gpE (G : GP) (s : Nat) : GP := ((ns G, nt G, ne G + 1), kd G, sk G, hr G, upN (se G) (ne G) s, wo G, ha G)
theorem tld_f {G : GP} {N : NM} {c : Nat} (h : tld G N c = false) : (∀ i, i < ns G → N.1 i ≠ c) ∧ (∀ i, i < nt G → N.2.1 i ≠ c) ∧ ∀ i, i < ne G → N.2.2 i ≠ c := by
  refine ⟨fun i hi e => ?_, fun i hi e => ?_, fun i hi e => ?_⟩
  · have := plc_iff.mpr ⟨i, hi, e⟩; simp [tld, this] at h
  · have := plc_iff.mpr ⟨i, hi, e⟩; simp [tld, this] at h
  · have := plc_iff.mpr ⟨i, hi, e⟩; simp [tld, this] at h
theorem NR_inj {G : GP} {N : NM} {n c : Nat} {cd ty : Nat → Nat} (h : NR G N n cd ty) (ht : tld G N c = false) : ∀ j k, j < n + 1 → k < n + 1 → upN cd n c j = upN cd n c k → j = k := by
  have tl := NR_tld (c := c) h
  rw [ht] at tl
  have no : ∀ k, k < n → cd k ≠ c := fun k hk e => by
    have := plc_iff.mpr ⟨k, hk, e⟩; rw [tl] at this; cases this
  intro j k hj hk e
  by_cases q1 : j = n
  · by_cases q2 : k = n
    · omega
    · rw [q1, upN_s, upN_n q2] at e; exact absurd e.symm (no k (by omega))
  · by_cases q2 : k = n
    · rw [q2, upN_s, upN_n q1] at e; exact absurd e (no j (by omega))
    · rw [upN_n q1, upN_n q2] at e; exact h.2.2.2.2.2.2 j k (by omega) (by omega) e
theorem NR_old {n : Nat} {cd ty f : Nat → Nat} {c y i o : Nat} (h : ∃ k, k < n ∧ cd k = f i ∧ ty k = o) : ∃ k, k < n + 1 ∧ upN cd n c k = f i ∧ upN ty n y k = o := by
  obtain ⟨k, k1, k2, k3⟩ := h
  exact ⟨k, by omega, by rw [upN_n (by omega)]; exact k2, by rw [upN_n (by omega)]; exact k3⟩
theorem NR_w {n : Nat} {cd : Nat → Nat} {c : Nat} (h : ∀ k, k < n → wdv (cd k) = true) (hc : wdv c = true) : ∀ k, k < n + 1 → wdv (upN cd n c k) = true := fun k hk => by
  by_cases e : k = n
  · rw [e, upN_s]; exact hc
  · rw [upN_n e]; exact h k (by omega)
theorem NR_s {G : GP} {N : NM} {n c : Nat} {cd ty : Nat → Nat} (h : NR G N n cd ty) (hc : wdv c = true) (ht : tld G N c = false) : NR (gpS G) (upN N.1 (ns G) c, N.2.1, N.2.2) (n + 1) (upN cd n c) (upN ty n (ns G)) := by
  have inj := NR_inj h ht
  obtain ⟨a1, a2, a3, a4, a5, a6, a7⟩ := h
  refine ⟨?_, NR_w a2 hc, fun i hi => ?_, fun i hi => NR_old (f := N.2.1) (a4 i hi), fun i hi => NR_old (f := N.2.2) (a5 i hi), fun k hk => ?_, inj⟩
  · show n + 1 = (ns G + 1) + nt G + ne G; omega
  · have hi : i < ns G + 1 := hi
    by_cases e : i = ns G
    · subst e
      exact ⟨n, by omega, by rw [upN_s]; show c = upN N.1 (ns G) c (ns G); rw [upN_s], upN_s⟩
    · obtain ⟨k, k1, k2, k3⟩ := NR_old (c := c) (y := ns G) (f := N.1) (a3 i (by omega))
      exact ⟨k, k1, by show _ = upN N.1 (ns G) c i; rw [upN_n e]; exact k2, k3⟩
  · by_cases e : k = n
    · subst e
      exact Or.inl ⟨ns G, Nat.lt_succ_self _, upN_s, by rw [upN_s]; show c = upN N.1 (ns G) c (ns G); rw [upN_s]⟩
    · rw [upN_n e, upN_n e]
      rcases a6 k (by omega) with ⟨i, i1, i2, i3⟩ | q | q
      · exact Or.inl ⟨i, Nat.lt_succ_of_lt i1, i2, by show _ = upN N.1 (ns G) c i; rw [upN_n (by omega)]; exact i3⟩
      · exact Or.inr (Or.inl q)
      · exact Or.inr (Or.inr q)
theorem NR_t {G : GP} {N : NM} {n c k s h' : Nat} {cd ty : Nat → Nat} (h : NR G N n cd ty) (hc : wdv c = true) (ht : tld G N c = false) : NR (gpT G k s h') (N.1, upN N.2.1 (nt G) c, N.2.2) (n + 1) (upN cd n c) (upN ty n (20 + nt G)) := by
  have inj := NR_inj h ht
  obtain ⟨a1, a2, a3, a4, a5, a6, a7⟩ := h
  refine ⟨?_, NR_w a2 hc, fun i hi => NR_old (f := N.1) (a3 i hi), fun i hi => ?_, fun i hi => NR_old (f := N.2.2) (a5 i hi), fun k hk => ?_, inj⟩
  · show n + 1 = ns G + (nt G + 1) + ne G; omega
  · have hi : i < nt G + 1 := hi
    by_cases e : i = nt G
    · subst e
      exact ⟨n, by omega, by rw [upN_s]; show c = upN N.2.1 (nt G) c (nt G); rw [upN_s], upN_s⟩
    · obtain ⟨k, k1, k2, k3⟩ := NR_old (c := c) (y := 20 + nt G) (f := N.2.1) (a4 i (by omega))
      exact ⟨k, k1, by show _ = upN N.2.1 (nt G) c i; rw [upN_n e]; exact k2, k3⟩
  · by_cases e : k = n
    · subst e
      exact Or.inr (Or.inl ⟨nt G, Nat.lt_succ_self _, upN_s, by rw [upN_s]; show c = upN N.2.1 (nt G) c (nt G); rw [upN_s]⟩)
    · rw [upN_n e, upN_n e]
      rcases a6 k (by omega) with q | ⟨i, i1, i2, i3⟩ | q
      · exact Or.inl q
      · exact Or.inr (Or.inl ⟨i, Nat.lt_succ_of_lt i1, i2, by show _ = upN N.2.1 (nt G) c i; rw [upN_n (by omega)]; exact i3⟩)
      · exact Or.inr (Or.inr q)
theorem NR_e {G : GP} {N : NM} {n c s : Nat} {cd ty : Nat → Nat} (h : NR G N n cd ty) (hc : wdv c = true) (ht : tld G N c = false) : NR (gpE G s) (N.1, N.2.1, upN N.2.2 (ne G) c) (n + 1) (upN cd n c) (upN ty n 40) := by
  have inj := NR_inj h ht
  obtain ⟨a1, a2, a3, a4, a5, a6, a7⟩ := h
  refine ⟨?_, NR_w a2 hc, fun i hi => NR_old (f := N.1) (a3 i hi), fun i hi => NR_old (f := N.2.1) (a4 i hi), fun i hi => ?_, fun k hk => ?_, inj⟩
  · show n + 1 = ns G + nt G + (ne G + 1); omega
  · have hi : i < ne G + 1 := hi
    by_cases e : i = ne G
    · subst e
      exact ⟨n, by omega, by rw [upN_s]; show c = upN N.2.2 (ne G) c (ne G); rw [upN_s], upN_s⟩
    · obtain ⟨k, k1, k2, k3⟩ := NR_old (c := c) (y := 40) (f := N.2.2) (a5 i (by omega))
      exact ⟨k, k1, by show _ = upN N.2.2 (ne G) c i; rw [upN_n e]; exact k2, k3⟩
  · by_cases e : k = n
    · subst e
      exact Or.inr (Or.inr ⟨ne G, Nat.lt_succ_self _, upN_s, by rw [upN_s]; show c = upN N.2.2 (ne G) c (ne G); rw [upN_s]⟩)
    · rw [upN_n e, upN_n e]
      rcases a6 k (by omega) with q | q | ⟨i, i1, i2, i3⟩
      · exact Or.inl q
      · exact Or.inr (Or.inl q)
      · exact Or.inr (Or.inr ⟨i, Nat.lt_succ_of_lt i1, i2, by show _ = upN N.2.2 (ne G) c i; rw [upN_n (by omega)]; exact i3⟩)
theorem NT_add {v : GV} {n c y : Nat} {cd ty : Nat → Nat} (h : NT v true n cd ty) (hn : n ≤ 16) (hc : wdv c = true) : NT (addn v n c (nI y)) true (n + 1) (upN cd n c) (upN ty n y) := by
  obtain ⟨n1, n2, n3⟩ := h
  simp only [↓reduceIte] at n2 n3
  refine ⟨by omega, ?_, fun k hk => ?_⟩
  · simp only [↓reduceIte]; rw [addn, gI_sI, if_pos rfl]
  · simp only [↓reduceIte]
    have e15 : gL (addn v n c (nI y)) 15 k = if k = n then lN (cv c) else gL v 15 k := by
      show gL (sL v 15 n (lN (cv c))) 15 k = _; rw [gL_sL]
    have e17 : gA (addn v n c (nI y)) 17 k = if k = n then nI y else gA v 17 k := by
      show gA (sA (sL v 15 n (lN (cv c))) 17 n (nI y)) 17 k = _; rw [gA_sA]; rfl
    rw [e15, e17]
    by_cases e : k = n
    · subst e; rw [if_pos rfl, if_pos rfl, upN_s, upN_s]; exact ⟨rfl, rfl, hc⟩
    · rw [if_neg e, if_neg e, upN_n e, upN_n e]; exact n3 k (by omega)
theorem NT_GM10 {v : GV} {i n : Nat} {x : Int32} {cd ty : Nat → Nat} {r : Bool} (h : NT v r n cd ty) : NT (sA v 10 i x) r n cd ty := by
  refine ⟨h.1, h.2.1, fun k hk => ?_⟩
  rw [gA_sAn _ _ _ (by split <;> decide)]; exact h.2.2 k hk
section T
variable {fu p d n a fl j : Nat} {K : KT} {w v : GV} {S : ST}
theorem DI_of {S' : ST} {v' : GV} {a' fl' : Nat} (hd : d = p + 43 ∨ d = p + 58) (hn : p + 223 < n) (h : DI K w p d n S v a fl j) (ok : okP K a' fl') (h1 : S' (p + 1) = tw w a' fl') (hF : GF0 p d S S') (c1 : gC (S' d) = 1) (c8 : gC (S' (d + 8)) = 3) (hM : GM v v') : DI K w p d n S' v' a' fl' j := by
  obtain ⟨_, _, k3, k4, _, _, k7, k8, k9, k10⟩ := h
  refine ⟨ok, h1, by rw [hF (p + 6) (by omega) (by omega) (by omega)]; exact k3, by rw [hF (p + 7) (by omega) (by omega) (by omega)]; exact k4, c1, c8, MB_GM k7 hM, WB_GM k8 hM, ?_, k10⟩
  rcases k9 with e | e
  · exact Or.inl e
  · by_cases j0 : j = 0
    · exact Or.inl j0
    · exact Or.inr (by rw [hF _ (by omega) (by omega) (by omega)]; exact e)
theorem DI_t {v' : GV} {a' fl' : Nat} (hd : d = p + 43 ∨ d = p + 58) (hn : p + 223 < n) (h : DI K w p d n S v a fl j) (ok : okP K a' fl') (hM : GM v v') : DI K w p d n (st S (p + 1) (tw w a' fl')) v' a' fl' j := by
  obtain ⟨_, _, _, _, k5, k6, _⟩ := id h
  refine DI_of hd hn h ok (st_same _ _ _) (fun b h1 _ _ => st_ne _ _ h1) ?_ ?_ hM
  · rw [st_ne _ _ (by omega)]; exact k5
  · rw [st_ne _ _ (by omega)]; exact k6
theorem nw_f {t : Bool} (h : fl ≠ 0) : nw K a fl t = (a, fl) := by
  unfold nw
  rw [show tNm K a fl = false from decide_eq_false (fun q => h q.1), if_neg (by decide)]
  unfold flf; rw [if_neg h]
theorem ndS_1 {c : Nat} (h : (ndS K a fl c).2 = 0) : fl = 0 ∧ kK K a = 3 ∧ (ndS K a fl c).1 = a + 1 := by
  unfold ndS at h ⊢
  cases q : tS K a fl c
  · rw [q, if_neg (by decide)] at h; exact absurd h (flf_pos (by omega))
  · obtain ⟨q1, q2⟩ := tS_k q
    rw [if_pos rfl]; exact ⟨q1, q2, rfl⟩
theorem ndS_le {c : Nat} : a ≤ (ndS K a fl c).1 := by
  unfold ndS
  split <;> simp only <;> omega
/-- no fault before: the draft's state -/
theorem l_spot (hf : 1101 ≤ fu) (hK : okK K) (hw : CB w K) (gw : gC w = 8) (hd : d = p + 43 ∨ d = p + 58) (hn : p + 223 < n) (hI : DI K w p d n S v a 0 j) (hk : kK K a ≠ 0) (hR : DR d n j a S v) : ∃ S' v' a' fl', f_X2_readSpot fu S (p + 6) d = some S' ∧ (bd (f_X13_readSpot fu (mw v a 0)) fun v6 => f_X13_takeSign fu v6 (nI 59)) = some (mw v' a' fl') ∧ DI K w p d n S' v' a' fl' j ∧ GF0 p d S S' ∧ GM v v' ∧ (fl' = 0 → a < a' ∧ DR d n j a' S' v') := by
  obtain ⟨G, N, q, nn, cd, ty, c, i1, i2, hG, hB, hCG, hCN, hCH, hMG, hMB, hNR, hNT, hc, hL1, hL2, hj⟩ := hR
  obtain ⟨ok, s1, ⟨c6, r6⟩, _, cd1, cd8, hv, h9, _, _⟩ := id hI
  have h40 := NR_40 hNR
  have gc8 : ∀ a fl, gC (tw w a fl) = 8 := fun _ _ => gw
  have s8 := hG.1
  have t5 := hG.2.1
  have e4 := hG.2.2.1
  have S6 : ∀ y : GV, st S (p + 1) y (p + 6) = S (p + 6) := fun y => st_ne _ _ (by omega)
  have Sd : ∀ y : GV, st S (p + 1) y d = S d := fun y => st_ne _ _ (by omega)
  have c70 : (70 : Int32).toNatClampNeg = 70 := by decide
  by_cases c8 : ns G = 8
  · have ok5 := okP_flf (x := 5) hK ok (by omega)
    have fp := flf_pos (K := K) (a := a) (fl := 0) (x := 5) (by omega)
    have f5 : ¬ nI (flf K a 0 5) = nI 0 := by have := ok5.2; rw [nI_eq (by omega) (by omega)]; exact fp
    have nn1 := x2_newName (fu := fu) (p := p) (d := d) (S := st S (p + 1) (tw w a (flf K a 0 5))) (N := N) hf hK hw gw ok5 hG (st_same _ _ _) (by rw [S6]; exact r6) (by rw [Sd]; exact hCG.1) (by rw [Sd]; exact hCG.2.1) (by rw [Sd]; exact hCG.2.2.1) (by rw [Sd]; exact hCN) h40
    rw [nw_f fp, st_st] at nn1
    have nd := x8_need1 (fu := fu) (c := 59) hK hw ok5 (by omega)
    have mt := m_takeSign (fu := fu) (c := 59) hK hv ok5 (by omega)
    rw [ndS_f fp] at nd mt
    simp only at nn1 nd mt
    have g8 := hCG.1
    have m70 := hMG.1
    rw [c8] at g8 m70
    refine ⟨st S (p + 1) (tw w a (flf K a 0 5)), v, a, flf K a 0 5, ?_, ?_, DI_t hd hn hI ok5 (GM_refl v), fun b h1 _ _ => st_ne _ _ h1, GM_refl v, fun z => absurd z fp⟩
    · have n88 : nI 8 ≤ nI 8 := by decide
      simp only [f_X2_readSpot, f_X2_readSpot_0, f_X2_readSpot_18, f_X8_stepOrFail, f_X8_stepOrFail_0, ↓lm_1, ↓lm_2, ↓lm_3, ↓lm_4, ↓lm_5, ↓lm_6, ↓lm_7, ↓lm_8, ↓lm_9, ↓lm_10, ↓lm_11, li_0, li_1, li_2, li_3, li_4, li_5, li_6, li_7, li_8, li_9, li_10, li_11, li_12, li_13, li_14, li_15, li_16, li_17, li_18, li_19, li_20, li_21, li_22, li_23, li_24, li_25, li_26, li_27, li_28, li_29, li_30, li_31, li_32, li_33, li_34, li_35, li_36, li_37, li_38, li_39, li_40, li_41, li_42, li_43, li_44, li_45, li_46, li_47, li_48, li_49, li_50, li_51, li_52, li_53, li_54, li_55, li_56, li_57, li_58, li_59, li_60, li_61, li_62, li_63, li_64, li_65, li_66, li_96, li_97, li_99, li_100, li_122, li_125, li_126, li_140, li_255, li_256, li_999, li_1000, li_1001, li_1002, li_1100, li_1386, li_1452, li_1518, li_9999, li_1000000, r6, bd_s, s1, gc8, decide_true, ck_t, g8, n88, ↓reduceIte, x8_fail hK hw ok, nm_eq, nn1, bd2_s, S6, st_same, nd, st_st, tw_g7, f5]
    · simp only [f_X13_readSpot, f_X13_readSpot_0, ↓lm_1, ↓lm_2, ↓lm_3, ↓lm_4, ↓lm_5, ↓lm_6, ↓lm_7, ↓lm_8, ↓lm_9, ↓lm_10, ↓lm_11, li_0, li_1, li_2, li_3, li_4, li_5, li_6, li_7, li_8, li_9, li_10, li_11, li_12, li_13, li_14, li_15, li_16, li_17, li_18, li_19, li_20, li_21, li_22, li_23, li_24, li_25, li_26, li_27, li_28, li_29, li_30, li_31, li_32, li_33, li_34, li_35, li_36, li_37, li_38, li_39, li_40, li_41, li_42, li_43, li_44, li_45, li_46, li_47, li_48, li_49, li_50, li_51, li_52, li_53, li_54, li_55, li_56, li_57, li_58, li_59, li_60, li_61, li_62, li_63, li_64, li_65, li_66, li_96, li_97, li_99, li_100, li_122, li_125, li_126, li_140, li_255, li_256, li_999, li_1000, li_1001, li_1002, li_1100, li_1386, li_1452, li_1518, li_9999, li_1000000, c70, mw_A, m70, nm_eq, ↓reduceIte, m_wrong hK hv ok, bd_s, mt]
  · have ok1 := okP_in hK ok hk
    have sp := x8_step1 (fu := fu) hK hw ok
    rw [stp_in rfl hk] at sp
    have nn1 := x2_newName (fu := fu) (p := p) (d := d) (S := st S (p + 1) (tw w (a + 1) 0)) (N := N) hf hK hw gw ok1 hG (st_same _ _ _) (by rw [S6]; exact r6) (by rw [Sd]; exact hCG.1) (by rw [Sd]; exact hCG.2.1) (by rw [Sd]; exact hCG.2.2.1) (by rw [Sd]; exact hCN) h40
    rw [st_st] at nn1
    have rn1 := m_readName (fu := fu) hf hK hv h9 ok hk hG hNT hNR (nI (ns G))
    have okn := okP_nw hK ok1 (tld G N (kV K (a + 1)))
    have nw0 := nw_0 (K := K) (a := a + 1) (fl := 0) (t := tld G N (kV K (a + 1)))
    have nwl := nw_le (K := K) (a := a + 1) (fl := 0) (t := tld G N (kV K (a + 1)))
    generalize nw K (a + 1) 0 (tld G N (kV K (a + 1))) = R at *
    obtain ⟨a1, fl1⟩ := R
    simp only at nn1 rn1 okn nw0 nwl
    have nd := x8_need1 (fu := fu) (c := 59) hK hw okn (by omega)
    have g8 := hCG.1
    have m70 := hMG.1
    have n88 : ¬ nI 8 ≤ nI (ns G) := nI_ge (by omega) (by omega)
    have n8e : ¬ nI (ns G) = nI 8 := by rw [nI_eq (by omega) (by omega)]; exact c8
    have gm1 : GM v (if fl1 = 0 then addn v nn (kV K (a + 1)) (nI (ns G)) else v) := by
      split
      · exact GM_addn
      · exact GM_refl v
    have a10 : gA (if fl1 = 0 then addn v nn (kV K (a + 1)) (nI (ns G)) else v) 10 = gA v 10 := by
      split <;> rfl
    generalize hv1 : (if fl1 = 0 then addn v nn (kV K (a + 1)) (nI (ns G)) else v) = v1 at *
    have gm2 : GM v (sA v1 10 70 (nI (ns G + 1))) := GM_trans gm1 (GM_10 (by omega))
    have mt := m_takeSign (fu := fu) (v := sA v1 10 70 (nI (ns G + 1))) (c := 59) hK (MB_GM hv gm2) okn (by omega)
    have okF := okP_ndS hK okn 59
    have nd0 := ndS_1 (K := K) (a := a1) (fl := fl1) (c := 59)
    have ndl := ndS_le (K := K) (a := a1) (fl := fl1) (c := 59)
    generalize ndS K a1 fl1 59 = Q at *
    obtain ⟨a2, fl2⟩ := Q
    simp only at nd mt okF nd0 ndl
    have md : (bd (f_X13_readSpot fu (mw v a 0)) fun v6 => f_X13_takeSign fu v6 (nI 59)) = some (mw (sA v1 10 70 (nI (ns G + 1))) a2 fl2) := by
      simp only [f_X13_readSpot, f_X13_readSpot_0, ↓lm_1, ↓lm_2, ↓lm_3, ↓lm_4, ↓lm_5, ↓lm_6, ↓lm_7, ↓lm_8, ↓lm_9, ↓lm_10, ↓lm_11, li_0, li_1, li_2, li_3, li_4, li_5, li_6, li_7, li_8, li_9, li_10, li_11, li_12, li_13, li_14, li_15, li_16, li_17, li_18, li_19, li_20, li_21, li_22, li_23, li_24, li_25, li_26, li_27, li_28, li_29, li_30, li_31, li_32, li_33, li_34, li_35, li_36, li_37, li_38, li_39, li_40, li_41, li_42, li_43, li_44, li_45, li_46, li_47, li_48, li_49, li_50, li_51, li_52, li_53, li_54, li_55, li_56, li_57, li_58, li_59, li_60, li_61, li_62, li_63, li_64, li_65, li_66, li_96, li_97, li_99, li_100, li_122, li_125, li_126, li_140, li_255, li_256, li_999, li_1000, li_1001, li_1002, li_1100, li_1386, li_1452, li_1518, li_9999, li_1000000, c70, mw_A, m70, nm_eq, n8e, ↓reduceIte, rn1, bd_s, a10, nI_add, mw_sA, mt]
    by_cases z : fl2 = 0
    · subst z
      obtain ⟨z1, z2, z3⟩ := nd0 rfl
      subst z1
      obtain ⟨_, y2, y3, y4⟩ := nw0 rfl
      rw [if_pos rfl] at hv1
      have l3 := (hw (a + 1) ok1.1).2.2 (Or.inl y2)
      have wdc := ((hK.2.2 (a + 1) ok1.1).1.2.2.1 y2).1
      have S1d : ∀ y : GV, st S (p + 1) y d = S d := Sd
      refine ⟨st (st S (p + 1) (tw w a2 0)) d (sI (sL (S d) 0 (ns G) (lN (kV K (a + 1)))) 8 (nI (ns G + 1))), sA v1 10 70 (nI (ns G + 1)), a2, 0, ?_, md, ?_, fun b h1 h2 _ => by rw [st_ne _ _ h2, st_ne _ _ h1], gm2, fun _ => ⟨by omega, ?_⟩⟩
      · simp (disch := omega) only [f_X2_readSpot, f_X2_readSpot_0, f_X2_readSpot_18, f_X8_stepOrFail, f_X8_stepOrFail_0, f_X1_addSpot, f_X1_addSpot_0, ↓lm_1, ↓lm_2, ↓lm_3, ↓lm_4, ↓lm_5, ↓lm_6, ↓lm_7, ↓lm_8, ↓lm_9, ↓lm_10, ↓lm_11, li_0, li_1, li_2, li_3, li_4, li_5, li_6, li_7, li_8, li_9, li_10, li_11, li_12, li_13, li_14, li_15, li_16, li_17, li_18, li_19, li_20, li_21, li_22, li_23, li_24, li_25, li_26, li_27, li_28, li_29, li_30, li_31, li_32, li_33, li_34, li_35, li_36, li_37, li_38, li_39, li_40, li_41, li_42, li_43, li_44, li_45, li_46, li_47, li_48, li_49, li_50, li_51, li_52, li_53, li_54, li_55, li_56, li_57, li_58, li_59, li_60, li_61, li_62, li_63, li_64, li_65, li_66, li_96, li_97, li_99, li_100, li_122, li_125, li_126, li_140, li_255, li_256, li_999, li_1000, li_1001, li_1002, li_1100, li_1386, li_1452, li_1518, li_9999, li_1000000, r6, bd_s, s1, gc8, decide_true, ck_t, g8, n88, n10, ↓reduceIte, sp, nm_eq, nn1, bd2_s, S6, st_same, nd, st_st, tw_g7, Sd, l3, inb_n, nI_clamp, gI_sL, nI_add]
      · refine DI_of hd hn hI okF ?_ (fun b h1 h2 _ => by rw [st_ne _ _ h2, st_ne _ _ h1]) ?_ ?_ gm2
        · rw [st_ne _ _ (by omega), st_same]
        · rw [st_same]; exact cd1
        · rw [st_ne _ _ (by omega), st_ne _ _ (by omega)]; exact cd8
      · refine ⟨gpS G, (upN N.1 (ns G) (kV K (a + 1)), N.2.1, N.2.2), q, nn + 1, upN cd nn (kV K (a + 1)), upN ty nn (ns G), c, i1, i2, ⟨by show ns G + 1 ≤ 8; omega, t5, e4, hG.2.2.2.1, hG.2.2.2.2⟩, hB, ?_, ?_, ?_, ?_, ?_, NR_s hNR wdc y3, ?_, ⟨?_, by omega⟩, ?_, ?_, hj⟩
        · rw [st_same]
          obtain ⟨_, b2, b3, b4, b5⟩ := hCG
          exact ⟨by rw [gI_sI, if_pos rfl]; rfl, b2, b3, b4, b5⟩
        · rw [st_same]
          obtain ⟨b1, b2, b3⟩ := hCN
          refine ⟨fun i hi => ?_, b2, b3⟩
          have hi : i < ns G + 1 := hi
          show gL (sL (S d) 0 (ns G) (lN (kV K (a + 1)))) 0 i = lN (upN N.1 (ns G) (kV K (a + 1)) i)
          rw [gL_sL]
          by_cases e : i = ns G
          · rw [if_pos e, e, upN_s]
          · rw [if_neg e, upN_n e]; exact b1 i (by omega)
        · rw [st_ne _ _ (by omega), st_ne _ _ (by omega)]; exact hCH
        · obtain ⟨_, b2, b3, b4, b5⟩ := hMG
          have o : ∀ x, x ≠ 70 → gA (sA v1 10 70 (nI (ns G + 1))) 10 x = gA v 10 x := fun x hx => by rw [gA_sA, if_neg hx, a10]
          refine ⟨by rw [gA_sA, if_pos rfl]; rfl, by rw [o _ (by omega)]; exact b2, by rw [o _ (by omega)]; exact b3, fun t ht => ?_, fun e he => by rw [o _ (by omega)]; exact b5 e he⟩
          rw [o _ (by omega), o _ (by omega), o _ (by omega)]; exact b4 t ht
        · obtain ⟨b1, b2, b3⟩ := hMB
          have o : ∀ x, x ≠ 70 → gA (sA v1 10 70 (nI (ns G + 1))) 10 x = gA v 10 x := fun x hx => by rw [gA_sA, if_neg hx, a10]
          refine ⟨by rw [o _ (by omega)]; exact b1, fun r hr => ?_, fun t ht => by rw [o _ (by omega)]; exact b3 t ht⟩
          rw [o _ (by omega), o _ (by omega), o _ (by omega), o _ (by omega)]; exact b2 r hr
        · rw [← hv1]
          have := hNR.1
          exact NT_GM10 (NT_add hNT (by omega) wdc)
        · rw [← hv1]; exact hc.1
        · rw [st_same]
          have o : gA (sA v1 10 70 (nI (ns G + 1))) 10 74 = gA v 10 74 := by rw [gA_sA, if_neg (by omega), a10]
          rw [o]
          refine DL_keep hL1 (fun b b1 _ => by rw [st_ne _ _ (by omega), st_ne _ _ (by omega)]) (fun x _ => ?_) (Nat.le_refl _) (Nat.le_refl _)
          rw [← hv1]; exact ⟨rfl, rfl⟩
        · rw [st_same]
          have o : gA (sA v1 10 70 (nI (ns G + 1))) 10 75 = gA v 10 75 := by rw [gA_sA, if_neg (by omega), a10]
          rw [o]
          refine DL_keep hL2 (fun b b1 _ => by rw [st_ne _ _ (by omega), st_ne _ _ (by omega)]) (fun x _ => ?_) (Nat.le_refl _) (Nat.le_refl _)
          rw [← hv1]; exact ⟨rfl, rfl⟩
    · have fz : ¬ nI fl2 = nI 0 := by have := okF.2; rw [nI_eq (by omega) (by omega)]; exact z
      refine ⟨st S (p + 1) (tw w a2 fl2), sA v1 10 70 (nI (ns G + 1)), a2, fl2, ?_, md, DI_t hd hn hI okF gm2, fun b h1 _ _ => st_ne _ _ h1, gm2, fun q => absurd q z⟩
      simp (disch := omega) only [f_X2_readSpot, f_X2_readSpot_0, f_X2_readSpot_18, f_X8_stepOrFail, f_X8_stepOrFail_0, ↓lm_1, ↓lm_2, ↓lm_3, ↓lm_4, ↓lm_5, ↓lm_6, ↓lm_7, ↓lm_8, ↓lm_9, ↓lm_10, ↓lm_11, li_0, li_1, li_2, li_3, li_4, li_5, li_6, li_7, li_8, li_9, li_10, li_11, li_12, li_13, li_14, li_15, li_16, li_17, li_18, li_19, li_20, li_21, li_22, li_23, li_24, li_25, li_26, li_27, li_28, li_29, li_30, li_31, li_32, li_33, li_34, li_35, li_36, li_37, li_38, li_39, li_40, li_41, li_42, li_43, li_44, li_45, li_46, li_47, li_48, li_49, li_50, li_51, li_52, li_53, li_54, li_55, li_56, li_57, li_58, li_59, li_60, li_61, li_62, li_63, li_64, li_65, li_66, li_96, li_97, li_99, li_100, li_122, li_125, li_126, li_140, li_255, li_256, li_999, li_1000, li_1001, li_1002, li_1100, li_1386, li_1452, li_1518, li_9999, li_1000000, r6, bd_s, s1, gc8, decide_true, ck_t, g8, n88, n10, ↓reduceIte, sp, nm_eq, nn1, bd2_s, S6, st_same, nd, st_st, tw_g7, fz]
end T
