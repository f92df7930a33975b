/-! ===== painters, painter: all ways to give each copy a painter ===== -/
def p3 (x t : Nat) : Nat := x / 3 ^ t % 3
def giv (x : Nat) : Nat := p3 x 0 + p3 x 1 + p3 x 2 + p3 x 3 + p3 x 4
theorem p3_lt (x t : Nat) : p3 x t < 3 := Nat.mod_lt _ (by decide)
theorem giv_up {x t : Nat} (hx : x < 243) (ht : t < 5) (h : p3 x t < 2) : x + 3 ^ t < 243 ∧ giv (x + 3 ^ t) = giv x + 1 := by
  have h2 : (List.range 243).all (fun x => decide ((List.range 5).all (fun t => decide (p3 x t < 2 → x + 3 ^ t < 243 ∧ giv (x + 3 ^ t) = giv x + 1)) = true)) = true := by decide +kernel
  exact co_dec (co_dec h2 hx) ht h
theorem p3_up {x t u : Nat} (hx : x < 243) (ht : t < 5) (hu : u < 5) (h : p3 x t < 2) : p3 (x + 3 ^ t) u = if u = t then p3 x u + 1 else p3 x u := by
  have h2 : (List.range 243).all (fun x => decide ((List.range 5).all (fun t => decide ((List.range 5).all (fun u => decide (p3 x t < 2 → p3 (x + 3 ^ t) u = if u = t then p3 x u + 1 else p3 x u)) = true)) = true)) = true := by decide +kernel
  exact co_dec (co_dec (co_dec h2 hx) ht) hu h
def sm (f : Nat → Nat) : Nat → Nat
  | 0 => 0
  | n + 1 => sm f n + f n
theorem sm_congr {f g : Nat → Nat} : ∀ n, (∀ k, k < n → f k = g k) → sm f n = sm g n := by
  intro n
  induction n with
  | zero => intro _; rfl
  | succ n ih => intro h; simp only [sm]; rw [ih (fun k hk => h k (by omega)), h n (by omega)]
theorem sm_mono (f : Nat → Nat) {m n : Nat} (h : m ≤ n) : sm f m ≤ sm f n := by
  induction n with
  | zero => rw [show m = 0 by omega]; exact Nat.le_refl _
  | succ n ih =>
    by_cases c : m = n + 1
    · rw [c]; exact Nat.le_refl _
    · have := ih (by omega); simp only [sm]; omega
theorem sm_z (f : Nat → Nat) {m n : Nat} (h : m ≤ n) (hz : ∀ k, m ≤ k → k < n → f k = 0) : sm f n = sm f m := by
  induction n with
  | zero => rw [show m = 0 by omega]
  | succ n ih =>
    by_cases c : m = n + 1
    · rw [c]
    · simp only [sm]; rw [ih (by omega) (fun k h1 h2 => hz k h1 (by omega)), hz n (by omega) (by omega)]; omega
theorem sm_le {f : Nat → Nat} {b : Nat} : ∀ n, (∀ k, k < n → f k ≤ b) → sm f n ≤ n * b := by
  intro n
  induction n with
  | zero => intro _; simp [sm]
  | succ n ih =>
    intro h
    have h1 := ih (fun k hk => h k (by omega))
    have h2 := h n (by omega)
    simp only [sm]; rw [Nat.succ_mul]; omega
/-- ways from a state; what a thief brings to it -/
def nWy (ab : Nat → Nat → Bool) : Nat → Nat → Nat → Nat
  | 0, _, _ => 1
  | m + 1, c, x => sm (fun t => if ab c t = true ∧ p3 x t < 2 then nWy ab m (c + 1) (x + 3 ^ t) else 0) 5
def Fm (ab : Nat → Nat → Bool) (m c x : Nat) (t : Nat) : Nat := if ab c t = true ∧ p3 x t < 2 then nWy ab m (c + 1) (x + 3 ^ t) else 0
theorem nWy_s (ab : Nat → Nat → Bool) (m c x : Nat) : nWy ab (m + 1) c x = sm (Fm ab m c x) 5 := (id rfl)
theorem nWy_le (ab : Nat → Nat → Bool) : ∀ m c x, nWy ab m c x ≤ 5 ^ m := by
  intro m
  induction m with
  | zero => intro c x; exact Nat.le_refl _
  | succ m ih =>
    intro c x
    rw [nWy_s, Nat.pow_succ, Nat.mul_comm]
    refine sm_le 5 (fun t _ => ?_)
    unfold Fm
    split
    · exact ih _ _
    · exact Nat.zero_le _
theorem nWy_congr {ab ab' : Nat → Nat → Bool} : ∀ m c x, (∀ c' t, c ≤ c' → c' < c + m → ab c' t = ab' c' t) → nWy ab m c x = nWy ab' m c x := by
  intro m
  induction m with
  | zero => intro c x _; rfl
  | succ m ih =>
    intro c x h
    rw [nWy_s, nWy_s]
    refine sm_congr 5 (fun t _ => ?_)
    unfold Fm
    rw [h c t (by omega) (by omega), ih (c + 1) _ (fun c' t' h1 h2 => h c' t' (by omega) (by omega))]
/-- q's painter can be u alone -/
def abr (ab : Nat → Nat → Bool) (q u : Nat) : Nat → Nat → Bool := fun c t => if c = q then ab c t && decide (t = u) else ab c t
theorem nWy_abr (ab : Nat → Nat → Bool) {q u : Nat} (m c x : Nat) (h : q < c) : nWy (abr ab q u) m c x = nWy ab m c x := by
  refine nWy_congr m c x (fun c' t h1 h2 => ?_)
  rw [abr, if_neg (by omega)]
theorem sm_5 (f : Nat → Nat) : sm f 5 = f 0 + f 1 + f 2 + f 3 + f 4 := by
  simp only [sm]; omega
theorem sm_add (f g : Nat → Nat) : ∀ n, sm (fun k => f k + g k) n = sm f n + sm g n := by
  intro n
  induction n with
  | zero => rfl
  | succ n ih => simp only [sm]; rw [ih]; omega
/-- all ways, by q's painter -/
theorem nWy_sum (ab : Nat → Nat → Bool) (q : Nat) : ∀ m c x, c ≤ q → q < c + m → sm (fun u => nWy (abr ab q u) m c x) 5 = nWy ab m c x := by
  intro m
  induction m with
  | zero => intro c x h1 h2; omega
  | succ m ih =>
    intro c x h1 h2
    by_cases e : c = q
    · subst e
      have key : ∀ u, u < 5 → nWy (abr ab c u) (m + 1) c x = Fm ab m c x u := by
        intro u hu
        have hz : ∀ t, t ≠ u → Fm (abr ab c u) m c x t = 0 := by
          intro t ht
          unfold Fm
          rw [if_neg]
          rintro ⟨a, _⟩
          rw [abr, if_pos rfl, decide_eq_false ht, Bool.and_false] at a
          exact absurd a (by decide)
        have hu' : Fm (abr ab c u) m c x u = Fm ab m c x u := by
          unfold Fm
          rw [abr, if_pos rfl, decide_eq_true rfl, Bool.and_true]
          rw [nWy_abr _ _ _ _ (by omega)]
        rw [nWy_s, sm_5, ← hu']
        rcases (show u = 0 ∨ u = 1 ∨ u = 2 ∨ u = 3 ∨ u = 4 by omega) with rfl | rfl | rfl | rfl | rfl
        · rw [hz 1 (by omega), hz 2 (by omega), hz 3 (by omega), hz 4 (by omega)]; omega
        · rw [hz 0 (by omega), hz 2 (by omega), hz 3 (by omega), hz 4 (by omega)]; omega
        · rw [hz 0 (by omega), hz 1 (by omega), hz 3 (by omega), hz 4 (by omega)]; omega
        · rw [hz 0 (by omega), hz 1 (by omega), hz 2 (by omega), hz 4 (by omega)]; omega
        · rw [hz 0 (by omega), hz 1 (by omega), hz 2 (by omega), hz 3 (by omega)]; omega
      rw [sm_congr 5 key, nWy_s]
    · have hF : ∀ u t, Fm (abr ab q u) m c x t = if ab c t = true ∧ p3 x t < 2 then nWy (abr ab q u) m (c + 1) (x + 3 ^ t) else 0 := by
        intro u t
        have : abr ab q u c t = ab c t := if_neg e
        unfold Fm
        rw [this]
      have hcol : ∀ t, sm (fun u => Fm (abr ab q u) m c x t) 5 = Fm ab m c x t := by
        intro t
        by_cases a : ab c t = true ∧ p3 x t < 2
        · rw [sm_congr (g := fun u => nWy (abr ab q u) m (c + 1) (x + 3 ^ t)) 5 (fun u _ => by rw [hF, if_pos a]), ih (c + 1) _ (by omega) (by omega), Fm, if_pos a]
        · rw [sm_congr (g := fun _ => 0) 5 (fun u _ => by rw [hF, if_neg a]), Fm, if_neg a]; rfl
      rw [nWy_s, sm_5 (Fm ab m c x), ← hcol 0, ← hcol 1, ← hcol 2, ← hcol 3, ← hcol 4]
      have : (fun u => nWy (abr ab q u) (m + 1) c x) = fun u => Fm (abr ab q u) m c x 0 + Fm (abr ab q u) m c x 1 + Fm (abr ab q u) m c x 2 + Fm (abr ab q u) m c x 3 + Fm (abr ab q u) m c x 4 := by
        funext u; rw [nWy_s, sm_5]
      rw [this, sm_add, sm_add, sm_add, sm_add]
/-- the first that brings one -/
def ftn (F : Nat → Nat) : Nat → Nat
  | 0 => 0
  | n + 1 => if 0 < sm F n then ftn F n else n
theorem ftn_eq {F : Nat → Nat} {t : Nat} (h0 : sm F t = 0) (h1 : 0 < F t) : ∀ n, t < n → ftn F n = t := by
  intro n
  induction n with
  | zero => intro h; omega
  | succ n ih =>
    intro h
    simp only [ftn]
    by_cases e : t = n
    · subst e; rw [if_neg (by omega)]
    · have : sm F (t + 1) ≤ sm F n := sm_mono F (by omega)
      simp only [sm] at this
      rw [if_pos (by omega)]; exact ih (by omega)
theorem ftn_f {F : Nat → Nat} : ∀ n, 0 < sm F n → ftn F n < n ∧ 0 < F (ftn F n) ∧ sm F (ftn F n) = 0 := by
  intro n
  induction n with
  | zero => intro h; simp only [sm] at h; omega
  | succ n ih =>
    intro h
    simp only [ftn]
    by_cases c : 0 < sm F n
    · rw [if_pos c]; have := ih c; exact ⟨by omega, this.2⟩
    · rw [if_neg c]; simp only [sm] at h; exact ⟨by omega, by omega, by omega⟩
def FT (ab : Nat → Nat → Bool) : Nat → Nat → Nat → Nat → Nat
  | 0, _, _ => fun _ => 0
  | m + 1, c, x => upN (FT ab m (c + 1) (x + 3 ^ ftn (Fm ab m c x) 5)) c (ftn (Fm ab m c x) 5)
/-- what copies are to a hall and a gallery -/
def abl (G : GP) (q : HP) (c t : Nat) : Bool := decide (t < nt G) && !decide (nI (sk G t) < hof G q (qs q c) (fo (qw q c)))
theorem abl_nt {G : GP} {q : HP} {c t : Nat} (h : nt G ≤ t) : abl G q c t = false := by
  rw [abl, decide_eq_false (by omega)]; rfl
/-! the model -/
theorem yD_s (fu d : Nat) : f_X13_waysD fu (d + 1) = f_X13_ways fu (f_X13_waysD fu d) := (id rfl)
section M
variable {fu n : Nat} {G : GP} {q : HP}
/-- v stands at copy c -/
def WM (v : GV) (n c x : Nat) (who : Nat → Nat) (cnt : Nat) (fst ev : Nat → Nat) : Prop := (∀ t, t < 5 → gA v 32 t = nI (p3 x t)) ∧ (∀ p, 1 ≤ p → p < c → gA v 33 p = nI (who p) ∧ who p < 5) ∧ gI v 36 = nI cnt ∧ (0 < cnt → ∀ p, 1 ≤ p → p < n → gA v 34 p = nI (fst p)) ∧ ∀ p, 1 ≤ p → p < n → gA v 35 p = nI (ev p) ∧ ev p < 32
theorem m_wleaf (hf : 1101 ≤ fu) (h1 : 1 ≤ n) (h8 : n ≤ 8) (rec : GV → Int32 → Option GV) {v : GV} {x cnt : Nat} {who fst ev : Nat → Nat} (hc : cnt < 1000000) (h : WM v n n x who cnt fst ev) : ∃ v', f_X13_ways_12 fu fu rec (nI n) (nI 1) v = some v' ∧ mscr v v' ∧ WM v' n n x who (cnt + 1) (fun p => if 0 < cnt then fst p else who p) (fun p => ev p ||| 2 ^ who p) := by
  obtain ⟨w1, w2, w3, w4, w5⟩ := h
  have key := lpI2 (fun k12 => f_X13_ways_12s fu rec k12 (nI n)) (fun k y w => y = nI (1 + k) ∧ ∃ f g, w = sAf (sAf v 34 f) 35 g ∧ (∀ p, 1 ≤ p → p < n → f p = (if p < 1 + k then nI (if 0 < cnt then fst p else who p) else gA v 34 p)) ∧ ∀ p, 1 ≤ p → p < n → g p = nI (if p < 1 + k then ev p ||| 2 ^ who p else ev p)) (fun r => ∃ v', r = some v' ∧ mscr v v' ∧ WM v' n n x who (cnt + 1) (fun p => if 0 < cnt then fst p else who p) (fun p => ev p ||| 2 ^ who p)) (n - 1) ?_ ?_ fu 0 (nI 1) v ⟨rfl, gA v 34, gA v 35, by rw [sAf_self, sAf_self], fun p h1 h2 => by rw [if_neg (by omega)], fun p h1 h2 => by rw [if_neg (by omega)]; exact (w5 p h1 h2).1⟩ (by omega) (by omega)
  · obtain ⟨r, ⟨v', e, k1, k2⟩, e2⟩ := key
    exact ⟨v', by rw [← e, ← e2, f_X13_ways_12], k1, k2⟩
  · rintro y w ⟨rfl, f, g, rfl, hff, hg⟩
    have e1 : 1 + (n - 1) = n := by omega
    rw [e1] at hff hg ⊢
    refine ⟨_, ⟨sI (sAf (sAf v 34 f) 35 g) 36 (nI (cnt + 1)), rfl, ?_, ⟨fun t ht => ?_, fun p h1 h2 => ?_, ?_, fun _ p h1 h2 => ?_, fun p h1 h2 => ⟨?_, ?_⟩⟩⟩, fun rc => ?_⟩
    · exact mscr_sI (mscr_sAf (mscr_sAf (mscr_refl v) (by omega)) (by omega)) (by decide) (by decide) (by decide)
    · rw [gA_sI, gA_sAfn _ _ (by decide), gA_sAfn _ _ (by decide)]; exact w1 t ht
    · rw [gA_sI, gA_sAfn _ _ (by decide), gA_sAfn _ _ (by decide)]; exact w2 p h1 h2
    · rw [gI_sI, if_pos rfl]
    · rw [gA_sI, gA_sAfn _ _ (by decide), gA_sAf, hff p h1 h2, if_pos h2]
    · rw [gA_sI, gA_sAf, hg p h1 h2, if_pos h2]
    · exact Nat.or_lt_two_pow (n := 5) (w5 p h1 h2).2 (Nat.pow_lt_pow_right (a := 2) (by decide) (w2 p h1 h2).2)
    · simp (disch := omega) only [f_X13_ways_12s, ↓lm_1, ↓lm_2, ↓lm_3, ↓lm_4, ↓lm_5, ↓lm_6, ↓lm_7, ↓lm_8, ↓lm_9, ↓lm_10, ↓lm_11, li_0, li_1, li_2, li_3, li_4, li_5, li_6, li_7, li_8, li_9, li_10, li_11, li_12, li_13, li_14, li_15, li_16, li_17, li_18, li_19, li_20, li_21, li_22, li_23, li_24, li_25, li_26, li_27, li_28, li_29, li_30, li_31, li_32, li_33, li_34, li_35, li_36, li_37, li_38, li_39, li_40, li_41, li_42, li_43, li_44, li_45, li_46, li_47, li_48, li_49, li_50, li_51, li_52, li_53, li_54, li_55, li_56, li_57, li_58, li_59, li_60, li_61, li_62, li_63, li_64, li_65, li_66, li_96, li_97, li_99, li_100, li_122, li_125, li_126, li_140, li_255, li_256, li_999, li_1000, li_1001, li_1002, li_1100, li_1386, li_1452, li_1518, li_9999, li_1000000, nI_leI, Nat.le_refl, ↓reduceIte, gI_sAf, w3, nI_add, nm_eq]
  · rintro k y w hk ⟨rfl, f, g, rfl, hff, hg⟩
    have hp1 : 1 + k < n := by omega
    obtain ⟨a1, a2⟩ := w2 (1 + k) (by omega) hp1
    obtain ⟨b1, b2⟩ := w5 (1 + k) (by omega) hp1
    have p2 : 2 ^ who (1 + k) < 32 := Nat.pow_lt_pow_right (a := 2) (by decide) a2
    have hle : ¬ nI n ≤ nI (1 + k) := nI_ge hp1 (by omega)
    have eg : g (1 + k) = nI (ev (1 + k)) := by rw [hg _ (by omega) hp1, if_neg (by omega)]
    have ef : f (1 + k) = gA v 34 (1 + k) := by rw [hff _ (by omega) hp1, if_neg (by omega)]
    have cm : ∀ f', sAf (sAf (sAf v 34 f) 35 g) 34 f' = sAf (sAf v 34 f') 35 g := by
      intro f'
      rw [sAf_comm (show (35 : Nat) ≠ 34 by decide), sAf_sAf]
    have c0 : nI cnt = nI 0 ↔ cnt = 0 := nI_eq (by omega) (by omega)
    refine Or.inl ⟨nI (1 + (k + 1)), sAf (sAf v 34 (upd f (1 + k) (nI (if 0 < cnt then fst (1 + k) else who (1 + k))))) 35 (upd g (1 + k) (nI (ev (1 + k) ||| 2 ^ who (1 + k)))), ⟨rfl, _, _, rfl, fun p h1 h2 => ?_, fun p h1 h2 => ?_⟩, fun rc => ?_⟩
    · by_cases e : p = 1 + k
      · rw [e, pk_us, if_pos (show 1 + k < 1 + (k + 1) by omega)]
      · rw [pk_un e, hff p h1 h2]
        by_cases c : p < 1 + k
        · rw [if_pos c, if_pos (show p < 1 + (k + 1) by omega)]
        · rw [if_neg c, if_neg (show ¬ p < 1 + (k + 1) by omega)]
    · by_cases e : p = 1 + k
      · rw [e, pk_us, if_pos (by omega)]
      · rw [pk_un e, hg p h1 h2]
        by_cases c : p < 1 + k
        · rw [if_pos c, if_pos (by omega)]
        · rw [if_neg c, if_neg (by omega)]
    · have e3 : 1 + k + 1 = 1 + (k + 1) := by omega
      by_cases c : cnt = 0
      · have c1 := c0.mpr c
        have c2 : ¬ 0 < cnt := by omega
        simp (disch := omega) only [f_X13_ways_12s, f_X13_ways_44, ↓lm_1, ↓lm_2, ↓lm_3, ↓lm_4, ↓lm_5, ↓lm_6, ↓lm_7, ↓lm_8, ↓lm_9, ↓lm_10, ↓lm_11, li_0, li_1, li_2, li_3, li_4, li_5, li_6, li_7, li_8, li_9, li_10, li_11, li_12, li_13, li_14, li_15, li_16, li_17, li_18, li_19, li_20, li_21, li_22, li_23, li_24, li_25, li_26, li_27, li_28, li_29, li_30, li_31, li_32, li_33, li_34, li_35, li_36, li_37, li_38, li_39, li_40, li_41, li_42, li_43, li_44, li_45, li_46, li_47, li_48, li_49, li_50, li_51, li_52, li_53, li_54, li_55, li_56, li_57, li_58, li_59, li_60, li_61, li_62, li_63, li_64, li_65, li_66, li_96, li_97, li_99, li_100, li_122, li_125, li_126, li_140, li_255, li_256, li_999, li_1000, li_1001, li_1002, li_1100, li_1386, li_1452, li_1518, li_9999, li_1000000, hle, ↓reduceIte, gI_sAf, w3, if_pos c1, c2, inb_n, ck_t, nI_clamp, gA_sAfn, gA_sAf, a1, nm_eq, sA, cm, sAf_sAf, eg, nI_and31, nI_shl1, nI_orN, nI_add, e3]
      · have c1 : ¬ nI cnt = nI 0 := fun q => c (c0.mp q)
        have c2 : 0 < cnt := by omega
        have w4' := w4 c2 (1 + k) (by omega) hp1
        rw [w4'] at ef
        simp (disch := omega) only [f_X13_ways_12s, f_X13_ways_44, ↓lm_1, ↓lm_2, ↓lm_3, ↓lm_4, ↓lm_5, ↓lm_6, ↓lm_7, ↓lm_8, ↓lm_9, ↓lm_10, ↓lm_11, li_0, li_1, li_2, li_3, li_4, li_5, li_6, li_7, li_8, li_9, li_10, li_11, li_12, li_13, li_14, li_15, li_16, li_17, li_18, li_19, li_20, li_21, li_22, li_23, li_24, li_25, li_26, li_27, li_28, li_29, li_30, li_31, li_32, li_33, li_34, li_35, li_36, li_37, li_38, li_39, li_40, li_41, li_42, li_43, li_44, li_45, li_46, li_47, li_48, li_49, li_50, li_51, li_52, li_53, li_54, li_55, li_56, li_57, li_58, li_59, li_60, li_61, li_62, li_63, li_64, li_65, li_66, li_96, li_97, li_99, li_100, li_122, li_125, li_126, li_140, li_255, li_256, li_999, li_1000, li_1001, li_1002, li_1100, li_1386, li_1452, li_1518, li_9999, li_1000000, hle, ↓reduceIte, gI_sAf, w3, c1, c2, inb_n, ck_t, nI_clamp, gA_sAfn, gA_sAf, ef, a1, nm_eq, sA, cm, sAf_sAf, eg, nI_and31, nI_shl1, nI_orN, nI_add, e3]
theorem m_ways (hf : 1101 ≤ fu) (hG : okG G) (hq : okq G q) : ∀ m c d, c + m = qn q → 1 ≤ c → m < d → ∀ (v : GV) (x cnt : Nat) (who fst ev : Nat → Nat), MG v G → MH (gA v 24) q → x < 243 → cnt + nWy (abl G q) m c x < 1000000 → WM v (qn q) c x who cnt fst ev → ∃ v' fst' ev', f_X13_waysD fu d v (nI c) = some v' ∧ mscr v v' ∧ WM v' (qn q) c x who (cnt + nWy (abl G q) m c x) fst' ev' ∧ (∀ p, 1 ≤ p → p < qn q → fst' p = (if 0 < cnt then fst p else if p < c then who p else FT (abl G q) m c x p)) ∧ ∀ p, 1 ≤ p → p < qn q → ∀ u, bt (ev' p) u = 1 ↔ bt (ev p) u = 1 ∨ (if p < c then who p = u ∧ 0 < nWy (abl G q) m c x else 0 < nWy (abr (abl G q) p u) m c x) := by
  have h8 := hq.1.2.1
  intro m
  induction m with
  | zero =>
    intro c d hc hc1 hd v x cnt who fst ev hM hh hx hcnt hW
    obtain ⟨d, rfl⟩ : ∃ d', d = d' + 1 := ⟨d - 1, by omega⟩
    have hcn : c = qn q := by omega
    subst hcn
    obtain ⟨v', k1, k2, k3⟩ := m_wleaf (fu := fu) hf (by omega) h8 (f_X13_waysD fu d) (by have : nWy (abl G q) 0 (qn q) x = 1 := rfl; omega) hW
    refine ⟨v', _, _, ?_, k2, k3, fun p h1 h2 => ?_, fun p h1 h2 u => ?_⟩
    · rw [yD_s]
      simp (disch := omega) only [f_X13_ways, f_X13_ways_0, ↓lm_1, ↓lm_2, ↓lm_3, ↓lm_4, ↓lm_5, ↓lm_6, ↓lm_7, ↓lm_8, ↓lm_9, ↓lm_10, ↓lm_11, li_0, li_1, li_2, li_3, li_4, li_5, li_6, li_7, li_8, li_9, li_10, li_11, li_12, li_13, li_14, li_15, li_16, li_17, li_18, li_19, li_20, li_21, li_22, li_23, li_24, li_25, li_26, li_27, li_28, li_29, li_30, li_31, li_32, li_33, li_34, li_35, li_36, li_37, li_38, li_39, li_40, li_41, li_42, li_43, li_44, li_45, li_46, li_47, li_48, li_49, li_50, li_51, li_52, li_53, li_54, li_55, li_56, li_57, li_58, li_59, li_60, li_61, li_62, li_63, li_64, li_65, li_66, li_96, li_97, li_99, li_100, li_122, li_125, li_126, li_140, li_255, li_256, li_999, li_1000, li_1001, li_1002, li_1100, li_1386, li_1452, li_1518, li_9999, li_1000000, nI_clamp, hh.2.2.1, ↓reduceIte, k1]
    · simp only [if_pos h2]
    · rw [bt_or_p2, if_pos h2]
      have : 0 < nWy (abl G q) 0 (qn q) x := Nat.one_pos
      constructor
      · rintro (a | a)
        · exact Or.inl a
        · exact Or.inr ⟨a, this⟩
      · rintro (a | a)
        · exact Or.inl a
        · exact Or.inr a.1
  | succ m ih =>
    intro c d hc hc1 hd v x cnt who fst ev hM hh hx hcnt hW
    obtain ⟨d, rfl⟩ : ∃ d', d = d' + 1 := ⟨d - 1, by omega⟩
    have h5 := hG.2.1
    have hcl : c < qn q := by omega
    have hsrc := (hq.2.2.1 c hc1 hcl)
    obtain ⟨F, P, eh⟩ := m0_hardOf (fu := fu) (v := v) (p := qs q c) (s := fo (qw q c)) hf hM hh hq (by omega)
    rw [mv0] at eh
    generalize hv7 : sAf (sAf v 22 F) 23 P = v7 at *
    have s7 : mscr v v7 := by rw [← hv7]; exact mscr_sAf (mscr_sAf (mscr_refl v) (by omega)) (by omega)
    have W7 : WM v7 (qn q) c x who cnt fst ev := by
      obtain ⟨w1, w2, w3, w4, w5⟩ := hW
      rw [← hv7]
      refine ⟨fun t ht => by rw [gA_sAfn _ _ (by decide), gA_sAfn _ _ (by decide)]; exact w1 t ht, fun p h1 h2 => by rw [gA_sAfn _ _ (by decide), gA_sAfn _ _ (by decide)]; exact w2 p h1 h2, w3, fun h0 p h1 h2 => by rw [gA_sAfn _ _ (by decide), gA_sAfn _ _ (by decide)]; exact w4 h0 p h1 h2, fun p h1 h2 => by rw [gA_sAfn _ _ (by decide), gA_sAfn _ _ (by decide)]; exact w5 p h1 h2⟩
    have FTs : FT (abl G q) (m + 1) c x = upN (FT (abl G q) m (c + 1) (x + 3 ^ ftn (Fm (abl G q) m c x) 5)) c (ftn (Fm (abl G q) m c x) 5) := rfl
    rw [nWy_s] at hcnt
    have key := lpI2 (fun k105 => f_X13_ways_105s fu (f_X13_waysD fu d) k105 (nI c) (hof G q (qs q c) (fo (qw q c)))) (fun t y w => y = nI t ∧ mscr v w ∧ ∃ fst' ev', WM w (qn q) c x who (cnt + sm (Fm (abl G q) m c x) t) fst' ev' ∧ (0 < cnt + sm (Fm (abl G q) m c x) t → ∀ p, 1 ≤ p → p < qn q → fst' p = (if 0 < cnt then fst p else if p < c then who p else FT (abl G q) (m + 1) c x p)) ∧ ∀ p, 1 ≤ p → p < qn q → ∀ u, bt (ev' p) u = 1 ↔ bt (ev p) u = 1 ∨ (if p < c then who p = u ∧ 0 < sm (Fm (abl G q) m c x) t else 0 < sm (Fm (abr (abl G q) p u) m c x) t)) (fun r => ∃ v' fst' ev', r = some v' ∧ mscr v v' ∧ WM v' (qn q) c x who (cnt + nWy (abl G q) (m + 1) c x) fst' ev' ∧ (∀ p, 1 ≤ p → p < qn q → fst' p = (if 0 < cnt then fst p else if p < c then who p else FT (abl G q) (m + 1) c x p)) ∧ ∀ p, 1 ≤ p → p < qn q → ∀ u, bt (ev' p) u = 1 ↔ bt (ev p) u = 1 ∨ (if p < c then who p = u ∧ 0 < nWy (abl G q) (m + 1) c x else 0 < nWy (abr (abl G q) p u) (m + 1) c x)) (nt G) ?_ ?_ fu 0 (nI 0) v7 ⟨rfl, s7, fst, ev, W7, fun h0 p h1 h2 => by rw [if_pos (by simp only [sm] at h0; omega)], fun p h1 h2 u => by simp [sm]⟩ (by omega) (by omega)
    · obtain ⟨r, ⟨v', fst', ev', e, k1⟩, e2⟩ := key
      refine ⟨v', fst', ev', ?_, k1⟩
      have hne : ¬ nI c = nI (qn q) := by rw [nI_eq (by omega) (by omega)]; omega
      have r1 := (hh.2.2.2.1 c hcl).2.2.2.1
      rw [if_neg (by omega)] at r1
      have r2 := (hh.2.2.2.1 c hcl).2.2.2.2 (by omega)
      rw [← e, ← e2, yD_s]
      simp (disch := omega) only [f_X13_ways, f_X13_ways_0, f_X13_ways_105, ↓lm_1, ↓lm_2, ↓lm_3, ↓lm_4, ↓lm_5, ↓lm_6, ↓lm_7, ↓lm_8, ↓lm_9, ↓lm_10, ↓lm_11, li_0, li_1, li_2, li_3, li_4, li_5, li_6, li_7, li_8, li_9, li_10, li_11, li_12, li_13, li_14, li_15, li_16, li_17, li_18, li_19, li_20, li_21, li_22, li_23, li_24, li_25, li_26, li_27, li_28, li_29, li_30, li_31, li_32, li_33, li_34, li_35, li_36, li_37, li_38, li_39, li_40, li_41, li_42, li_43, li_44, li_45, li_46, li_47, li_48, li_49, li_50, li_51, li_52, li_53, li_54, li_55, li_56, li_57, li_58, li_59, li_60, li_61, li_62, li_63, li_64, li_65, li_66, li_96, li_97, li_99, li_100, li_122, li_125, li_126, li_140, li_255, li_256, li_999, li_1000, li_1001, li_1002, li_1100, li_1386, li_1452, li_1518, li_9999, li_1000000, nI_clamp, hh.2.2.1, hne, ↓reduceIte, nI_add, nm_eq, inb_n, ck_t, r1, r2, eh, bd2_s]
    · rintro y w ⟨rfl, s1, fst', ev', W1, f1, e1⟩
      have hz : ∀ {ab : Nat → Nat → Bool}, (∀ t, nt G ≤ t → ab c t = false) → sm (Fm ab m c x) (nt G) = nWy ab (m + 1) c x := by
        intro ab hab
        rw [nWy_s]
        refine (sm_z _ h5 (fun k k1 k2 => ?_)).symm
        unfold Fm
        rw [if_neg]
        rintro ⟨a, _⟩
        rw [hab k k1] at a; exact absurd a (by decide)
      have z1 := hz (ab := abl G q) (fun t ht => abl_nt ht)
      have z2 : ∀ p u, sm (Fm (abr (abl G q) p u) m c x) (nt G) = nWy (abr (abl G q) p u) (m + 1) c x := by
        intro p u
        refine hz (fun t ht => ?_)
        rw [abr, abl_nt ht]; split <;> rfl
      rw [z1] at W1 f1 e1
      have th := x13_thieves (fu := fu) (MG_mscr hM s1).2.1
      refine ⟨_, ⟨w, fun p => if 0 < cnt + nWy (abl G q) (m + 1) c x then fst' p else (if 0 < cnt then fst p else if p < c then who p else FT (abl G q) (m + 1) c x p), ev', rfl, s1, ⟨W1.1, W1.2.1, W1.2.2.1, fun h0 p h1 h2 => by simp only [if_pos h0]; exact W1.2.2.2.1 h0 p h1 h2, W1.2.2.2.2⟩, fun p h1 h2 => ?_, fun p h1 h2 u => ?_⟩, fun rc => ?_⟩
      · simp only
        by_cases h0 : 0 < cnt + nWy (abl G q) (m + 1) c x
        · rw [if_pos h0]; exact f1 h0 p h1 h2
        · rw [if_neg h0]
      · rw [e1 p h1 h2 u, z2]
      · simp (disch := omega) only [f_X13_ways_105s, th, bd_s, nI_leI, Nat.le_refl, ↓reduceIte]
    · rintro t y w ht ⟨rfl, s1, fst', ev', W1, f1, e1⟩
      have th := x13_thieves (fu := fu) (MG_mscr hM s1).2.1
      have hle : ¬ nI (nt G) ≤ nI t := nI_ge ht (by omega)
      have hsk := m_skill (fu := fu) (MG_mscr hM s1) hG ht
      obtain ⟨w1, w2, w3, w4, w5⟩ := id W1
      have hp3 := p3_lt x t
      have sms : sm (Fm (abl G q) m c x) (t + 1) = sm (Fm (abl G q) m c x) t + Fm (abl G q) m c x t := rfl
      have smr : ∀ p u, sm (Fm (abr (abl G q) p u) m c x) (t + 1) = sm (Fm (abr (abl G q) p u) m c x) t + Fm (abr (abl G q) p u) m c x t := fun _ _ => rfl
      have smle : sm (Fm (abl G q) m c x) (t + 1) ≤ sm (Fm (abl G q) m c x) 5 := sm_mono _ (by omega)
      by_cases hok : abl G q c t = true ∧ p3 x t < 2
      · have hF : Fm (abl G q) m c x t = nWy (abl G q) m (c + 1) (x + 3 ^ t) := if_pos hok
        have hab : ¬ nI (sk G t) < hof G q (qs q c) (fo (qw q c)) := by
          have := hok.1
          rw [abl, decide_eq_true ht, Bool.true_and] at this
          intro a
          rw [decide_eq_true a] at this
          exact absurd this (by decide)
        obtain ⟨g1, g2⟩ := giv_up hx (show t < 5 by omega) hok.2
        -- the call
        have W2 : WM (sA (sA w 32 t (nI (p3 x t + 1))) 33 c (nI t)) (qn q) (c + 1) (x + 3 ^ t) (upN who c t) (cnt + sm (Fm (abl G q) m c x) t) fst' ev' := by
          refine ⟨fun u hu => ?_, fun p h1 h2 => ?_, w3, fun h0 p h1 h2 => by rw [gA_sAn _ _ _ (by decide), gA_sAn _ _ _ (by decide)]; exact w4 h0 p h1 h2, fun p h1 h2 => by rw [gA_sAn _ _ _ (by decide), gA_sAn _ _ _ (by decide)]; exact w5 p h1 h2⟩
          · rw [gA_sAn _ _ _ (by decide), gA_sA, p3_up hx (by omega) hu hok.2]
            by_cases e : u = t
            · rw [if_pos e, if_pos e, e]
            · rw [if_neg e, if_neg e]; exact w1 u hu
          · rw [gA_sA]
            by_cases e : p = c
            · rw [if_pos e, e, upN_s]; exact ⟨rfl, by omega⟩
            · rw [if_neg e, upN_n e, gA_sAn _ _ _ (by decide)]; exact w2 p h1 (by omega)
        have M2 : MG (sA (sA w 32 t (nI (p3 x t + 1))) 33 c (nI t)) G := MG_of (MG_mscr hM s1) (by rw [gA_sAn _ _ _ (by decide), gA_sAn _ _ _ (by decide)]) (by rw [gA_sAn _ _ _ (by decide), gA_sAn _ _ _ (by decide)]) (by rw [gA_sAn _ _ _ (by decide), gA_sAn _ _ _ (by decide)])
        have H2 : MH (gA (sA (sA w 32 t (nI (p3 x t + 1))) 33 c (nI t)) 24) q := by
          rw [gA_sAn _ _ _ (by decide), gA_sAn _ _ _ (by decide)]
          exact MH_ext (fun k hk => s1.2.1 k (by omega)) h8 hh
        obtain ⟨v', fst2, ev2, k1, k2, k3, k4, k5⟩ := ih (c + 1) d (by omega) (by omega) (by omega) _ (x + 3 ^ t) _ (upN who c t) fst' ev' M2 H2 g1 (by omega) W2
        obtain ⟨x1, x2, x3, x4, x5⟩ := id k3
        have g32 : gA v' 32 = upd (gA w 32) t (nI (p3 x t + 1)) := by
          rw [k2.1 32 (by omega), gA_sAn _ _ _ (by decide)]
          funext u
          rw [gA_sA]; rfl
        have back : upd (gA v' 32) t (nI (p3 x t)) = gA w 32 := by
          rw [g32]
          funext u
          by_cases e : u = t
          · subst e; rw [pk_us, w1 u (by omega)]
          · rw [pk_un e, pk_un e]
        have s2 : mscr v (sA v' 32 t (nI (p3 x t))) := by
          obtain ⟨a1, a2, a3, a4, a5, a6, a7, a8⟩ := k2
          refine mscr_trans s1 ⟨fun k hk => ?_, fun z hz => ?_, a3, a4, a5, a6, a7, a8⟩
          · by_cases e : k = 32
            · subst e
              rw [sA, gA_sAf]; exact back
            · rw [gA_sAn _ _ _ e, a1 k hk, gA_sAn _ _ _ (by omega), gA_sAn _ _ _ e]
          · rw [gA_sAn _ _ _ (by decide), a2 z hz, gA_sAn _ _ _ (by decide), gA_sAn _ _ _ (by decide)]
        refine Or.inl ⟨nI (t + 1), sA v' 32 t (nI (p3 x t)), ⟨rfl, s2, fst2, ev2, ⟨fun u hu => ?_, fun p h1 h2 => ?_, ?_, fun h0 p h1 h2 => ?_, fun p h1 h2 => ?_⟩, fun h0 p h1 h2 => ?_, fun p h1 h2 u => ?_⟩, fun rc => ?_⟩
        · rw [sA, gA_sAf, back]; exact w1 u hu
        · rw [gA_sAn _ _ _ (by decide)]
          have := x2 p h1 (by omega)
          rwa [upN_n (by omega)] at this
        · rw [gI_sA, x3, sms, hF, Nat.add_assoc]
        · rw [gA_sAn _ _ _ (by decide)]
          rw [sms, hF, ← Nat.add_assoc] at h0
          exact x4 h0 p h1 h2
        · rw [gA_sAn _ _ _ (by decide)]; exact x5 p h1 h2
        · rw [k4 p h1 h2]
          by_cases c0 : 0 < cnt + sm (Fm (abl G q) m c x) t
          · rw [if_pos c0]; exact f1 c0 p h1 h2
          · rw [if_neg c0, if_neg (show ¬ 0 < cnt by omega)]
            have hft : ftn (Fm (abl G q) m c x) 5 = t := ftn_eq (by omega) (by rw [sms] at h0; omega) 5 (by omega)
            by_cases e : p < c
            · rw [if_pos (by omega), if_pos e, upN_n (by omega)]
            · rw [if_neg e, FTs, hft]
              by_cases e2 : p = c
              · rw [if_pos (by omega), e2, upN_s, upN_s]
              · rw [if_neg (by omega), upN_n e2]
        · rw [k5 p h1 h2 u, e1 p h1 h2 u, sms, smr, hF]
          by_cases e : p < c
          · rw [if_pos e, if_pos (by omega), if_pos e, upN_n (by omega)]
            constructor
            · rintro ((a | a) | a)
              · exact Or.inl a
              · exact Or.inr ⟨a.1, by omega⟩
              · exact Or.inr ⟨a.1, by omega⟩
            · rintro (a | a)
              · exact Or.inl (Or.inl a)
              · by_cases z : 0 < sm (Fm (abl G q) m c x) t
                · exact Or.inl (Or.inr ⟨a.1, z⟩)
                · exact Or.inr ⟨a.1, by omega⟩
          · rw [if_neg e, if_neg e]
            have hFr : Fm (abr (abl G q) p u) m c x t = (if p < c + 1 then (if upN who c t p = u then nWy (abl G q) m (c + 1) (x + 3 ^ t) else 0) else nWy (abr (abl G q) p u) m (c + 1) (x + 3 ^ t)) := by
              unfold Fm
              by_cases e2 : p = c
              · subst e2
                rw [if_pos (show p < p + 1 by omega), upN_s]
                by_cases e3 : t = u
                · have : abr (abl G q) p u p t = true := by rw [abr, if_pos rfl, hok.1, decide_eq_true e3]; rfl
                  rw [if_pos ⟨this, hok.2⟩, if_pos e3, nWy_abr _ _ _ _ (by omega)]
                · have : abr (abl G q) p u p t = false := by rw [abr, if_pos rfl, decide_eq_false e3, Bool.and_false]
                  rw [if_neg (by rw [this]; rintro ⟨a, _⟩; exact absurd a (by decide)), if_neg e3]
              · have : abr (abl G q) p u c t = true := by rw [abr, if_neg (fun z => e2 z.symm)]; exact hok.1
                rw [if_pos ⟨this, hok.2⟩, if_neg (show ¬ p < c + 1 by omega)]
            rw [hFr]
            by_cases e2 : p < c + 1
            · rw [if_pos e2, if_pos e2]
              constructor
              · rintro ((a | a) | a)
                · exact Or.inl a
                · exact Or.inr (by omega)
                · rw [if_pos a.1]; exact Or.inr (by omega)
              · rintro (a | a)
                · exact Or.inl (Or.inl a)
                · by_cases z : 0 < sm (Fm (abr (abl G q) p u) m c x) t
                  · exact Or.inl (Or.inr z)
                  · by_cases z2 : upN who c t p = u
                    · rw [if_pos z2] at a; exact Or.inr ⟨z2, by omega⟩
                    · rw [if_neg z2] at a; omega
            · rw [if_neg e2, if_neg e2]
              constructor
              · rintro ((a | a) | a)
                · exact Or.inl a
                · exact Or.inr (by omega)
                · exact Or.inr (by omega)
              · rintro (a | a)
                · exact Or.inl (Or.inl a)
                · by_cases z : 0 < sm (Fm (abr (abl G q) p u) m c x) t
                  · exact Or.inl (Or.inr z)
                  · exact Or.inr (by omega)
        · have c2 : ¬ nI 2 ≤ nI (p3 x t) := nI_ge hok.2 (by omega)
          have e32 : gA v' 32 t = nI (p3 x t + 1) := by rw [g32, pk_us]
          simp (disch := omega) only [f_X13_ways_105s, f_X13_ways_167, ↓lm_1, ↓lm_2, ↓lm_3, ↓lm_4, ↓lm_5, ↓lm_6, ↓lm_7, ↓lm_8, ↓lm_9, ↓lm_10, ↓lm_11, li_0, li_1, li_2, li_3, li_4, li_5, li_6, li_7, li_8, li_9, li_10, li_11, li_12, li_13, li_14, li_15, li_16, li_17, li_18, li_19, li_20, li_21, li_22, li_23, li_24, li_25, li_26, li_27, li_28, li_29, li_30, li_31, li_32, li_33, li_34, li_35, li_36, li_37, li_38, li_39, li_40, li_41, li_42, li_43, li_44, li_45, li_46, li_47, li_48, li_49, li_50, li_51, li_52, li_53, li_54, li_55, li_56, li_57, li_58, li_59, li_60, li_61, li_62, li_63, li_64, li_65, li_66, li_96, li_97, li_99, li_100, li_122, li_125, li_126, li_140, li_255, li_256, li_999, li_1000, li_1001, li_1002, li_1100, li_1386, li_1452, li_1518, li_9999, li_1000000, th, bd_s, hle, ↓reduceIte, inb_n, ck_t, nI_clamp, w1 t (by omega), c2, hsk, hab, nI_add, nm_eq, k1, e32, pk_sub, Nat.add_sub_cancel]
      · have hF : Fm (abl G q) m c x t = 0 := if_neg hok
        have hFr : ∀ p u, Fm (abr (abl G q) p u) m c x t = 0 := by
          intro p u
          unfold Fm
          rw [if_neg]
          rintro ⟨a, b⟩
          apply hok
          refine ⟨?_, b⟩
          rw [abr] at a
          by_cases e : c = p
          · rw [if_pos e, Bool.and_eq_true] at a; exact a.1
          · rw [if_neg e] at a; exact a
        refine Or.inl ⟨nI (t + 1), w, ⟨rfl, s1, fst', ev', by rw [sms, hF]; exact W1, by rw [sms, hF]; exact f1, fun p h1 h2 u => by rw [sms, hF, smr, hFr]; exact e1 p h1 h2 u⟩, fun rc => ?_⟩
        by_cases c2 : p3 x t < 2
        · have c2' : ¬ nI 2 ≤ nI (p3 x t) := nI_ge c2 (by omega)
          have hab : nI (sk G t) < hof G q (qs q c) (fo (qw q c)) := by
            apply Classical.byContradiction
            intro a
            apply hok
            refine ⟨?_, c2⟩
            rw [abl, decide_eq_true ht, decide_eq_false a]; rfl
          simp (disch := omega) only [f_X13_ways_105s, f_X13_ways_167, ↓lm_1, ↓lm_2, ↓lm_3, ↓lm_4, ↓lm_5, ↓lm_6, ↓lm_7, ↓lm_8, ↓lm_9, ↓lm_10, ↓lm_11, li_0, li_1, li_2, li_3, li_4, li_5, li_6, li_7, li_8, li_9, li_10, li_11, li_12, li_13, li_14, li_15, li_16, li_17, li_18, li_19, li_20, li_21, li_22, li_23, li_24, li_25, li_26, li_27, li_28, li_29, li_30, li_31, li_32, li_33, li_34, li_35, li_36, li_37, li_38, li_39, li_40, li_41, li_42, li_43, li_44, li_45, li_46, li_47, li_48, li_49, li_50, li_51, li_52, li_53, li_54, li_55, li_56, li_57, li_58, li_59, li_60, li_61, li_62, li_63, li_64, li_65, li_66, li_96, li_97, li_99, li_100, li_122, li_125, li_126, li_140, li_255, li_256, li_999, li_1000, li_1001, li_1002, li_1100, li_1386, li_1452, li_1518, li_9999, li_1000000, th, bd_s, hle, ↓reduceIte, inb_n, ck_t, nI_clamp, w1 t (by omega), c2', hsk, hab, nI_add, nm_eq]
        · have c2' : nI 2 ≤ nI (p3 x t) := nI_le (by omega) (by omega)
          simp (disch := omega) only [f_X13_ways_105s, f_X13_ways_167, ↓lm_1, ↓lm_2, ↓lm_3, ↓lm_4, ↓lm_5, ↓lm_6, ↓lm_7, ↓lm_8, ↓lm_9, ↓lm_10, ↓lm_11, li_0, li_1, li_2, li_3, li_4, li_5, li_6, li_7, li_8, li_9, li_10, li_11, li_12, li_13, li_14, li_15, li_16, li_17, li_18, li_19, li_20, li_21, li_22, li_23, li_24, li_25, li_26, li_27, li_28, li_29, li_30, li_31, li_32, li_33, li_34, li_35, li_36, li_37, li_38, li_39, li_40, li_41, li_42, li_43, li_44, li_45, li_46, li_47, li_48, li_49, li_50, li_51, li_52, li_53, li_54, li_55, li_56, li_57, li_58, li_59, li_60, li_61, li_62, li_63, li_64, li_65, li_66, li_96, li_97, li_99, li_100, li_122, li_125, li_126, li_140, li_255, li_256, li_999, li_1000, li_1001, li_1002, li_1100, li_1386, li_1452, li_1518, li_9999, li_1000000, th, bd_s, hle, ↓reduceIte, inb_n, ck_t, nI_clamp, w1 t (by omega), c2', nI_add, nm_eq]
theorem m_findWays (hf : 1101 ≤ fu) (hG : okG G) (hq : okq G q) {v : GV} (hM : MG v G) (hh : MH (gA v 24) q) (h32 : ∀ t, t < 5 → gA v 32 t = nI 0) : ∃ (v' : GV) (ev : Nat → Nat), f_X13_findWays fu v = some v' ∧ mscr v v' ∧ gI v' 36 = nI (nWy (abl G q) (qn q - 1) 1 0) ∧ (0 < nWy (abl G q) (qn q - 1) 1 0 → ∀ p, 1 ≤ p → p < qn q → gA v' 34 p = nI (FT (abl G q) (qn q - 1) 1 0 p)) ∧ ∀ p, 1 ≤ p → p < qn q → gA v' 35 p = nI (ev p) ∧ ev p < 32 ∧ ∀ u, bt (ev p) u = 1 ↔ 0 < nWy (abr (abl G q) p u) (qn q - 1) 1 0 := by
  have h1 := hq.1.1
  have h8 := hq.1.2.1
  have key := lpI2 (fun k7 => f_X13_findWays_7s fu k7) (fun k y w => y = nI k ∧ ∃ f, w = sAf (sI v 36 (nI 0)) 35 f ∧ ∀ p, p < k → f p = nI 0) (fun r => ∃ (v' : GV) (ev : Nat → Nat), r = some v' ∧ mscr v v' ∧ gI v' 36 = nI (nWy (abl G q) (qn q - 1) 1 0) ∧ (0 < nWy (abl G q) (qn q - 1) 1 0 → ∀ p, 1 ≤ p → p < qn q → gA v' 34 p = nI (FT (abl G q) (qn q - 1) 1 0 p)) ∧ ∀ p, 1 ≤ p → p < qn q → gA v' 35 p = nI (ev p) ∧ ev p < 32 ∧ ∀ u, bt (ev p) u = 1 ↔ 0 < nWy (abr (abl G q) p u) (qn q - 1) 1 0) 8 ?_ ?_ fu 0 (nI 0) (sI v 36 (nI 0)) ⟨rfl, _, (sAf_self _ 35).symm, fun p hp => by omega⟩ (by omega) (by omega)
  · obtain ⟨r, ⟨v', ev, e, k⟩, e2⟩ := key
    refine ⟨v', ev, ?_, k⟩
    rw [← e, ← e2]
    simp only [f_X13_findWays, f_X13_findWays_0, f_X13_findWays_7, ↓lm_1, ↓lm_2, ↓lm_3, ↓lm_4, ↓lm_5, ↓lm_6, ↓lm_7, ↓lm_8, ↓lm_9, ↓lm_10, ↓lm_11, li_0, li_1, li_2, li_3, li_4, li_5, li_6, li_7, li_8, li_9, li_10, li_11, li_12, li_13, li_14, li_15, li_16, li_17, li_18, li_19, li_20, li_21, li_22, li_23, li_24, li_25, li_26, li_27, li_28, li_29, li_30, li_31, li_32, li_33, li_34, li_35, li_36, li_37, li_38, li_39, li_40, li_41, li_42, li_43, li_44, li_45, li_46, li_47, li_48, li_49, li_50, li_51, li_52, li_53, li_54, li_55, li_56, li_57, li_58, li_59, li_60, li_61, li_62, li_63, li_64, li_65, li_66, li_96, li_97, li_99, li_100, li_122, li_125, li_126, li_140, li_255, li_256, li_999, li_1000, li_1001, li_1002, li_1100, li_1386, li_1452, li_1518, li_9999, li_1000000, nm_eq]
  · rintro y w ⟨rfl, f, rfl, hf0⟩
    have s1 : mscr v (sAf (sI v 36 (nI 0)) 35 f) := mscr_sAf (mscr_sI (mscr_refl v) (by decide) (by decide) (by decide)) (by omega)
    have hle := nWy_le (abl G q) (qn q - 1) 1 0
    have hp5 : 5 ^ (qn q - 1) ≤ 5 ^ 7 := Nat.pow_le_pow_right (by decide) (by omega)
    have h57 : (5 : Nat) ^ 7 = 78125 := by decide
    have W0 : WM (sAf (sI v 36 (nI 0)) 35 f) (qn q) 1 0 (fun _ => 0) 0 (fun _ => 0) (fun _ => 0) := by
      refine ⟨fun t ht => ?_, fun p a b => by omega, by rw [gI_sAf, gI_sI, if_pos rfl], fun h => by omega, fun p a b => ⟨by rw [gA_sAf]; exact hf0 p (by omega), show (0 : Nat) < 32 by decide⟩⟩
      rw [gA_sAfn _ _ (by decide), gA_sI, h32 t ht]
      rcases (show t = 0 ∨ t = 1 ∨ t = 2 ∨ t = 3 ∨ t = 4 by omega) with rfl | rfl | rfl | rfl | rfl <;> rfl
    obtain ⟨v', fst', ev', k1, k2, k3, k4, k5⟩ := m_ways (fu := fu) hf hG hq (qn q - 1) 1 8 (by omega) (by omega) (by omega) (sAf (sI v 36 (nI 0)) 35 f) 0 0 (fun _ => 0) (fun _ => 0) (fun _ => 0) (MG_mscr hM s1) (MH_ext (fun k hk => s1.2.1 k (by omega)) h8 hh) (by omega) (by omega) W0
    refine ⟨_, ⟨v', ev', rfl, mscr_trans s1 k2, ?_, fun h0 p a b => ?_, fun p a b => ⟨(k3.2.2.2.2 p a b).1, (k3.2.2.2.2 p a b).2, fun u => ?_⟩⟩, fun rc => ?_⟩
    · have := k3.2.2.1; rwa [Nat.zero_add] at this
    · rw [k3.2.2.2.1 (by omega) p a b, k4 p a b, if_neg (by omega), if_neg (by omega)]
    · have := k5 p a b u
      rw [if_neg (by omega)] at this
      rw [this]
      constructor
      · rintro (c | c)
        · simp [bt] at c
        · exact c
      · exact fun c => Or.inr c
    · have e : nI 8 ≤ nI 8 := by decide
      simp only [f_X13_findWays_7s, ↓lm_1, ↓lm_2, ↓lm_3, ↓lm_4, ↓lm_5, ↓lm_6, ↓lm_7, ↓lm_8, ↓lm_9, ↓lm_10, ↓lm_11, li_0, li_1, li_2, li_3, li_4, li_5, li_6, li_7, li_8, li_9, li_10, li_11, li_12, li_13, li_14, li_15, li_16, li_17, li_18, li_19, li_20, li_21, li_22, li_23, li_24, li_25, li_26, li_27, li_28, li_29, li_30, li_31, li_32, li_33, li_34, li_35, li_36, li_37, li_38, li_39, li_40, li_41, li_42, li_43, li_44, li_45, li_46, li_47, li_48, li_49, li_50, li_51, li_52, li_53, li_54, li_55, li_56, li_57, li_58, li_59, li_60, li_61, li_62, li_63, li_64, li_65, li_66, li_96, li_97, li_99, li_100, li_122, li_125, li_126, li_140, li_255, li_256, li_999, li_1000, li_1001, li_1002, li_1100, li_1386, li_1452, li_1518, li_9999, li_1000000, e, ↓reduceIte, k1, bd_s]
  · rintro k y w hk ⟨rfl, f, rfl, hf0⟩
    have e : ¬ nI 8 ≤ nI k := nI_ge hk (by omega)
    refine Or.inl ⟨nI (k + 1), sAf (sI v 36 (nI 0)) 35 (upd f k (nI 0)), ⟨rfl, _, rfl, fun p hp => ?_⟩, fun rc => ?_⟩
    · by_cases c : p = k
      · rw [c, pk_us]
      · rw [pk_un c]; exact hf0 p (by omega)
    · simp (disch := omega) only [f_X13_findWays_7s, ↓lm_1, ↓lm_2, ↓lm_3, ↓lm_4, ↓lm_5, ↓lm_6, ↓lm_7, ↓lm_8, ↓lm_9, ↓lm_10, ↓lm_11, li_0, li_1, li_2, li_3, li_4, li_5, li_6, li_7, li_8, li_9, li_10, li_11, li_12, li_13, li_14, li_15, li_16, li_17, li_18, li_19, li_20, li_21, li_22, li_23, li_24, li_25, li_26, li_27, li_28, li_29, li_30, li_31, li_32, li_33, li_34, li_35, li_36, li_37, li_38, li_39, li_40, li_41, li_42, li_43, li_44, li_45, li_46, li_47, li_48, li_49, li_50, li_51, li_52, li_53, li_54, li_55, li_56, li_57, li_58, li_59, li_60, li_61, li_62, li_63, li_64, li_65, li_66, li_96, li_97, li_99, li_100, li_122, li_125, li_126, li_140, li_255, li_256, li_999, li_1000, li_1001, li_1002, li_1100, li_1386, li_1452, li_1518, li_9999, li_1000000, e, ↓reduceIte, inb_n, ck_t, nI_clamp, nm_eq, nI_add, sA, sAf_sAf, gA_sAf]
end M
