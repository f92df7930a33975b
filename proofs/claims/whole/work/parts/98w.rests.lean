/-! ===== rests: the class's and the model's answers are alike ===== -/
noncomputable def f_X12_rests_43s (fu : Nat) (k43 : Int32 → Int32 → Option (Option Int32)) (x1 x2 x3 x4 : Int32) (x5 x6 : Int32) : Option (Option Int32) :=
  if (100 : Int32) ≤ x6 then
    (if x4 = (-1 : Int32) then
      (some (some x5))
    else
      (some none))
  else
    (bd (f_X12_isRest fu x1 x2 x3 (x6 / (10 : Int32)) (x6 - x6 / (10 : Int32) * (10 : Int32))) fun r3 =>
    if r3 = 0 then
      (nm (x6 + (1 : Int32)) fun y6 =>
      k43 x5 y6)
    else
      (if x5 = x4 then
        (some (some x6))
      else
        (nm (x5 + (1 : Int32)) fun y5 =>
        nm (x6 + (1 : Int32)) fun y6 =>
        k43 y5 y6)))
noncomputable def f_X12_rests_43 (fu n : Nat) (x1 x2 x3 x4 : Int32) : Int32 → Int32 → Option (Option Int32) :=
  lq_2 (fun k43 => f_X12_rests_43s fu k43 x1 x2 x3 x4) n
noncomputable def f_X12_rests (fu : Nat) (x1 x2 x3 x4 : Int32) : Option (Option Int32) :=
  if x1 < 0 then (some none)
  else (if (10 : Int32) ≤ x1 then (some none)
  else (if x2 < 0 then (some none)
  else (if (10 : Int32) ≤ x2 then (some none)
  else (if (-1 : Int32) ≤ x4 then (f_X12_rests_43 fu fu x1 x2 x3 x4 (0 : Int32) (0 : Int32))
  else (some none)))))
def rg1 (w o a b : Int32) : Int32 := if a < b then 0 else if o = 0 then w - b else w - a
def rg2 (w o a b : Int32) : Int32 := if b ≤ a then 0 else if o = 0 then w - a else w - b
theorem i10 : ¬ (1 : Int32) = 0 := by decide
section RS
variable {fu : Nat} {w o a b x0 x1 x2 x3 x4 : Int32}
theorem x12_fg : f_X12_firstGain fu w o a b = some (rg1 w o a b) := by
  simp only [f_X12_firstGain_15, f_X12_firstGain_0, f_X12_firstGain, rg1]
  by_cases c : a < b
  · rw [if_pos c, if_pos c]
  · rw [if_neg c, if_neg c]
    by_cases d : o = 0
    · rw [if_pos d, if_pos d]
    · rw [if_neg d, if_neg d]
theorem x12_sg : f_X12_secondGain fu w o a b = some (rg2 w o a b) := by
  simp only [f_X12_secondGain_15, f_X12_secondGain_0, f_X12_secondGain, rg2]
  by_cases c : b ≤ a
  · rw [if_pos c, if_pos c]
  · rw [if_neg c, if_neg c]
    by_cases d : o = 0
    · rw [if_pos d, if_pos d]
    · rw [if_neg d, if_neg d]
theorem x13_g1 (c : a < b) : f_X13_getsBy fu w (0 : Int32) a b o = some (rg1 w o a b) := by
  simp only [f_X13_getsBy_15, f_X13_getsBy_0, f_X13_getsBy, rg1, ↓reduceIte, if_pos c]
theorem x13_g1' (c : ¬ a < b) : f_X13_getsBy fu w (1 : Int32) a b o = some (rg1 w o a b) := by
  simp only [f_X13_getsBy_15, f_X13_getsBy_0, f_X13_getsBy, rg1, if_neg i10, if_neg c]
  by_cases d : o = 0
  · rw [if_pos d, if_pos d]
  · rw [if_neg d, if_neg d]
theorem x13_g2 (c : b ≤ a) : f_X13_getsBy fu w (0 : Int32) b a o = some (rg2 w o a b) := by
  simp only [f_X13_getsBy_15, f_X13_getsBy_0, f_X13_getsBy, rg2, ↓reduceIte, if_pos c]
theorem x13_g2' (c : ¬ b ≤ a) : f_X13_getsBy fu w (1 : Int32) b a o = some (rg2 w o a b) := by
  simp only [f_X13_getsBy_15, f_X13_getsBy_0, f_X13_getsBy, rg2, if_neg i10, if_neg c]
  by_cases d : o = 0
  · rw [if_pos d, if_pos d]
  · rw [if_neg d, if_neg d]
def rok (x0 x1 o a b k : Int32) : Bool := decide (rg1 x0 o k b ≤ rg1 x0 o a b) && decide (rg2 x1 o a k ≤ rg2 x1 o a b)
def ralf (q : Nat → Bool) : Nat → Nat → Bool
  | 0, _ => true
  | n + 1, k => q k && ralf q n (k + 1)
def b2I (b : Bool) : Int32 := if b = true then 1 else 0
theorem ge10 {k : Nat} (h : k < 10) : ¬ (10 : Int32) ≤ nI k := by
  rw [show (10 : Int32) = nI 10 from rfl, nI_leI (by omega) (by omega)]; omega
theorem ge100 {k : Nat} (h : k < 100) : ¬ (100 : Int32) ≤ nI k := by
  rw [show (100 : Int32) = nI 100 from rfl, nI_leI (by omega) (by omega)]; omega
theorem nI_s (k : Nat) : nI k + (1 : Int32) = nI (k + 1) := by
  rw [show (1 : Int32) = nI 1 from rfl, nI_add]
theorem x12_ir (n : Nat) : ∀ k m, n + k = 10 → n < m → f_X12_isRest_23 fu m x0 x1 x2 x3 x4 (rg1 x0 x2 x3 x4) (rg2 x1 x2 x3 x4) (nI k) = some (b2I (ralf (fun j => rok x0 x1 x2 x3 x4 (nI j)) n k)) := by
  induction n with
  | zero =>
    intro k m hk hm
    obtain ⟨m, rfl⟩ : ∃ y, m = y + 1 := ⟨m - 1, by omega⟩
    obtain rfl : k = 10 := by omega
    show f_X12_isRest_23s fu (f_X12_isRest_23 fu m x0 x1 x2 x3 x4 (rg1 x0 x2 x3 x4) (rg2 x1 x2 x3 x4)) x0 x1 x2 x3 x4 (rg1 x0 x2 x3 x4) (rg2 x1 x2 x3 x4) (nI 10) = _
    simp only [f_X12_isRest_23s]
    rw [if_pos (by decide)]
    rfl
  | succ n ih =>
    intro k m hk hm
    obtain ⟨m, rfl⟩ : ∃ y, m = y + 1 := ⟨m - 1, by omega⟩
    show f_X12_isRest_23s fu (f_X12_isRest_23 fu m x0 x1 x2 x3 x4 (rg1 x0 x2 x3 x4) (rg2 x1 x2 x3 x4)) x0 x1 x2 x3 x4 (rg1 x0 x2 x3 x4) (rg2 x1 x2 x3 x4) (nI k) = _
    simp only [f_X12_isRest_23s, f_X12_isRest_49, if_neg (ge10 (show k < 10 by omega)), x12_fg, x12_sg, bd_s, nm_eq, ralf, rok, ↓reduceIte, if_neg i10, f_X12_isRest_69]
    rw [nI_s, ih (k + 1) m (by omega) (by omega)]
    by_cases h1 : rg1 x0 x2 (nI k) x4 ≤ rg1 x0 x2 x3 x4
    · rw [if_pos h1, decide_eq_true h1, Bool.true_and]
      by_cases h2 : rg2 x1 x2 x3 (nI k) ≤ rg2 x1 x2 x3 x4
      · rw [if_pos h2, decide_eq_true h2, Bool.true_and]; rfl
      · rw [if_neg h2, decide_eq_false h2, Bool.false_and]; rfl
    · rw [if_neg h1, decide_eq_false h1, Bool.false_and, Bool.false_and]; rfl
theorem x12_isr (hf : 11 ≤ fu) : f_X12_isRest fu x0 x1 x2 x3 x4 = some (b2I (ralf (fun j => rok x0 x1 x2 x3 x4 (nI j)) 10 0)) := by
  simp only [f_X12_isRest, f_X12_isRest_0, x12_fg, x12_sg, bd_s]
  exact x12_ir 10 0 fu rfl (by omega)
theorem x13_ir0 (n : Nat) : ∀ k m, n + k = 10 → n < m → f_X13_isRest_48 fu m x0 x1 x2 x3 x4 (rg1 x0 x2 x3 x4) (rg2 x1 x2 x3 x4) (0 : Int32) (nI k) = some 0 := by
  induction n with
  | zero =>
    intro k m hk hm
    obtain ⟨m, rfl⟩ : ∃ y, m = y + 1 := ⟨m - 1, by omega⟩
    obtain rfl : k = 10 := by omega
    show f_X13_isRest_48s fu (f_X13_isRest_48 fu m x0 x1 x2 x3 x4 (rg1 x0 x2 x3 x4) (rg2 x1 x2 x3 x4)) x0 x1 x2 x3 x4 (rg1 x0 x2 x3 x4) (rg2 x1 x2 x3 x4) (0 : Int32) (nI 10) = _
    simp only [f_X13_isRest_48s]
    rw [if_pos (by decide), show isB (0 : Int32) = true by decide]
    rfl
  | succ n ih =>
    intro k m hk hm
    obtain ⟨m, rfl⟩ : ∃ y, m = y + 1 := ⟨m - 1, by omega⟩
    show f_X13_isRest_48s fu (f_X13_isRest_48 fu m x0 x1 x2 x3 x4 (rg1 x0 x2 x3 x4) (rg2 x1 x2 x3 x4)) x0 x1 x2 x3 x4 (rg1 x0 x2 x3 x4) (rg2 x1 x2 x3 x4) (0 : Int32) (nI k) = _
    simp only [f_X13_isRest_48s, if_neg (ge10 (show k < 10 by omega)), ↓reduceIte, f_X13_isRest_114, f_X13_isRest_115, nm_eq]
    rw [nI_s, ih (k + 1) m (by omega) (by omega)]
theorem x13_ir (n : Nat) : ∀ k m, n + k = 10 → n < m → f_X13_isRest_48 fu m x0 x1 x2 x3 x4 (rg1 x0 x2 x3 x4) (rg2 x1 x2 x3 x4) (1 : Int32) (nI k) = some (b2I (ralf (fun j => rok x0 x1 x2 x3 x4 (nI j)) n k)) := by
  induction n with
  | zero =>
    intro k m hk hm
    obtain ⟨m, rfl⟩ : ∃ y, m = y + 1 := ⟨m - 1, by omega⟩
    obtain rfl : k = 10 := by omega
    show f_X13_isRest_48s fu (f_X13_isRest_48 fu m x0 x1 x2 x3 x4 (rg1 x0 x2 x3 x4) (rg2 x1 x2 x3 x4)) x0 x1 x2 x3 x4 (rg1 x0 x2 x3 x4) (rg2 x1 x2 x3 x4) (1 : Int32) (nI 10) = _
    simp only [f_X13_isRest_48s]
    rw [if_pos (by decide), show isB (1 : Int32) = true by decide]
    rfl
  | succ n ih =>
    intro k m hk hm
    obtain ⟨m, rfl⟩ : ∃ y, m = y + 1 := ⟨m - 1, by omega⟩
    show f_X13_isRest_48s fu (f_X13_isRest_48 fu m x0 x1 x2 x3 x4 (rg1 x0 x2 x3 x4) (rg2 x1 x2 x3 x4)) x0 x1 x2 x3 x4 (rg1 x0 x2 x3 x4) (rg2 x1 x2 x3 x4) (1 : Int32) (nI k) = _
    have s73 : ∀ t1, f_X13_getsBy fu x0 t1 (nI k) x4 x2 = some (rg1 x0 x2 (nI k) x4) → f_X13_isRest_73 fu (f_X13_isRest_48 fu m x0 x1 x2 x3 x4 (rg1 x0 x2 x3 x4) (rg2 x1 x2 x3 x4)) x0 x1 x2 x3 x4 (rg1 x0 x2 x3 x4) (rg2 x1 x2 x3 x4) (nI k) x0 t1 = some (b2I (ralf (fun j => rok x0 x1 x2 x3 x4 (nI j)) (n + 1) k)) := by
      intro t1 ht
      have s98 : ∀ t2, f_X13_getsBy fu x1 t2 (nI k) x3 x2 = some (rg2 x1 x2 x3 (nI k)) → rg1 x0 x2 (nI k) x4 ≤ rg1 x0 x2 x3 x4 → f_X13_isRest_98 fu (f_X13_isRest_48 fu m x0 x1 x2 x3 x4 (rg1 x0 x2 x3 x4) (rg2 x1 x2 x3 x4)) x0 x1 x2 x3 x4 (rg1 x0 x2 x3 x4) (rg2 x1 x2 x3 x4) (nI k) x1 t2 = some (b2I (ralf (fun j => rok x0 x1 x2 x3 x4 (nI j)) (n + 1) k)) := by
        intro t2 ht2 h1
        simp only [f_X13_isRest_98, ht2, bd_s, f_X13_isRest_114, f_X13_isRest_115, nm_eq, ralf, rok]
        rw [nI_s, x13_ir0 n (k + 1) m (by omega) (by omega), ih (k + 1) m (by omega) (by omega), decide_eq_true h1, Bool.true_and]
        by_cases h2 : rg2 x1 x2 x3 (nI k) ≤ rg2 x1 x2 x3 x4
        · rw [if_neg (Int32.not_lt.mpr h2), decide_eq_true h2, Bool.true_and]; rfl
        · rw [if_pos (Int32.not_le.mp h2), decide_eq_false h2, Bool.false_and]; rfl
      simp only [f_X13_isRest_73, ht, bd_s]
      by_cases h1 : rg1 x0 x2 (nI k) x4 ≤ rg1 x0 x2 x3 x4
      · rw [if_neg (Int32.not_lt.mpr h1)]
        by_cases c : nI k ≤ x3
        · rw [if_pos c]; exact s98 _ (x13_g2 c) h1
        · rw [if_neg c]; exact s98 _ (x13_g2' c) h1
      · rw [if_pos (Int32.not_le.mp h1)]
        simp only [f_X13_isRest_114, f_X13_isRest_115, nm_eq, ralf, rok]
        rw [nI_s, x13_ir0 n (k + 1) m (by omega) (by omega), decide_eq_false h1, Bool.false_and, Bool.false_and]
        rfl
    simp only [f_X13_isRest_48s, if_neg (ge10 (show k < 10 by omega)), if_neg i10]
    by_cases c : nI k < x4
    · rw [if_pos c]; exact s73 _ (x13_g1 c)
    · rw [if_neg c]; exact s73 _ (x13_g1' c)
theorem x13_isr (hf : 11 ≤ fu) : f_X13_isRest fu x0 x1 x2 x3 x4 = some (b2I (ralf (fun j => rok x0 x1 x2 x3 x4 (nI j)) 10 0)) := by
  have s33 : ∀ t1, f_X13_getsBy fu x1 t1 x4 x3 x2 = some (rg2 x1 x2 x3 x4) → f_X13_isRest_33 fu x0 x1 x2 x3 x4 (rg1 x0 x2 x3 x4) x1 t1 = some (b2I (ralf (fun j => rok x0 x1 x2 x3 x4 (nI j)) 10 0)) := by
    intro t1 ht
    simp only [f_X13_isRest_33, ht, bd_s]
    exact x13_ir 10 0 fu rfl (by omega)
  have s12 : ∀ t1, f_X13_getsBy fu x0 t1 x3 x4 x2 = some (rg1 x0 x2 x3 x4) → f_X13_isRest_12 fu x0 x1 x2 x3 x4 x0 t1 = some (b2I (ralf (fun j => rok x0 x1 x2 x3 x4 (nI j)) 10 0)) := by
    intro t1 ht
    simp only [f_X13_isRest_12, ht, bd_s]
    by_cases c : x4 ≤ x3
    · rw [if_pos c]; exact s33 _ (x13_g2 c)
    · rw [if_neg c]; exact s33 _ (x13_g2' c)
  simp only [f_X13_isRest, f_X13_isRest_0]
  by_cases c : x3 < x4
  · rw [if_pos c]; exact s12 _ (x13_g1 c)
  · rw [if_neg c]; exact s12 _ (x13_g1' c)
end RS
/-- whether the bids k rest -/
def rst (x1 x2 x3 : Int32) (k : Nat) : Bool := ralf (fun j => rok x1 x2 x3 (nI k / 10) (nI k - nI k / 10 * 10) (nI j)) 10 0
def rrf (R : Nat → Bool) (w : Int32) : Nat → Nat → Nat → Option Int32
  | 0, _, c => if w = (-1 : Int32) then some (nI c) else none
  | n + 1, k, c => if R k = true then (if nI c = w then some (nI k) else rrf R w n (k + 1) (c + 1)) else rrf R w n (k + 1) c
/-- 1 where it is thrown -/
def thr (o : Option Int32) : Int32 := match o with
  | some _ => 0
  | none => 1
section RT
variable {fu : Nat} {x1 x2 x3 x4 : Int32}
theorem x12_rl (hf : 11 ≤ fu) (n : Nat) : ∀ k c m, n + k = 100 → n < m → f_X12_rests_43 fu m x1 x2 x3 x4 (nI c) (nI k) = some (rrf (rst x1 x2 x3) x4 n k c) := by
  induction n with
  | zero =>
    intro k c m hk hm
    obtain ⟨m, rfl⟩ : ∃ y, m = y + 1 := ⟨m - 1, by omega⟩
    obtain rfl : k = 100 := by omega
    show f_X12_rests_43s fu (f_X12_rests_43 fu m x1 x2 x3 x4) x1 x2 x3 x4 (nI c) (nI 100) = _
    simp only [f_X12_rests_43s, rrf]
    rw [if_pos (by decide)]
    by_cases h : x4 = (-1 : Int32)
    · rw [if_pos h, if_pos h]
    · rw [if_neg h, if_neg h]
  | succ n ih =>
    intro k c m hk hm
    obtain ⟨m, rfl⟩ : ∃ y, m = y + 1 := ⟨m - 1, by omega⟩
    show f_X12_rests_43s fu (f_X12_rests_43 fu m x1 x2 x3 x4) x1 x2 x3 x4 (nI c) (nI k) = _
    simp only [f_X12_rests_43s, if_neg (ge100 (show k < 100 by omega)), x12_isr hf, bd_s, nm_eq, rrf]
    rw [nI_s, nI_s, ih (k + 1) c m (by omega) (by omega), ih (k + 1) (c + 1) m (by omega) (by omega)]
    show (if b2I (rst x1 x2 x3 k) = 0 then _ else _) = _
    cases hR : rst x1 x2 x3 k with
    | true =>
      rw [if_neg (by decide), if_pos rfl]
      by_cases h : nI c = x4
      · rw [if_pos h, if_pos h]
      · rw [if_neg h, if_neg h]
    | false =>
      rw [if_pos (by decide), if_neg (by decide)]
theorem x13_fin1 {v : GV} {x6 : Int32} (h : x4 = (-1 : Int32)) : f_X13_rests_114 fu v x4 (1 : Int32) x6 (-1 : Int32) = some (x6, sI v 0 0) := by
  subst h
  simp only [f_X13_rests_114, f_X13_rests_130, f_X13_rests_135, nm_eq, if_neg i10, gI_sI, ↓reduceIte]
  rw [if_pos (by decide), if_pos (by decide), if_neg (by decide)]
theorem x13_fin2 {v : GV} {x6 : Int32} (h : ¬ x4 < 0) : f_X13_rests_114 fu v x4 (1 : Int32) x6 (-1 : Int32) = some (0, sI v 0 1) := by
  simp only [f_X13_rests_114, f_X13_rests_130, f_X13_rests_134, f_X13_rests_135, nm_eq, if_neg i10, gI_sI, ↓reduceIte, if_neg h]
  rw [if_pos (by decide), if_neg (by decide)]
theorem x13_fin3 {v : GV} {x6 : Int32} {j : Nat} (hj : j < 100) (h : ¬ x4 < 0) : f_X13_rests_114 fu v x4 (1 : Int32) x6 (nI j) = some (nI j, sI v 0 0) := by
  simp only [f_X13_rests_114, f_X13_rests_130, f_X13_rests_134, f_X13_rests_135, nm_eq, if_neg i10, gI_sI, ↓reduceIte, if_neg h]
  rw [if_neg (nI_pos (by omega)), if_pos (by decide), if_pos (Int32.not_lt.mp h)]
/-- found already -/
theorem x13_rl2 (hf : 11 ≤ fu) {v : GV} {j : Nat} (hj : j < 100) (h0 : ¬ x4 < 0) (n : Nat) : ∀ k c m, n + k = 100 → n < m → (∀ d, c ≤ d → d ≤ c + n → nI d ≠ x4) → f_X13_rests_42 fu m x1 x2 x3 x4 (1 : Int32) (nI c) (nI j) (nI k) v = some (nI j, sI v 0 0) := by
  induction n with
  | zero =>
    intro k c m hk hm hd
    obtain ⟨m, rfl⟩ : ∃ y, m = y + 1 := ⟨m - 1, by omega⟩
    obtain rfl : k = 100 := by omega
    show f_X13_rests_42s fu (f_X13_rests_42 fu m x1 x2 x3 x4 (1 : Int32)) x1 x2 x3 x4 (1 : Int32) (nI c) (nI j) (nI 100) v = _
    simp only [f_X13_rests_42s]
    rw [if_pos (by decide)]
    exact x13_fin3 hj h0
  | succ n ih =>
    intro k c m hk hm hd
    obtain ⟨m, rfl⟩ : ∃ y, m = y + 1 := ⟨m - 1, by omega⟩
    show f_X13_rests_42s fu (f_X13_rests_42 fu m x1 x2 x3 x4 (1 : Int32)) x1 x2 x3 x4 (1 : Int32) (nI c) (nI j) (nI k) v = _
    simp only [f_X13_rests_42s, if_neg (ge100 (show k < 100 by omega)), if_neg i10, x13_isr hf, bd_s, if_neg (hd c (Nat.le_refl _) (by omega)), f_X13_rests_89, f_X13_rests_91, f_X13_rests_105, nm_eq]
    rw [nI_s, nI_s, Int32.add_zero, ih (k + 1) c m (by omega) (by omega) (fun d h1 h2 => hd d h1 (by omega)), ih (k + 1) (c + 1) m (by omega) (by omega) (fun d h1 h2 => hd d (by omega) (by omega))]
    simp only [ite_self]
theorem x13_rl (hf : 11 ≤ fu) {v : GV} (n : Nat) : ∀ k c m, n + k = 100 → n < m → c ≤ k → (x4 = (-1 : Int32) ∨ (¬ x4 < 0 ∧ ∀ d, d < c → nI d ≠ x4)) → f_X13_rests_42 fu m x1 x2 x3 x4 (1 : Int32) (nI c) (-1 : Int32) (nI k) v = some ((rrf (rst x1 x2 x3) x4 n k c).getD 0, sI v 0 (thr (rrf (rst x1 x2 x3) x4 n k c))) := by
  induction n with
  | zero =>
    intro k c m hk hm hck h
    obtain ⟨m, rfl⟩ : ∃ y, m = y + 1 := ⟨m - 1, by omega⟩
    obtain rfl : k = 100 := by omega
    show f_X13_rests_42s fu (f_X13_rests_42 fu m x1 x2 x3 x4 (1 : Int32)) x1 x2 x3 x4 (1 : Int32) (nI c) (-1 : Int32) (nI 100) v = _
    simp only [f_X13_rests_42s, rrf]
    rw [if_pos (by decide)]
    rcases h with h | ⟨h, -⟩
    · rw [x13_fin1 h, if_pos h]; rfl
    · rw [x13_fin2 h, if_neg (fun e => h (by rw [e]; decide))]; rfl
  | succ n ih =>
    intro k c m hk hm hck h
    obtain ⟨m, rfl⟩ : ∃ y, m = y + 1 := ⟨m - 1, by omega⟩
    show f_X13_rests_42s fu (f_X13_rests_42 fu m x1 x2 x3 x4 (1 : Int32)) x1 x2 x3 x4 (1 : Int32) (nI c) (-1 : Int32) (nI k) v = _
    simp only [f_X13_rests_42s, if_neg (ge100 (show k < 100 by omega)), if_neg i10, x13_isr hf, bd_s, f_X13_rests_89, f_X13_rests_91, f_X13_rests_105, nm_eq, rrf]
    rw [nI_s, nI_s, Int32.add_zero, ih (k + 1) c m (by omega) (by omega) (by omega) h]
    show (if b2I (rst x1 x2 x3 k) = 0 then _ else _) = _
    cases hR : rst x1 x2 x3 k with
    | false =>
      have e : (b2I (ralf (fun j => rok x1 x2 x3 (nI k / 10) (nI k - nI k / 10 * 10) (nI j)) 10 0)) = 0 := by
        have : ralf (fun j => rok x1 x2 x3 (nI k / 10) (nI k - nI k / 10 * 10) (nI j)) 10 0 = false := hR
        rw [this]; rfl
      rw [if_pos (by decide), if_pos e, if_neg (show ¬ (false = true) by decide)]
    | true =>
      have e : ¬ (b2I (ralf (fun j => rok x1 x2 x3 (nI k / 10) (nI k - nI k / 10 * 10) (nI j)) 10 0)) = 0 := by
        have : ralf (fun j => rok x1 x2 x3 (nI k / 10) (nI k - nI k / 10 * 10) (nI j)) 10 0 = true := hR
        rw [this]; decide
      rw [if_neg (by decide), if_neg e, if_pos rfl]
      by_cases h4 : nI c = x4
      · rw [if_pos h4, if_pos h4]
        have h0 : ¬ x4 < 0 := by rw [← h4]; exact nI_pos (by omega)
        rw [x13_rl2 hf (show k < 100 by omega) h0 n (k + 1) (c + 1) m (by omega) (by omega) (fun d h1 h2 => by
          rw [← h4]
          intro q
          rw [nI_eq (by omega) (by omega)] at q
          omega)]
        rfl
      · rw [if_neg h4, if_neg h4]
        have h' : x4 = (-1 : Int32) ∨ (¬ x4 < 0 ∧ ∀ d, d < c + 1 → nI d ≠ x4) := by
          rcases h with h | ⟨h1, h2⟩
          · exact Or.inl h
          · refine Or.inr ⟨h1, fun d hd => ?_⟩
            by_cases q : d = c
            · subst q; exact h4
            · exact h2 d (by omega)
        rw [ih (k + 1) (c + 1) m (by omega) (by omega) (by omega) h', if_neg e]
end RT
theorem x13_no {fu : Nat} {v : GV} {x1 x2 x3 x4 : Int32} (hf : 1 ≤ fu) : f_X13_rests_30 fu v x1 x2 x3 x4 = some (0, sI v 0 1) := by
  obtain ⟨m, rfl⟩ : ∃ y, fu = y + 1 := ⟨fu - 1, by omega⟩
  show f_X13_rests_42s (m + 1) (f_X13_rests_42 (m + 1) m x1 x2 x3 x4 (0 : Int32)) x1 x2 x3 x4 (0 : Int32) (0 : Int32) (-1 : Int32) (0 : Int32) v = _
  simp only [f_X13_rests_42s, f_X13_rests_114, f_X13_rests_134, f_X13_rests_135, nm_eq, gI_sI, ↓reduceIte]
  rw [if_neg (by decide), if_neg (by decide)]
theorem r_rests {fu p : Nat} {S : ST} {v : GV} (hf : 1101 ≤ fu) (h : RR p S v) (x1 x2 x3 x4 : Int32) : ∃ o v', f_X12_rests fu x1 x2 x3 x4 = some o ∧ f_X13_rests fu v x1 x2 x3 x4 = some (o.getD 0, v') ∧ gI v' 0 = thr o ∧ RR p S v' := by
  obtain ⟨A, hA, hC, hM⟩ := h
  have hm : ∀ t, RR p S (sI v 0 t) := fun t => ⟨A, hA, hC, RM_mscr hA hM (mscr_sI (mscr_refl v) (by decide) (by decide) (by decide))⟩
  have hno : f_X12_rests fu x1 x2 x3 x4 = some none → f_X13_rests fu v x1 x2 x3 x4 = some (0, sI v 0 1) → ∃ o v', f_X12_rests fu x1 x2 x3 x4 = some o ∧ f_X13_rests fu v x1 x2 x3 x4 = some (o.getD 0, v') ∧ gI v' 0 = thr o ∧ RR p S v' := fun a b => ⟨none, sI v 0 1, a, b, by rw [gI_sI, if_pos rfl]; rfl, hm 1⟩
  have out : ∀ x : Int32, (¬ ∃ j, j < 9 + 1 ∧ x = nI j) → x < 0 ∨ (10 : Int32) ≤ x := by
    intro x hx
    rcases pk_ix x (n := 10) (by decide) with c | c | c
    · exact Or.inl c
    · exact Or.inr c
    · exact absurd c hx
  by_cases h1 : ∃ j, j < 9 + 1 ∧ x1 = nI j
  · have w1 : f_X13_within fu x1 (0 : Int32) (9 : Int32) = some 1 := by
      obtain ⟨j, hj, rfl⟩ := h1
      exact w_in (n := 9) (by omega) (by omega)
    have a1 : ¬ x1 < 0 := by obtain ⟨j, hj, rfl⟩ := h1; exact nI_pos (by omega)
    have a2 : ¬ (10 : Int32) ≤ x1 := by obtain ⟨j, hj, rfl⟩ := h1; exact ge10 (by omega)
    by_cases h2 : ∃ j, j < 9 + 1 ∧ x2 = nI j
    · have w2 : f_X13_within fu x2 (0 : Int32) (9 : Int32) = some 1 := by
        obtain ⟨j, hj, rfl⟩ := h2
        exact w_in (n := 9) (by omega) (by omega)
      have b1 : ¬ x2 < 0 := by obtain ⟨j, hj, rfl⟩ := h2; exact nI_pos (by omega)
      have b2 : ¬ (10 : Int32) ≤ x2 := by obtain ⟨j, hj, rfl⟩ := h2; exact ge10 (by omega)
      by_cases h4 : (-1 : Int32) ≤ x4
      · have hw : x4 = (-1 : Int32) ∨ (¬ x4 < 0 ∧ ∀ d, d < 0 → nI d ≠ x4) := by
          by_cases q : x4 < 0
          · refine Or.inl (Int32.toInt_inj.mp ?_)
            rw [Int32.le_iff_toInt_le] at h4
            rw [Int32.lt_iff_toInt_lt] at q
            have e1 : (-1 : Int32).toInt = -1 := by decide
            have e2 : (0 : Int32).toInt = 0 := by decide
            rw [e1] at h4 ⊢
            rw [e2] at q
            omega
          · exact Or.inr ⟨q, fun d hd => absurd hd (Nat.not_lt_zero _)⟩
        refine ⟨rrf (rst x1 x2 x3) x4 100 0 0, sI v 0 (thr (rrf (rst x1 x2 x3) x4 100 0 0)), ?_, ?_, by rw [gI_sI, if_pos rfl], hm _⟩
        · rw [f_X12_rests, if_neg a1, if_neg a2, if_neg b1, if_neg b2, if_pos h4]
          exact x12_rl (by omega) 100 0 0 fu rfl (by omega)
        · rw [f_X13_rests, f_X13_rests_0, w1, bd_s, if_neg i10, w2, bd_s, if_neg i10, if_neg (Int32.not_lt.mpr h4)]
          exact x13_rl (by omega) 100 0 0 fu rfl (by omega) (Nat.le_refl _) hw
      · refine hno ?_ ?_
        · rw [f_X12_rests, if_neg a1, if_neg a2, if_neg b1, if_neg b2, if_neg h4]
        · rw [f_X13_rests, f_X13_rests_0, w1, bd_s, if_neg i10, w2, bd_s, if_neg i10, if_pos (Int32.not_le.mp h4)]
          exact x13_no (by omega)
    · refine hno ?_ ?_
      · rw [f_X12_rests, if_neg a1, if_neg a2]
        rcases out x2 h2 with c | c
        · rw [if_pos c]
        · by_cases d : x2 < 0
          · rw [if_pos d]
          · rw [if_neg d, if_pos c]
      · rw [f_X13_rests, f_X13_rests_0, w1, bd_s, if_neg i10, show f_X13_within fu x2 (0 : Int32) (9 : Int32) = some 0 from w_out (n := 9) h2 (by omega), bd_s, if_pos rfl]
        exact x13_no (by omega)
  · refine hno ?_ ?_
    · rw [f_X12_rests]
      rcases out x1 h1 with c | c
      · rw [if_pos c]
      · by_cases d : x1 < 0
        · rw [if_pos d]
        · rw [if_neg d, if_pos c]
    · rw [f_X13_rests, f_X13_rests_0, show f_X13_within fu x1 (0 : Int32) (9 : Int32) = some 0 from w_out (n := 9) h1 (by omega), bd_s, if_pos rfl]
      exact x13_no (by omega)
