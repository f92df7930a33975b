/-! ===== trees: what leads back, and what is a tree, for at most 6 ===== -/
/-- the way from e through members under k -/
def itk (row : Nat → Nat) (k : Nat) : Nat → Nat → Nat
  | 0, e => e
  | i + 1, e => itk row k i (bif Nat.blt 0 e && Nat.blt e k then row e else e)
def itf (row : Nat → Nat) : Nat → Nat → Nat
  | 0, e => e
  | i + 1, e => itf row i (bif Nat.beq e 0 then 0 else row e)
def lbk (row : Nat → Nat) (e k : Nat) : Bool := Nat.beq (itk row k 6 e) k
def fr1 (P : Nat → Bool) : Nat → Bool
  | 0 => true
  | n + 1 => fr1 P n && (Nat.beq n 0 || P n)
def isT (row : Nat → Nat) (n : Nat) : Bool := fr1 (fun k => Nat.beq (itf row n k) 0) n
def noL (row : Nat → Nat) (n : Nat) : Bool := fr1 (fun k => !lbk row (row k) k) n
def rw6 (a b c d e : Nat) : Nat → Nat := fun j => bif Nat.beq j 1 then a else bif Nat.beq j 2 then b else bif Nat.beq j 3 then c else bif Nat.beq j 4 then d else e
def al (P : Nat → Bool) : Nat → Bool
  | 0 => true
  | n + 1 => P n && al P n
def bq (a b : Bool) : Bool := bif a then b else !b
theorem tr6 : (al (fun a => al (fun b => al (fun c => al (fun d => al (fun e => bq (isT (rw6 a b c d e) 6) (noL (rw6 a b c d e) 6)) 6) 6) 6) 6) 6) = true := by decide +kernel
theorem tr5 : (al (fun a => al (fun b => al (fun c => al (fun d => bq (isT (rw6 a b c d 0) 5) (noL (rw6 a b c d 0) 5)) 5) 5) 5) 5) = true := by decide +kernel
theorem tr4 : (al (fun a => al (fun b => al (fun c => bq (isT (rw6 a b c 0 0) 4) (noL (rw6 a b c 0 0) 4)) 4) 4) 4) = true := by decide +kernel
theorem tr3 : (al (fun a => al (fun b => bq (isT (rw6 a b 0 0 0) 3) (noL (rw6 a b 0 0 0) 3)) 3) 3) = true := by decide +kernel
theorem tr2 : (al (fun a => bq (isT (rw6 a 0 0 0 0) 2) (noL (rw6 a 0 0 0 0) 2)) 2) = true := by decide +kernel
theorem al_at {P : Nat → Bool} {n : Nat} (h : al P n = true) {k : Nat} (hk : k < n) : P k = true := by
  induction n with
  | zero => omega
  | succ n ih =>
    simp only [al, Bool.and_eq_true] at h
    by_cases e : k = n
    · subst e; exact h.1
    · exact ih h.2 (by omega)
theorem bq_eq {a b : Bool} (h : bq a b = true) : a = b := by
  revert h; cases a <;> cases b <;> decide
section T
variable {row row' : Nat → Nat} {n k : Nat}
theorem nblt {a b : Nat} : Nat.blt a b = decide (a < b) := by
  by_cases h : a < b
  · rw [decide_eq_true h]; exact Nat.ble_eq.mpr h
  · rw [decide_eq_false h]
    cases q : Nat.blt a b
    · rfl
    · exact absurd (Nat.ble_eq.mp q) h
theorem nbeq {a b : Nat} : Nat.beq a b = decide (a = b) := by
  by_cases h : a = b
  · rw [decide_eq_true h, h]; exact Nat.beq_refl b
  · rw [decide_eq_false h]
    cases q : Nat.beq a b
    · rfl
    · exact absurd (Nat.eq_of_beq_eq_true q) h
theorem itk_in {i e : Nat} (h : 0 < e ∧ e < k) : itk row k (i + 1) e = itk row k i (row e) := by
  simp only [itk, nblt, decide_eq_true h.1, decide_eq_true h.2, Bool.and_self, cond_true]
theorem itk_out {e : Nat} (h : ¬ (0 < e ∧ e < k)) : ∀ i, itk row k i e = e := by
  intro i
  induction i with
  | zero => rfl
  | succ i ih =>
    have : (Nat.blt 0 e && Nat.blt e k) = false := by
      rw [nblt, nblt]
      by_cases c : 0 < e
      · have : ¬ e < k := fun q => h ⟨c, q⟩
        simp [this]
      · simp [c]
    simp only [itk, this, cond_false]; exact ih
theorem itk_congr (hv : ∀ j, 1 ≤ j → j < k → row j = row' j) : ∀ i e, itk row k i e = itk row' k i e := by
  intro i
  induction i with
  | zero => intro e; rfl
  | succ i ih =>
    intro e
    by_cases h : 0 < e ∧ e < k
    · rw [itk_in h, itk_in h, hv e h.1 h.2]; exact ih _
    · rw [itk_out h, itk_out h]
theorem lbk_congr (hv : ∀ j, 1 ≤ j → j < k → row j = row' j) (e : Nat) : lbk row e k = lbk row' e k := by
  rw [lbk, lbk, itk_congr hv]
theorem itf_0 : ∀ i, itf row i 0 = 0 := by
  intro i
  induction i with
  | zero => rfl
  | succ i ih => exact ih
theorem itf_p {i e : Nat} (h : 0 < e) : itf row (i + 1) e = itf row i (row e) := by
  have : Nat.beq e 0 = false := by rw [nbeq]; exact decide_eq_false (by omega)
  simp only [itf, this, cond_false]
theorem itf_congr (hv : ∀ j, 1 ≤ j → j < n → row j = row' j) (hn : ∀ j, 1 ≤ j → j < n → row j < n) : ∀ i e, e < n → itf row i e = itf row' i e := by
  intro i
  induction i with
  | zero => intro e _; rfl
  | succ i ih =>
    intro e he
    by_cases h : 0 < e
    · rw [itf_p h, itf_p h, ← hv e h he]; exact ih _ (hn e h he)
    · have : e = 0 := by omega
      subst this; rw [itf_0, itf_0]
theorem fr1_iff {P : Nat → Bool} : ∀ n, fr1 P n = true ↔ ∀ k, 1 ≤ k → k < n → P k = true := by
  intro n
  induction n with
  | zero => simp only [fr1, true_iff]; intro k _ h; omega
  | succ n ih =>
    simp only [fr1, Bool.and_eq_true, Bool.or_eq_true, ih, nbeq, decide_eq_true_eq]
    constructor
    · rintro ⟨h1, h2⟩ k hk hn
      by_cases e : k = n
      · subst e
        rcases h2 with h2 | h2
        · omega
        · exact h2
      · exact h1 k hk (by omega)
    · intro h
      refine ⟨fun k hk hn => h k hk (by omega), ?_⟩
      by_cases e : n = 0
      · exact Or.inl e
      · exact Or.inr (h n (by omega) (by omega))
theorem fr1_congr {P Q : Nat → Bool} {n : Nat} (h : ∀ k, 1 ≤ k → k < n → P k = Q k) : fr1 P n = fr1 Q n := by
  rw [Bool.eq_iff_iff, fr1_iff, fr1_iff]
  constructor
  · intro q k h1 h2; rw [← h k h1 h2]; exact q k h1 h2
  · intro q k h1 h2; rw [h k h1 h2]; exact q k h1 h2
theorem isT_congr (hv : ∀ j, 1 ≤ j → j < n → row j = row' j) (hn : ∀ j, 1 ≤ j → j < n → row j < n) : isT row n = isT row' n := by
  refine fr1_congr (fun k h1 h2 => ?_)
  rw [itf_congr hv hn n k h2]
theorem noL_congr (hv : ∀ j, 1 ≤ j → j < n → row j = row' j) : noL row n = noL row' n := by
  refine fr1_congr (fun k h1 h2 => ?_)
  rw [hv k h1 h2, lbk_congr (fun j j1 j2 => hv j j1 (by omega))]
theorem isT_noL (h1 : 1 ≤ n) (h6 : n ≤ 6) (hn : ∀ j, 1 ≤ j → j < n → row j < n) : isT row n = noL row n := by
  have hv : ∀ j, 1 ≤ j → j < n → row j = rw6 (row 1) (row 2) (row 3) (row 4) (row 5) j := by
    intro j j1 j2
    rcases (show j = 1 ∨ j = 2 ∨ j = 3 ∨ j = 4 ∨ j = 5 by omega) with rfl | rfl | rfl | rfl | rfl <;> rfl
  rcases (show n = 1 ∨ n = 2 ∨ n = 3 ∨ n = 4 ∨ n = 5 ∨ n = 6 by omega) with rfl | rfl | rfl | rfl | rfl | rfl
  · rfl
  · have hv : ∀ j, 1 ≤ j → j < 2 → row j = rw6 (row 1) 0 0 0 0 j := by
      intro j j1 j2
      rcases (show j = 1 by omega) with rfl
      rfl
    rw [isT_congr hv hn, noL_congr hv]
    exact bq_eq (al_at tr2 (hn 1 (by omega) (by omega)))
  · have hv : ∀ j, 1 ≤ j → j < 3 → row j = rw6 (row 1) (row 2) 0 0 0 j := by
      intro j j1 j2
      rcases (show j = 1 ∨ j = 2 by omega) with rfl | rfl <;> rfl
    rw [isT_congr hv hn, noL_congr hv]
    exact bq_eq (al_at (al_at tr3 (hn 1 (by omega) (by omega))) (hn 2 (by omega) (by omega)))
  · have hv : ∀ j, 1 ≤ j → j < 4 → row j = rw6 (row 1) (row 2) (row 3) 0 0 j := by
      intro j j1 j2
      rcases (show j = 1 ∨ j = 2 ∨ j = 3 by omega) with rfl | rfl | rfl <;> rfl
    rw [isT_congr hv hn, noL_congr hv]
    exact bq_eq (al_at (al_at (al_at tr4 (hn 1 (by omega) (by omega))) (hn 2 (by omega) (by omega))) (hn 3 (by omega) (by omega)))
  · have hv : ∀ j, 1 ≤ j → j < 5 → row j = rw6 (row 1) (row 2) (row 3) (row 4) 0 j := by
      intro j j1 j2
      rcases (show j = 1 ∨ j = 2 ∨ j = 3 ∨ j = 4 by omega) with rfl | rfl | rfl | rfl <;> rfl
    rw [isT_congr hv hn, noL_congr hv]
    exact bq_eq (al_at (al_at (al_at (al_at tr5 (hn 1 (by omega) (by omega))) (hn 2 (by omega) (by omega))) (hn 3 (by omega) (by omega))) (hn 4 (by omega) (by omega)))
  · rw [isT_congr hv hn, noL_congr hv]
    exact bq_eq (al_at (al_at (al_at (al_at (al_at tr6 (hn 1 (by omega) (by omega))) (hn 2 (by omega) (by omega))) (hn 3 (by omega) (by omega))) (hn 4 (by omega) (by omega))) (hn 5 (by omega) (by omega)))
end T
/-! all rows, the first row first -/
abbrev TS : Type := Option Nat × Nat × (Nat → Nat)
def vis (row : Nat → Nat) (sum : Nat) (s : TS) : TS := match s.1 with
  | none => (some sum, 1, row)
  | some l => if l < sum then s else if sum < l then (some sum, 1, row) else (some l, s.2.1 + 1, s.2.2)
def enf (g : Nat → TS → TS) : Nat → TS → TS
  | 0, s => s
  | e + 1, s => g e (enf g e s)
def enm (D : Nat → Nat → Nat) (n : Nat) : Nat → Nat → (Nat → Nat) → Nat → TS → TS
  | 0, _, row, sum, s => if isT row n = true then vis row sum s else s
  | m + 1, k, row, sum, s => enf (fun e s => if e = k then s else enm D n m (k + 1) (upN row k e) (sum + D k e) s) n s
theorem enf_id {g : Nat → TS → TS} {s : TS} : ∀ n, (∀ e, e < n → g e s = s) → enf g n s = s := by
  intro n
  induction n with
  | zero => intro _; rfl
  | succ n ih => intro h; rw [enf, ih (fun e he => h e (by omega))]; exact h n (by omega)
theorem enf_inv {g : Nat → TS → TS} {P : TS → Prop} : ∀ n s, P s → (∀ e s, e < n → P s → P (g e s)) → P (enf g n s) := by
  intro n
  induction n with
  | zero => intro s h _; exact h
  | succ n ih => intro s h hs; exact hs n _ (by omega) (ih s h (fun e s he => hs e s (by omega)))
section E
variable {D : Nat → Nat → Nat} {n : Nat}
theorem enm_prune : ∀ m k row sum (s : TS) l, s.1 = some l → l < sum → enm D n m k row sum s = s := by
  intro m
  induction m with
  | zero =>
    intro k row sum s l hl h
    simp only [enm]
    split
    · simp only [vis, hl]; rw [if_pos h]
    · rfl
  | succ m ih =>
    intro k row sum s l hl h
    simp only [enm]
    refine enf_id n (fun e _ => ?_)
    split
    · rfl
    · exact ih _ _ _ s l hl (by omega)
theorem enm_cyc (h6 : n ≤ 6) : ∀ m k row sum (s : TS), k + m = n → 1 ≤ n → (∀ j, 1 ≤ j → j < k → row j < n) → (∃ j, 1 ≤ j ∧ j < k ∧ lbk row (row j) j = true) → enm D n m k row sum s = s := by
  intro m
  induction m with
  | zero =>
    intro k row sum s hk h1 hv ⟨j, j1, j2, j3⟩
    have hkn : k = n := by omega
    subst hkn
    simp only [enm]
    rw [if_neg]
    rw [isT_noL h1 h6 hv]
    intro q
    have := (fr1_iff _).mp q j j1 j2
    rw [j3] at this
    exact absurd this (by decide)
  | succ m ih =>
    intro k row sum s hk h1 hv ⟨j, j1, j2, j3⟩
    simp only [enm]
    refine enf_id n (fun e he => ?_)
    split
    · rfl
    · refine ih (k + 1) _ _ s (by omega) h1 (fun i i1 i2 => ?_) ⟨j, j1, by omega, ?_⟩
      · by_cases q : i = k
        · rw [q, upN_s]; exact he
        · rw [upN_n q]; exact hv i i1 (by omega)
      · rw [upN_n (by omega), ← j3]
        exact lbk_congr (fun i i1 i2 => upN_n (by omega)) _
def okS (n : Nat) (s : TS) : Prop := ∀ l, s.1 = some l → l < 1000 ∧ ∀ j, 1 ≤ j → j < n → s.2.2 j < n
theorem vis_ok {row : Nat → Nat} {sum : Nat} {s : TS} (h : okS n s) (hs : sum < 1000) (hr : ∀ j, 1 ≤ j → j < n → row j < n) : okS n (vis row sum s) := by
  intro l hl
  unfold vis at hl ⊢
  cases hs1 : s.1 with
  | none => rw [hs1] at hl; simp only at hl ⊢; cases hl; exact ⟨hs, hr⟩
  | some l' =>
    rw [hs1] at hl
    simp only at hl ⊢
    by_cases c1 : l' < sum
    · rw [if_pos c1] at hl ⊢; exact h l hl
    · rw [if_neg c1] at hl ⊢
      by_cases c2 : sum < l'
      · rw [if_pos c2] at hl ⊢; cases hl; exact ⟨hs, hr⟩
      · rw [if_neg c2] at hl ⊢; cases hl; exact h _ hs1
theorem enm_ok (hD : ∀ i j, D i j ≤ 30) : ∀ m k row sum (s : TS), k + m = n → n ≤ 6 → sum ≤ 30 * k → (∀ j, 1 ≤ j → j < k → row j < n) → okS n s → okS n (enm D n m k row sum s) := by
  intro m
  induction m with
  | zero =>
    intro k row sum s hk h6 hsum hv hs
    simp only [enm]
    split
    · exact vis_ok hs (by omega) (fun j j1 j2 => hv j j1 (by omega))
    · exact hs
  | succ m ih =>
    intro k row sum s hk h6 hsum hv hs
    simp only [enm]
    refine enf_inv n s hs (fun e s' he hs' => ?_)
    split
    · exact hs'
    · have := hD k e
      refine ih (k + 1) _ _ s' (by omega) h6 (by omega) (fun i i1 i2 => ?_) hs'
      by_cases q : i = k
      · rw [q, upN_s]; exact he
      · rw [upN_n q]; exact hv i i1 (by omega)
theorem vis_some {row : Nat → Nat} {sum : Nat} {s : TS} : (vis row sum s).1 ≠ none := by
  unfold vis
  cases hs1 : s.1 with
  | none => simp
  | some l' =>
    simp only
    split
    · rw [hs1]; simp
    · split <;> simp
theorem enm_keep : ∀ m k row sum (s : TS), s.1 ≠ none → (enm D n m k row sum s).1 ≠ none := by
  intro m
  induction m with
  | zero =>
    intro k row sum s hs
    simp only [enm]
    split
    · exact vis_some
    · exact hs
  | succ m ih =>
    intro k row sum s hs
    simp only [enm]
    refine enf_inv (P := fun s => s.1 ≠ none) n s hs (fun e s' he hs' => ?_)
    split
    · exact hs'
    · exact ih _ _ _ _ hs'
theorem enf_keep {g : Nat → TS → TS} (hg : ∀ e s, s.1 ≠ none → (g e s).1 ≠ none) : ∀ n s, 0 < n → (g 0 s).1 ≠ none → (enf g n s).1 ≠ none := by
  intro n
  induction n with
  | zero => intro s h; omega
  | succ n ih =>
    intro s _ h0
    rw [enf]
    by_cases e : n = 0
    · subst e; exact h0
    · exact hg n _ (ih s (by omega) h0)
theorem enm_some (h6 : n ≤ 6) : ∀ m k row sum (s : TS), k + m = n → 1 ≤ k → (∀ j, 1 ≤ j → j < k → row j = 0) → (enm D n m k row sum s).1 ≠ none := by
  intro m
  induction m with
  | zero =>
    intro k row sum s hk h1 hv
    have hkn : k = n := by omega
    subst hkn
    simp only [enm]
    rw [if_pos]
    · exact vis_some
    · rw [isT_noL h1 h6 (fun j j1 j2 => by rw [hv j j1 j2]; omega)]
      refine (fr1_iff _).mpr (fun j j1 j2 => ?_)
      rw [hv j j1 j2, lbk, itk_out (by omega), nbeq, decide_eq_false (by omega)]; rfl
  | succ m ih =>
    intro k row sum s hk h1 hv
    simp only [enm]
    refine enf_keep (fun e s' hs' => ?_) n s (by omega) ?_
    · split
      · exact hs'
      · exact enm_keep _ _ _ _ _ hs'
    · rw [if_neg (by omega)]
      refine ih (k + 1) _ _ s (by omega) (by omega) (fun j j1 j2 => ?_)
      by_cases q : j = k
      · rw [q, upN_s]
      · rw [upN_n q]; exact hv j j1 (by omega)
end E
