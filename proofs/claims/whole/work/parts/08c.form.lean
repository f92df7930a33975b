/-! ===== an object in the making, and its arrays, become a group ===== -/
def isOff (ci x : Nat) : Bool := (List.range (nf ci)).any fun k => decide ((ds ci k).1 = 2) && decide ((ds ci k).2.1 = x)
def frv (S : ST) (q ci j5 : Nat) : GV := (ci + 1, (fun k => if (ds ci k).1 = 5 then nI j5 else gI (S q) k), (fun k => gA (S (q + (ds ci k).2.1)) 0), (fun k => gJ (S q) k), (fun k => gL (S (q + (ds ci k).2.1)) 0), (fun k => gR (S q) k), (fun k => gQ (S (q + (ds ci k).2.1)) 0), (fun k => gN (S (q + (ds ci k).2.1)) 0))
def frm (S : ST) (q ci j5 : Nat) : ST := fun b => if b = q then frv S q ci j5 else if q < b ∧ isOff ci (b - q) = true then blk 0 else S b
/-- what must stand before -/
def frOk (G : GG) (S : ST) (q ci j5 : Nat) : Prop := ci < 12 ∧ j5 < 30 ∧ gC (S q) = 12 + ci + 1 ∧ ∀ k, k < nf ci → ((ds ci k).1 = 2 → gR (S q) k = some (q + (ds ci k).2.1) ∧ gC (S (q + (ds ci k).2.1)) = 23 + (ds ci k).2.2.1 + 1 ∧ ((ds ci k).2.2.2 = 0 ∨ gN (S (q + (ds ci k).2.1)) 0 = (ds ci k).2.2.2)) ∧ ((ds ci k).1 = 3 → gR (S q) k = some (q + (ds ci k).2.1)) ∧ ((ds ci k).1 = 5 → gR (S q) k = some (kAd G j5))
theorem raw_rel : ((List.range 12).all fun c => decide (nf (12 + c) = nf c) && (List.range (nf c)).all fun k => decide ((ds (12 + c) k).1 = if (ds c k).1 = 0 then 0 else if (ds c k).1 = 1 then 1 else 4) && (decide ((ds c k).1 < 6)) && (!decide ((ds c k).1 = 2) || (decide (0 < (ds c k).2.2.1) && decide ((ds c k).2.2.1 < 6)))) = true := by decide +kernel
theorem raw_rel' {c : Nat} (hc : c < 12) : nf (12 + c) = nf c ∧ ∀ k, k < nf c → (ds (12 + c) k).1 = (if (ds c k).1 = 0 then 0 else if (ds c k).1 = 1 then 1 else 4) ∧ (ds c k).1 < 6 ∧ ((ds c k).1 = 2 → 0 < (ds c k).2.2.1 ∧ (ds c k).2.2.1 < 6) := by
  have h := List.all_eq_true.mp raw_rel c (List.mem_range.mpr hc)
  simp only [Bool.and_eq_true, decide_eq_true_eq] at h
  refine ⟨h.1, fun k hk => ?_⟩
  have h2 := List.all_eq_true.mp h.2 k (List.mem_range.mpr hk)
  simp only [Bool.and_eq_true, decide_eq_true_eq, Bool.or_eq_true, Bool.not_eq_true', decide_eq_false_iff_not] at h2
  refine ⟨h2.1.1, h2.1.2, fun e => ?_⟩
  rcases h2.2 with h3 | h3
  · exact absurd e h3
  · exact h3
theorem isOff_of {ci k : Nat} (hk : k < nf ci) (ht : (ds ci k).1 = 2) : isOff ci (ds ci k).2.1 = true := List.any_eq_true.mpr ⟨k, List.mem_range.mpr hk, by simp [ht]⟩
theorem isOff_ex {ci x : Nat} (h : isOff ci x = true) : ∃ k, k < nf ci ∧ (ds ci k).1 = 2 ∧ (ds ci k).2.1 = x := by
  obtain ⟨k, hk, h2⟩ := List.any_eq_true.mp h
  simp only [Bool.and_eq_true, decide_eq_true_eq] at h2
  exact ⟨k, List.mem_range.mp hk, h2.1, h2.2⟩
theorem frm_old {S : ST} {q ci j5 b d : Nat} (hb : gC (frm S q ci j5 b) = d + 1) (hne : b ≠ q) : frm S q ci j5 b = S b ∧ ∀ k, k < nf ci → (ds ci k).1 = 2 → b ≠ q + (ds ci k).2.1 := by
  unfold frm at hb ⊢
  rw [if_neg hne] at hb ⊢
  by_cases h : q < b ∧ isOff ci (b - q) = true
  · rw [if_pos h] at hb
    exact absurd hb (by simp [gC, blk])
  · rw [if_neg h]
    refine ⟨rfl, fun k hk ht e => h ⟨by have := (tab_off hk ht).1; omega, ?_⟩⟩
    rw [e, show q + (ds ci k).2.1 - q = (ds ci k).2.1 by omega]
    exact isOff_of hk ht
theorem BW.form {G : GG} {S : ST} {H : Heap} {q ci j5 : Nat} (h : BW G S H) (ho : frOk G S q ci j5) : BW G (frm S q ci j5) H := by
  obtain ⟨hci, hj5, hq, hk⟩ := ho
  obtain ⟨hnf, hrel⟩ := raw_rel' hci
  have hself : frm S q ci j5 q = frv S q ci j5 := by simp [frm]
  refine ⟨fun b d hb => ?_, fun a b d d' ha hb hab x y hx hy => ?_⟩
  · by_cases e : b = q
    · subst e
      rw [hself] at hb ⊢
      have hd : d = ci := by simp [gC, frv] at hb; omega
      subst hd
      obtain ⟨hz, hg, -⟩ := h.1 b (12 + d) hq
      refine ⟨fun x hx => ?_, ?_, fun k hkk ht => ?_⟩
      · rcases hx with rfl | ⟨k, h1, h2, rfl⟩
        · exact hz 0 (Or.inl rfl)
        · exact (h.1 _ _ ((hk k h1).1 h2).2.1).1 0 (Or.inl rfl)
      · rw [hdE_o (by omega)] at hg ⊢
        rw [show (12 + d) % 12 = d by omega] at hg
        rw [show d % 12 = d by omega]
        have e2 : flds G d b (frv S b d j5) = flds G (12 + d) b (S b) := by
          apply List.ext_getElem?
          intro j
          by_cases hj : j < nf d
          · rw [flds_at hj, flds_at (show j < nf (12 + d) by rw [hnf]; exact hj)]
            obtain ⟨r1, r2, -⟩ := hrel j hj
            obtain ⟨k2, k3, k5⟩ := hk j hj
            rcases (show (ds d j).1 = 0 ∨ (ds d j).1 = 1 ∨ (ds d j).1 = 2 ∨ (ds d j).1 = 3 ∨ (ds d j).1 = 4 ∨ (ds d j).1 = 5 by omega) with t | t | t | t | t | t
            · simp [fvl, r1, t, gI, frv]
            · simp [fvl, r1, t, gJ, frv]
            · simp [fvl, r1, t, (k2 t).1, va_rf]
            · simp [fvl, r1, t, k3 t, va_rf]
            · simp [fvl, r1, t, gR, frv]
            · have : (gI (frv S b d j5) j).toNatClampNeg = j5 := by simp [gI, frv, t]; exact nI_clamp (by omega)
              simp [fvl, r1, t, k5 t, va_rf, this]
          · rw [List.getElem?_eq_none (by rw [flds_len]; omega), List.getElem?_eq_none (by rw [flds_len, hnf]; omega)]
        rw [e2]
        exact hg
      · obtain ⟨k2, -, -⟩ := hk k hkk
        obtain ⟨-, g2, g3⟩ := k2 ht
        obtain ⟨-, hga, -⟩ := h.1 _ _ g2
        obtain ⟨-, -, r3⟩ := hrel k hkk
        obtain ⟨t1, t2⟩ := r3 ht
        have e3 : hdE G (b + (ds d k).2.1) (23 + (ds d k).2.2.1) (S (b + (ds d k).2.1)) = .inl (G.2.1 (ds d k).2.2.1, alen d k (frv S b d j5), acont d k (frv S b d j5)) := by
          have ha : alen d k (frv S b d j5) = gN (S (b + (ds d k).2.1)) 0 := by
            unfold alen
            by_cases hl : (ds d k).2.2.2 = 0
            · rw [if_pos hl]; simp [gN, frv]
            · rw [if_neg hl]
              rcases g3 with g3 | g3
              · exact absurd g3 hl
              · exact g3.symm
          rw [ha]
          unfold hdE acont
          rw [if_neg (by omega), show 23 + (ds d k).2.2.1 - 23 = (ds d k).2.2.1 by omega]
          rcases (show (ds d k).2.2.1 = 1 ∨ (ds d k).2.2.1 = 2 ∨ (ds d k).2.2.1 = 3 ∨ (ds d k).2.2.1 = 4 ∨ (ds d k).2.2.1 = 5 by omega) with t | t | t | t | t <;> simp [t] <;> rfl
        rw [← e3]
        exact hga
    · obtain ⟨e1, -⟩ := frm_old hb e
      rw [e1] at hb ⊢
      exact h.1 b d hb
  · have cellOf : ∀ d x, gC (frm S q ci j5 q) = d + 1 → ow d x → ∃ b0 c0, gC (S b0) = c0 + 1 ∧ b0 + 0 = q + x ∧ (b0 = q ∨ ∃ k, k < nf ci ∧ (ds ci k).1 = 2 ∧ b0 = q + (ds ci k).2.1) := by
      intro d x hd hx
      rw [hself] at hd
      have : d = ci := by simp [gC, frv] at hd; omega
      subst this
      rcases hx with rfl | ⟨k, h1, h2, rfl⟩
      · exact ⟨q, _, hq, rfl, Or.inl rfl⟩
      · exact ⟨q + (ds d k).2.1, _, ((hk k h1).1 h2).2.1, rfl, Or.inr ⟨k, h1, h2, rfl⟩⟩
    by_cases e : a = q
    · subst e
      have e2 : b ≠ a := Ne.symm hab
      obtain ⟨f1, f2⟩ := frm_old hb e2
      rw [f1] at hb
      obtain ⟨b0, c0, g1, g2, g3⟩ := cellOf d x ha hx
      rw [← g2]
      refine h.2 b0 b c0 d' g1 hb ?_ 0 y (Or.inl rfl) hy
      rcases g3 with rfl | ⟨k, h1, h2, rfl⟩
      · exact hab
      · exact Ne.symm (f2 k h1 h2)
    · obtain ⟨f1, f2⟩ := frm_old ha e
      rw [f1] at ha
      by_cases e2 : b = q
      · subst e2
        obtain ⟨b0, c0, g1, g2, g3⟩ := cellOf d' y hb hy
        rw [← g2]
        refine h.2 a b0 d c0 ha g1 ?_ x 0 hx (Or.inl rfl)
        rcases g3 with rfl | ⟨k, h1, h2, rfl⟩
        · exact hab
        · exact f2 k h1 h2
      · obtain ⟨f3, -⟩ := frm_old hb e2
        rw [f3] at hb
        exact h.2 a b d d' ha hb hab x y hx hy
def frB (G : GG) (S : ST) (q ci j5 : Nat) : Bool := decide (gC (S q) = 12 + ci + 1) && (List.range (nf ci)).all fun k => (!decide ((ds ci k).1 = 2) || (decide (gR (S q) k = some (q + (ds ci k).2.1)) && decide (gC (S (q + (ds ci k).2.1)) = 23 + (ds ci k).2.2.1 + 1) && (decide ((ds ci k).2.2.2 = 0) || decide (gN (S (q + (ds ci k).2.1)) 0 = (ds ci k).2.2.2)))) && (!decide ((ds ci k).1 = 3) || decide (gR (S q) k = some (q + (ds ci k).2.1))) && (!decide ((ds ci k).1 = 5) || decide (gR (S q) k = some (kAd G j5)))
theorem frB_ok {G : GG} {S : ST} {q ci j5 : Nat} (h : frB G S q ci j5 = true) (hci : ci < 12) (hj : j5 < 30) : frOk G S q ci j5 := by
  simp only [frB, Bool.and_eq_true, decide_eq_true_eq] at h
  refine ⟨hci, hj, h.1, fun k hk => ?_⟩
  have h2 := List.all_eq_true.mp h.2 k (List.mem_range.mpr hk)
  simp only [Bool.and_eq_true, Bool.or_eq_true, Bool.not_eq_true', decide_eq_true_eq, decide_eq_false_iff_not] at h2
  refine ⟨fun e => ?_, fun e => ?_, fun e => ?_⟩
  · rcases h2.1.1 with g | g
    · exact absurd e g
    · exact ⟨g.1.1, g.1.2, g.2⟩
  · rcases h2.1.2 with g | g
    · exact absurd e g
    · exact g
  · rcases h2.2 with g | g
    · exact absurd e g
    · exact g
theorem WB.form {G : GG} {S : ST} {s : State} {H : Heap} {locs : List Loc} {q ci j5 : Nat} (h : WB G S s H locs) (ho : frOk G S q ci j5) : WB G (frm S q ci j5) s H locs := ⟨h.1.form ho, h.2⟩
