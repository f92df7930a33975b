/-! ===== pictures: a hall (HP), a gallery (GP); the class's hall and gallery show them ===== -/
abbrev HP : Type := (Nat × Nat × Nat) × (Nat → Nat) × (Nat → Nat) × (Nat → Nat) × (Nat → Nat) × (Nat → Int32) × (Nat → Int32) × Int32
def mkq (n j g : Nat) (o w s h : Nat → Nat) (u c : Nat → Int32) (t : Int32) : HP := ((n, j, g), o, w, s, h, u, c, t)
def qn (q : HP) : Nat := q.1.1
def qj (q : HP) : Nat := q.1.2.1
def qg (q : HP) : Nat := q.1.2.2
def qo (q : HP) : Nat → Nat := q.2.1
def qw (q : HP) : Nat → Nat := q.2.2.1
def qs (q : HP) : Nat → Nat := q.2.2.2.1
def qh (q : HP) : Nat → Nat := q.2.2.2.2.1
def qu (q : HP) : Nat → Int32 := q.2.2.2.2.2.1
def qc (q : HP) : Nat → Int32 := q.2.2.2.2.2.2.1
def qt (q : HP) : Int32 := q.2.2.2.2.2.2.2
def upN (f : Nat → Nat) (k x : Nat) : Nat → Nat := fun j => if j = k then x else f j
abbrev GP : Type := (Nat × Nat × Nat) × (Nat → Nat) × (Nat → Nat) × (Nat → Nat) × (Nat → Nat) × (Int32 → Int32 → Int32 → Int32) × (Int32 → Int32 → Int32 → Int32)
def ns (G : GP) : Nat := G.1.1
def nt (G : GP) : Nat := G.1.2.1
def ne (G : GP) : Nat := G.1.2.2
def kd (G : GP) : Nat → Nat := G.2.1
def sk (G : GP) : Nat → Nat := G.2.2.1
def hr (G : GP) : Nat → Nat := G.2.2.2.1
def se (G : GP) : Nat → Nat := G.2.2.2.2.1
def wo (G : GP) : Int32 → Int32 → Int32 → Int32 := G.2.2.2.2.2.1
def ha (G : GP) : Int32 → Int32 → Int32 → Int32 := G.2.2.2.2.2.2
def okG (G : GP) : Prop := ns G ≤ 8 ∧ nt G ≤ 5 ∧ ne G ≤ 4 ∧ (∀ t, t < nt G → kd G t < 4 ∧ sk G t < 100 ∧ 0 < hr G t ∧ hr G t < 16777216) ∧ ∀ e, e < ne G → se G e < 256
def okq (G : GP) (q : HP) : Prop := (1 ≤ qn q ∧ qn q ≤ 8 ∧ qj q < qn q ∧ qg q < 16777216) ∧ (∀ p, p < qn q → qo q p < 256 ∧ (qh q p = 5 ↔ p = qj q) ∧ (qh q p < nt G ∨ qh q p = 5 ∨ qh q p = 6)) ∧ (∀ p, 1 ≤ p → p < qn q → 0 < qw q p ∧ qw q p < 256 ∧ qs q p < p) ∧ ∀ t, nt G ≤ t → qc q t = nI 0
def CH (w : GV) (q : HP) : Prop := gC w = 3 ∧ gI w 6 = qt q ∧ gI w 7 = nI (qn q) ∧ gI w 8 = nI (qj q) ∧ gI w 9 = nI (qg q) ∧ (∀ p, p < qn q → gA w 0 p = nI (qo q p) ∧ gA w 4 p = nI (qh q p) ∧ gA w 3 p = qu q p ∧ gA w 2 p = (if p = 0 then mI 1 else nI (qs q p)) ∧ (p ≠ 0 → gA w 1 p = nI (qw q p))) ∧ ∀ t, t < 5 → gA w 5 t = qc q t
def fct (x y z : Int32) (th : Nat) : Nat → Int32 := fun k => if k = 0 then x else if k = 1 then y else if k = th then z else nI 0
def CL (S : ST) (r : Option Nat) (th : Nat) (f d : Int32 → Int32 → Int32 → Int32) : Prop := (r = none ∧ f = d) ∨ ∃ a op arg fr len, r = some a ∧ LC (S a) op arg fr len th ∧ okL op arg fr len ∧ ∀ x y z, f x y z = lawV op arg (fct x y z th) fr len
def wdf (x y _z : Int32) : Int32 := nI 100 - x * nI 10 - y
def hdf (x _y z : Int32) : Int32 := x + z
def CG (S : ST) (g : Nat) (G : GP) : Prop := gC (S g) = 1 ∧ gI (S g) 8 = nI (ns G) ∧ gI (S g) 9 = nI (nt G) ∧ gI (S g) 10 = nI (ne G) ∧ (∀ t, t < nt G → gA (S g) 3 t = nI (kd G t) ∧ gA (S g) 4 t = nI (sk G t) ∧ gA (S g) 5 t = nI (hr G t)) ∧ (∀ e, e < ne G → gA (S g) 6 e = nI (se G e)) ∧ CL S (gR (S g) 11) 2 (wo G) wdf ∧ CL S (gR (S g) 12) 3 (ha G) hdf
/-- nothing but the laws' piles has changed -/
def lw (S S' : ST) : Prop := ∀ b, S' b = S b ∨ (gC (S b) = 4 ∧ ∃ P, S' b = sAf (S b) 1 P)
/-- nothing but the laws' piles and a has changed, and of a's looks nothing -/
def fra (a : Nat) (S S' : ST) : Prop := (∀ b, b ≠ a → S' b = S b ∨ (gC (S b) = 4 ∧ ∃ P, S' b = sAf (S b) 1 P)) ∧ gC (S' a) = gC (S a) ∧ ∀ k, 10 ≤ k → gI (S' a) k = gI (S a) k
theorem lw_refl (S : ST) : lw S S := fun _ => Or.inl rfl
theorem lw_gC {S S' : ST} (h : lw S S') (b : Nat) : gC (S' b) = gC (S b) := by
  rcases h b with e | ⟨_, P, e⟩ <;> rw [e]
  rfl
theorem lw_at {S S' : ST} (h : lw S S') {b : Nat} (hb : gC (S b) ≠ 4) : S' b = S b := by
  rcases h b with e | ⟨c, _⟩
  · exact e
  · exact absurd c hb
theorem lw_trans {S S' S2 : ST} (h : lw S S') (h2 : lw S' S2) : lw S S2 := by
  intro b
  rcases h b with e | ⟨c, P, e⟩
  · rcases h2 b with e2 | ⟨c2, P2, e2⟩
    · exact Or.inl (e2.trans e)
    · rw [e] at e2 c2; exact Or.inr ⟨c2, P2, e2⟩
  · refine Or.inr ⟨c, ?_⟩
    rcases h2 b with e2 | ⟨c2, P2, e2⟩
    · exact ⟨P, e2.trans e⟩
    · refine ⟨P2, ?_⟩
      rw [e2, e, sAf_sAf]
theorem fra_lw {a : Nat} {S S' : ST} (h : lw S S') : fra a S S' := by
  refine ⟨fun b _ => h b, lw_gC h a, fun k _ => ?_⟩
  rcases h a with e | ⟨_, P, e⟩ <;> rw [e]
  rfl
theorem fra_refl (a : Nat) (S : ST) : fra a S S := fra_lw (lw_refl S)
theorem fra_gC {a : Nat} {S S' : ST} (h : fra a S S') (b : Nat) : gC (S' b) = gC (S b) := by
  by_cases c : b = a
  · subst c; exact h.2.1
  · rcases h.1 b c with e | ⟨_, P, e⟩ <;> rw [e]
    rfl
theorem fra_at {a : Nat} {S S' : ST} (h : fra a S S') {b : Nat} (hb : b ≠ a) (h4 : gC (S b) ≠ 4) : S' b = S b := by
  rcases h.1 b hb with e | ⟨c, _⟩
  · exact e
  · exact absurd c h4
theorem fra_trans {a : Nat} {S S' S2 : ST} (h : fra a S S') (h2 : fra a S' S2) : fra a S S2 := by
  refine ⟨fun b hb => ?_, h2.2.1.trans h.2.1, fun k hk => (h2.2.2 k hk).trans (h.2.2 k hk)⟩
  rcases h.1 b hb with e | ⟨c, P, e⟩
  · rcases h2.1 b hb with e2 | ⟨c2, P2, e2⟩
    · exact Or.inl (e2.trans e)
    · rw [e] at e2 c2; exact Or.inr ⟨c2, P2, e2⟩
  · refine Or.inr ⟨c, ?_⟩
    rcases h2.1 b hb with e2 | ⟨c2, P2, e2⟩
    · exact ⟨P, e2.trans e⟩
    · refine ⟨P2, ?_⟩
      rw [e2, e, sAf_sAf]
theorem fra_st {a : Nat} {S S' : ST} {w : GV} (h : fra a S S') (hc : gC w = gC (S' a)) (hk : ∀ k, 10 ≤ k → gI w k = gI (S' a) k) : fra a S (st S' a w) := by
  refine ⟨fun b hb => ?_, ?_, fun k hk2 => ?_⟩
  · rw [st_ne _ _ hb]; exact h.1 b hb
  · rw [st_same, hc]; exact h.2.1
  · rw [st_same, hk k hk2]; exact h.2.2 k hk2
theorem LC_pile {w : GV} {op arg : Nat → Int32} {fr len th : Nat} (h : LC w op arg fr len th) (P : Nat → Int32) : LC (sAf w 1 P) op arg fr len th := by
  obtain ⟨h1, h2, h3⟩ := h
  refine ⟨h1, h2, ?_⟩
  simpa only [gA_sAfn w P (show (0 : Nat) ≠ 1 by decide)] using h3
theorem CL_fra {a : Nat} {S S' : ST} {r : Option Nat} {th : Nat} {f d : Int32 → Int32 → Int32 → Int32} (h : CL S r th f d) (hf : fra a S S') (ha : gC (S a) ≠ 4) : CL S' r th f d := by
  rcases h with h | ⟨x, op, arg, fr, len, h1, h2, h3, h4⟩
  · exact Or.inl h
  · refine Or.inr ⟨x, op, arg, fr, len, h1, ?_, h3, h4⟩
    have hx : x ≠ a := fun e => ha (e ▸ h2.1)
    rcases hf.1 x hx with e | ⟨_, P, e⟩
    · rw [e]; exact h2
    · rw [e]; exact LC_pile h2 P
theorem CG_fra {a g : Nat} {S S' : ST} {G : GP} (h : CG S g G) (hf : fra a S S') (ha : gC (S a) = 3) : CG S' g G := by
  have hga : g ≠ a := fun e => by have := h.1; rw [e, ha] at this; exact absurd this (by decide)
  have e := fra_at hf hga (by rw [h.1]; decide)
  obtain ⟨h1, h2, h3, h4, h5, h6, h7, h8⟩ := h
  rw [CG, e]
  exact ⟨h1, h2, h3, h4, h5, h6, CL_fra h7 hf (by rw [ha]; decide), CL_fra h8 hf (by rw [ha]; decide)⟩
theorem CG_lw {g : Nat} {S S' : ST} {G : GP} (h : CG S g G) (hf : lw S S') : CG S' g G := by
  have e := lw_at hf (b := g) (by rw [h.1]; decide)
  have hx : ∀ {r : Option Nat} {th : Nat} {f d : Int32 → Int32 → Int32 → Int32}, CL S r th f d → CL S' r th f d := by
    intro r th f d h
    rcases h with h | ⟨x, op, arg, fr, len, h1, h2, h3, h4⟩
    · exact Or.inl h
    · refine Or.inr ⟨x, op, arg, fr, len, h1, ?_, h3, h4⟩
      rcases hf x with e | ⟨_, P, e⟩
      · rw [e]; exact h2
      · rw [e]; exact LC_pile h2 P
  obtain ⟨h1, h2, h3, h4, h5, h6, h7, h8⟩ := h
  rw [CG, e]
  exact ⟨h1, h2, h3, h4, h5, h6, hx h7, hx h8⟩
/-! small steps on numbers -/
theorem ix_in {α : Type} {j n : Nat} (hj : j < n) (hn : n ≤ 100000) (a b : α) : (if nI j < nI 0 then a else if nI n ≤ nI j then a else b) = b := by
  rw [← li_0, if_neg (nI_pos (by omega)), if_neg (nI_ge hj (by omega))]
theorem ix_out {α : Type} {x : Int32} {n : Nat} (hx : ¬ ∃ j, j < n ∧ x = nI j) (hn : n ≤ 100000) (a b : α) : (if x < nI 0 then a else if nI n ≤ x then a else b) = a := by
  rw [← li_0]
  rcases pk_ix x (n := n) (by omega) with h | h | h
  · rw [if_pos h]
  · rw [if_pos h]; split <;> rfl
  · exact absurd h hx
theorem wi_in {α : Type} {j n : Nat} (hj : j ≤ n) (hn : n ≤ 100000) (a b : α) : (if nI j < nI 0 then a else if nI n < nI j then a else b) = b := by
  rw [← li_0, if_neg (nI_pos (by omega)), if_neg (nI_nlt hj (by omega))]
theorem bc256 {fu x : Nat} (hx : x < 256) : f_J6_bitCount_0f7a4 fu (nI x) = some (nI (pcn x)) := by
  have h : (List.range 256).all (fun x => decide (f_J6_bitCount_0f7a4 0 (nI x) = some (nI (pcn x)))) = true := by decide +kernel
  exact co_dec (P := fun x => f_J6_bitCount_0f7a4 0 (nI x) = some (nI (pcn x))) h hx
theorem xor256 {a b : Nat} (ha : a < 256) (hb : b < 256) : a ^^^ b < 256 := Nat.xor_lt_two_pow (n := 8) ha hb
theorem mend {x : Nat} (hx : x < 256) : nI x &&& (nI x - nI 1) = nI (x &&& (x - 1)) := by
  have h : (List.range 256).all (fun x => decide (nI x &&& (nI x - nI 1) = nI (x &&& (x - 1)))) = true := by decide +kernel
  exact co_dec h hx
/-- worth from 0 to 999 -/
def clw (x : Int32) : Int32 := if x < nI 0 then nI 0 else if nI 999 < x then nI 999 else x
theorem clw_max (x : Int32) : (if nI 0 < (if x < nI 999 then x else nI 999) then (if x < nI 999 then x else nI 999) else nI 0) = clw x := by
  have e0 : (nI 0).toInt = 0 := by decide
  have e9 : (nI 999).toInt = 999 := by decide
  simp only [clw, Int32.lt_iff_toInt_lt, e0, e9]
  by_cases h : x.toInt < 999
  · rw [if_pos h]
    by_cases h0 : x.toInt < 0
    · rw [if_neg (by omega), if_pos h0]
    · rw [if_neg h0, if_neg (show ¬ 999 < x.toInt by omega)]
      by_cases h1 : 0 < x.toInt
      · rw [if_pos h1]
      · rw [if_neg h1]
        apply Int32.toInt_inj.mp; omega
  · rw [if_neg h, if_pos (by rw [e9]; decide), if_neg (by omega)]
    by_cases h1 : 999 < x.toInt
    · rw [if_pos h1]
    · rw [if_neg h1]
      apply Int32.toInt_inj.mp; omega
/-- worth and what is hard, of a hall -/
def wof (G : GP) (q : HP) (p : Nat) : Int32 := clw (wo G (nI (pcn (qo q p))) (nI p) (qu q p))
def hof (G : GP) (q : HP) (p s : Nat) : Int32 := ha G (nI (pcn (qo q p))) (nI p) (nI s)
/-- the THIEF may come in -/
def cmi (G : GP) (q : HP) (t : Nat) : Prop := kd G t = 1 ∨ (kd G t ≠ 3 ∧ nI (hr G t) &&& (nI (qg q) ^^^ mI 1) ≠ nI 0)
def pswap (G : GP) (q : HP) (t p : Nat) : HP := mkq (qn q) p (qg q) (if kd G t = 2 then upN (qo q) (qj q) (qo q (qj q) &&& (qo q (qj q) - 1)) else qo q) (qw q) (qs q) (upN (upN (qh q) p 5) (qj q) t) (qu q) (qc q) (qt q)
def ppaint (q : HP) (t p s : Nat) : HP := mkq (qn q + 1) (qj q) (qg q) (upN (qo q) (qn q) (qo q p ^^^ 2 ^ s)) (upN (qw q) (qn q) (2 ^ s)) (upN (qs q) (qn q) p) (upN (qh q) (qn q) t) (upd (qu q) (qn q) (nI 0)) (qc q) (qt q)
def psell (G : GP) (q : HP) (t p : Nat) : HP := mkq (qn q) (qj q) (qg q) (qo q) (qw q) (qs q) (upN (qh q) p 6) (qu q) (upd (qc q) t (qc q t + wof G q p)) (qt q)
def pguard (q : HP) (h : Nat) : HP := mkq (qn q) (qj q) (qg q ||| 2 ^ h) (qo q) (qw q) (qs q) (qh q) (qu q) (qc q) (qt q)
def pnight (q : HP) : HP := mkq (qn q) (qj q) 0 (qo q) (qw q) (qs q) (qh q) (upd (qu q) (qj q) (qu q (qj q) + nI 1)) (qc q) (qt q + nI 1)
/-- who may paint what -/
def cpa (G : GP) (q : HP) (t p s : Nat) : Prop := qn q < 8 ∧ qh q p = (if kd G t = 3 then 5 else t) ∧ hof G q p s ≤ nI (sk G t)
