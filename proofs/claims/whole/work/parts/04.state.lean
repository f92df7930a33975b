/-! ===== the abstract state: groups of cells (an object and the arrays that it owns), by the object's address ===== -/
abbrev GV : Type := Nat × (Nat → Int32) × (Nat → Nat → Int32) × (Nat → Int64) × (Nat → Nat → Int64) × (Nat → Option Nat) × (Nat → Nat → Option Nat) × (Nat → Nat)
abbrev ST : Type := Nat → GV
/-- D, the classes of arrays, the least address of ours, and a gap in ours: from, up to -/
abbrev GG : Type := va_G × (Nat → ClassId) × Nat × Nat × Nat
/-- the addresses that are ours -/
def OU (G : GG) (q : Nat) : Prop := G.2.2.1 ≤ q ∧ (q < G.2.2.2.1 ∨ G.2.2.2.2 ≤ q)
def gC (v : GV) : Nat := v.1
def gI (v : GV) (k : Nat) : Int32 := v.2.1 k
def gA (v : GV) (k i : Nat) : Int32 := v.2.2.1 k i
def gJ (v : GV) (k : Nat) : Int64 := v.2.2.2.1 k
def gL (v : GV) (k i : Nat) : Int64 := v.2.2.2.2.1 k i
def gR (v : GV) (k : Nat) : Option Nat := v.2.2.2.2.2.1 k
def gQ (v : GV) (k i : Nat) : Option Nat := v.2.2.2.2.2.2.1 k i
def gN (v : GV) (k : Nat) : Nat := v.2.2.2.2.2.2.2 k
def sI (v : GV) (k : Nat) (x : Int32) : GV := (v.1, va_up v.2.1 k x, v.2.2)
def sAf (v : GV) (k : Nat) (f : Nat → Int32) : GV := (v.1, v.2.1, va_up v.2.2.1 k f, v.2.2.2)
def sA (v : GV) (k i : Nat) (x : Int32) : GV := sAf v k (upd (gA v k) i x)
def sJ (v : GV) (k : Nat) (x : Int64) : GV := (v.1, v.2.1, v.2.2.1, va_up v.2.2.2.1 k x, v.2.2.2.2)
def sLf (v : GV) (k : Nat) (f : Nat → Int64) : GV := (v.1, v.2.1, v.2.2.1, v.2.2.2.1, va_up v.2.2.2.2.1 k f, v.2.2.2.2.2)
def sL (v : GV) (k i : Nat) (x : Int64) : GV := sLf v k (vp_updL (gL v k) i x)
def sR (v : GV) (k : Nat) (x : Option Nat) : GV := (v.1, v.2.1, v.2.2.1, v.2.2.2.1, v.2.2.2.2.1, va_up v.2.2.2.2.2.1 k x, v.2.2.2.2.2.2)
def st (S : ST) (a : Nat) (v : GV) : ST := va_up S a v
theorem st_same (S : ST) (a : Nat) (v : GV) : st S a v a = v := by simp [st, va_up]
theorem st_ne (S : ST) {a b : Nat} (v : GV) (h : b ≠ a) : st S a v b = S b := by simp [st, va_up, h]
theorem st_self (S : ST) (a : Nat) : st S a (S a) = S := by
  funext b
  by_cases h : b = a
  · subst h; simp [st, va_up]
  · simp [st, va_up, h]
theorem st_st (S : ST) (a : Nat) (v w : GV) : st (st S a v) a w = st S a w := by
  funext b
  by_cases h : b = a
  · subst h; simp [st, va_up]
  · simp [st, va_up, h]
def dTab : List (List (Nat × Nat × Nat × Nat)) := [[(2, 1, 2, 8), (2, 2, 2, 5), (2, 3, 2, 4), (2, 4, 1, 5), (2, 5, 1, 5), (2, 6, 1, 5), (2, 7, 1, 4), (3, 8, 0, 0), (0, 0, 0, 0), (0, 0, 0, 0), (0, 0, 0, 0), (4, 0, 0, 0), (4, 0, 0, 0)],
  [(4, 0, 0, 0), (3, 1, 0, 0)],
  [(2, 1, 1, 8), (2, 2, 1, 8), (2, 3, 1, 8), (2, 4, 1, 8), (2, 5, 1, 8), (2, 6, 1, 5), (0, 0, 0, 0), (0, 0, 0, 0), (0, 0, 0, 0), (0, 0, 0, 0), (0, 0, 0, 0), (0, 0, 0, 0), (0, 0, 0, 0)],
  [(2, 1, 1, 0), (2, 2, 1, 32)],
  [(4, 0, 0, 0), (2, 1, 1, 1000), (0, 0, 0, 0), (5, 0, 0, 0)],
  [(2, 1, 1, 30), (2, 2, 1, 30), (2, 3, 1, 30), (2, 4, 1, 30), (0, 0, 0, 0)],
  [(2, 1, 1, 8), (2, 2, 1, 243), (0, 0, 0, 0)],
  [(2, 1, 3, 1000), (2, 2, 1, 1001), (2, 3, 1, 1001), (2, 4, 2, 1001), (0, 0, 0, 0), (0, 0, 0, 0), (0, 0, 0, 0), (0, 0, 0, 0)],
  [(2, 1, 1, 6), (2, 2, 1, 6), (2, 3, 1, 6), (0, 0, 0, 0), (0, 0, 0, 0), (0, 0, 0, 0)],
  [(3, 1, 0, 0), (1, 0, 0, 0), (0, 0, 0, 0)],
  [(3, 1, 0, 0), (3, 6, 0, 0), (3, 9, 0, 0), (3, 16, 0, 0), (2, 23, 5, 17), (2, 24, 5, 4), (3, 25, 0, 0), (3, 29, 0, 0), (3, 32, 0, 0), (2, 40, 1, 32), (2, 41, 1, 9), (2, 42, 1, 9), (4, 0, 0, 0), (4, 0, 0, 0), (4, 0, 0, 0), (4, 0, 0, 0), (0, 0, 0, 0), (0, 0, 0, 0), (0, 0, 0, 0)],
  [(0, 0, 0, 0), (2, 1, 1, 1000), (0, 0, 0, 0), (0, 0, 0, 0), (2, 2, 1, 1002), (2, 3, 1, 1002), (2, 4, 2, 1002), (0, 0, 0, 0), (0, 0, 0, 0), (2, 5, 2, 29), (2, 6, 1, 140), (2, 7, 1, 2200), (2, 8, 1, 2200), (0, 0, 0, 0), (2, 9, 2, 18), (2, 10, 2, 18), (2, 11, 1, 18), (2, 12, 1, 18), (0, 0, 0, 0), (0, 0, 0, 0), (0, 0, 0, 0), (2, 13, 1, 250), (2, 14, 1, 4), (2, 15, 1, 1100), (2, 16, 1, 1518), (0, 0, 0, 0), (2, 17, 4, 4), (2, 18, 1, 6), (2, 19, 1, 6), (2, 20, 1, 6), (0, 0, 0, 0), (0, 0, 0, 0), (2, 21, 1, 5), (2, 22, 1, 8), (2, 23, 1, 8), (2, 24, 1, 8), (0, 0, 0, 0), (0, 0, 0, 0), (2, 25, 1, 10), (2, 26, 1, 10), (1, 0, 0, 0)],
  [(4, 0, 0, 0), (4, 0, 0, 0), (4, 0, 0, 0), (4, 0, 0, 0), (4, 0, 0, 0), (4, 0, 0, 0), (4, 0, 0, 0), (4, 0, 0, 0), (0, 0, 0, 0), (0, 0, 0, 0), (0, 0, 0, 0), (4, 0, 0, 0), (4, 0, 0, 0)],
  [(4, 0, 0, 0), (4, 0, 0, 0)],
  [(4, 0, 0, 0), (4, 0, 0, 0), (4, 0, 0, 0), (4, 0, 0, 0), (4, 0, 0, 0), (4, 0, 0, 0), (0, 0, 0, 0), (0, 0, 0, 0), (0, 0, 0, 0), (0, 0, 0, 0), (0, 0, 0, 0), (0, 0, 0, 0), (0, 0, 0, 0)],
  [(4, 0, 0, 0), (4, 0, 0, 0)],
  [(4, 0, 0, 0), (4, 0, 0, 0), (0, 0, 0, 0), (4, 0, 0, 0)],
  [(4, 0, 0, 0), (4, 0, 0, 0), (4, 0, 0, 0), (4, 0, 0, 0), (0, 0, 0, 0)],
  [(4, 0, 0, 0), (4, 0, 0, 0), (0, 0, 0, 0)],
  [(4, 0, 0, 0), (4, 0, 0, 0), (4, 0, 0, 0), (4, 0, 0, 0), (0, 0, 0, 0), (0, 0, 0, 0), (0, 0, 0, 0), (0, 0, 0, 0)],
  [(4, 0, 0, 0), (4, 0, 0, 0), (4, 0, 0, 0), (0, 0, 0, 0), (0, 0, 0, 0), (0, 0, 0, 0)],
  [(4, 0, 0, 0), (1, 0, 0, 0), (0, 0, 0, 0)],
  [(4, 0, 0, 0), (4, 0, 0, 0), (4, 0, 0, 0), (4, 0, 0, 0), (4, 0, 0, 0), (4, 0, 0, 0), (4, 0, 0, 0), (4, 0, 0, 0), (4, 0, 0, 0), (4, 0, 0, 0), (4, 0, 0, 0), (4, 0, 0, 0), (4, 0, 0, 0), (4, 0, 0, 0), (4, 0, 0, 0), (4, 0, 0, 0), (0, 0, 0, 0), (0, 0, 0, 0), (0, 0, 0, 0)],
  [(0, 0, 0, 0), (4, 0, 0, 0), (0, 0, 0, 0), (0, 0, 0, 0), (4, 0, 0, 0), (4, 0, 0, 0), (4, 0, 0, 0), (0, 0, 0, 0), (0, 0, 0, 0), (4, 0, 0, 0), (4, 0, 0, 0), (4, 0, 0, 0), (4, 0, 0, 0), (0, 0, 0, 0), (4, 0, 0, 0), (4, 0, 0, 0), (4, 0, 0, 0), (4, 0, 0, 0), (0, 0, 0, 0), (0, 0, 0, 0), (0, 0, 0, 0), (4, 0, 0, 0), (4, 0, 0, 0), (4, 0, 0, 0), (4, 0, 0, 0), (0, 0, 0, 0), (4, 0, 0, 0), (4, 0, 0, 0), (4, 0, 0, 0), (4, 0, 0, 0), (0, 0, 0, 0), (0, 0, 0, 0), (4, 0, 0, 0), (4, 0, 0, 0), (4, 0, 0, 0), (4, 0, 0, 0), (0, 0, 0, 0), (0, 0, 0, 0), (4, 0, 0, 0), (4, 0, 0, 0), (1, 0, 0, 0)]]
def nfTab : List Nat := [13, 2, 13, 2, 4, 5, 3, 8, 6, 3, 19, 41, 13, 2, 13, 2, 4, 5, 3, 8, 6, 3, 19, 41]
/-- a class by its place in vwCl; 12 more: an object of it in the making (its references as they are); 24 and on: an array by itself (24 int, 25 long, 26 char, 27 boolean, 28 halls). Per class and field: tag (0 int, 1 long, 2 an array of its own, 3 an object of its own, 4 a reference, 5 a constant of Word), the offset of what is its own, the array's kind (1 int, 2 long, 3 char, 4 boolean, 5 halls), its length (0: as gN says) -/
def ds (c k : Nat) : Nat × Nat × Nat × Nat := (dTab.getD c []).getD k (9, 0, 0, 0)
def nf (c : Nat) : Nat := nfTab.getD c 0
def ow (c x : Nat) : Prop := x = 0 ∨ ∃ k, k < nf c ∧ (ds c k).1 = 2 ∧ (ds c k).2.1 = x
/-- the constants' addresses -/
def kAd (G : GG) (j : Nat) : Nat := G.2.1 (100 + j)
def fvl (G : GG) (c a : Nat) (v : GV) (k : Nat) : Value := if (ds c k).1 = 0 then .int (gI v k) else if (ds c k).1 = 1 then .long (gJ v k) else if (ds c k).1 = 4 then va_rf (gR v k) else if (ds c k).1 = 5 then .ref (kAd G (gI v k).toNatClampNeg) else .ref (a + (ds c k).2.1)
def alen (c k : Nat) (v : GV) : Nat := if (ds c k).2.2.2 = 0 then gN v k else (ds c k).2.2.2
def acont (c k : Nat) (v : GV) : (Nat → Int32) ⊕ (Nat → Int64) ⊕ (Nat → UInt32) ⊕ (Nat → UInt64) ⊕ (Nat → Option Nat) := if (ds c k).2.2.1 = 2 then .inr (.inl (gL v k)) else if (ds c k).2.2.1 = 5 then .inr (.inr (.inr (.inr (gQ v k)))) else .inl (gA v k)
def tysOf (cA : Nat → ClassId) : List (ClassId × FieldType) := [(cA 1, .int), (cA 2, .long), (cA 3, .char), (cA 4, .boolean), (cA 5, .object RX3)]
def flds (G : GG) (c a : Nat) (v : GV) : List Value := (List.range (nf c)).map (fvl G c a v)
theorem flds_at {G : GG} {c a : Nat} {v : GV} {k : Nat} (h : k < nf c) : (flds G c a v)[k]? = some (fvl G c a v k) := by simp [flds, h]
theorem flds_len (G : GG) (c a : Nat) (v : GV) : (flds G c a v).length = nf c := by simp [flds]
/-- a group's first cell -/
def hdE (G : GG) (a c : Nat) (v : GV) : va_E := if c < 24 then .inr (c % 12, flds G c a v) else .inl (G.2.1 (c - 23), gN v 0, if c = 25 then .inr (.inl (gL v 0)) else if c = 28 then .inr (.inr (.inr (.inr (gQ v 0)))) else .inl (gA v 0))
theorem hdE_o {G : GG} {a c : Nat} {v : GV} (h : c < 24) : hdE G a c v = .inr (c % 12, flds G c a v) := by simp [hdE, h]
/-- a group stands in the heap -/
def grp (G : GG) (a : Nat) (c : Nat) (v : GV) (H : Heap) : Prop := va_at G.1 vwCl (a, hdE G a c v) H ∧ ∀ k, k < nf c → (ds c k).1 = 2 → va_at G.1 vwCl (a + (ds c k).2.1, .inl (G.2.1 (ds c k).2.2.1, alen c k v, acont c k v)) H
def BW (G : GG) (S : ST) (H : Heap) : Prop := (∀ a c, gC (S a) = c + 1 → (∀ x, ow c x → OU G (a + x)) ∧ grp G a c (S a) H) ∧ ∀ a b c d, gC (S a) = c + 1 → gC (S b) = d + 1 → a ≠ b → ∀ x y, ow c x → ow d y → a + x ≠ b + y
def tabOk : Bool := (List.range 24).all fun c => (List.range (nf c)).all fun k => if (ds c k).1 = 2 then decide (0 < (ds c k).2.1) && ((List.range (nf c)).all fun j => !(decide ((ds c j).1 = 2) && decide ((ds c j).2.1 = (ds c k).2.1)) || decide (j = k)) else true
theorem tabOk_true : tabOk = true := by decide +kernel
theorem nf_big {c : Nat} (h : ¬ c < 24) : nf c = 0 := by
  have : nfTab.length = 24 := by decide +kernel
  simp [nf, List.getD, List.getElem?_eq_none (show nfTab.length ≤ c by omega)]
theorem nf_lt {c k : Nat} (h : k < nf c) : c < 24 := Decidable.byContradiction fun q => by rw [nf_big q] at h; omega
theorem tab_off {c k : Nat} (h : k < nf c) (ht : (ds c k).1 = 2) : 0 < (ds c k).2.1 ∧ ∀ j, j < nf c → (ds c j).1 = 2 → (ds c j).2.1 = (ds c k).2.1 → j = k := by
  have hc : c < 24 := Decidable.byContradiction fun q => by rw [nf_big q] at h; omega
  have h1 := List.all_eq_true.mp tabOk_true c (List.mem_range.mpr hc)
  have h2 := List.all_eq_true.mp h1 k (List.mem_range.mpr h)
  rw [if_pos ht] at h2
  simp only [Bool.and_eq_true, decide_eq_true_eq] at h2
  refine ⟨h2.1, fun j hj hj1 hj2 => ?_⟩
  have h3 := List.all_eq_true.mp h2.2 j (List.mem_range.mpr hj)
  simpa [hj1, hj2] using h3
/-- where a cell of a group changes: the other groups stay -/
theorem BW.upd {G : GG} {S : ST} {H H1 : Heap} {a c : Nat} {v : GV} (h : BW G (st S a v) H) (hc : gC v = c + 1) (w : GV) (hw : gC w = c + 1) {x : Nat} (hx : ow c x) (oq : ∀ q : Nat, q ≠ a + x → H1[q]? = H[q]?) (hg : grp G a c w H1) : BW G (st S a w) H1 := by
  have hgc : ∀ b d, gC (st S a w b) = d + 1 → gC (st S a v b) = d + 1 := by
    intro b d hb
    by_cases e : b = a
    · subst e; rw [st_same] at hb ⊢; rw [hc, ← hw]; exact hb
    · rw [st_ne _ _ e] at hb ⊢; exact hb
  refine ⟨fun b d hb => ?_, fun y z d d' hy hz => h.2 y z d d' (hgc y d hy) (hgc z d' hz)⟩
  have hb0 := hgc b d hb
  by_cases e : b = a
  · subst e
    rw [st_same] at hb
    have hd : d = c := by omega
    subst hd
    rw [st_same]
    exact ⟨(h.1 b d hb0).1, hg⟩
  · have hs := h.2 b a d c hb0 (by rw [st_same]; exact hc) e
    obtain ⟨hz, hg1, hg2⟩ := h.1 b d hb0
    rw [st_ne _ _ e] at hg1 hg2 ⊢
    exact ⟨hz, hg1.kept (oq b (hs 0 x (Or.inl rfl) hx)), fun k hk hk2 => (hg2 k hk hk2).kept (oq _ (hs _ x (Or.inr ⟨k, hk, hk2, rfl⟩) hx))⟩
theorem BW.at {G : GG} {S : ST} {H : Heap} {a c : Nat} {v : GV} (h : BW G (st S a v) H) (hc : gC v = c + 1) : (∀ x, ow c x → OU G (a + x)) ∧ grp G a c v H := by
  have := h.1 a c (by rw [st_same]; exact hc)
  rwa [st_same] at this
/-! ===== constants: the enum Word, its array, the switch map, UNITS: what nobody writes ===== -/
def wnm : List String := ["OTHER", "SPOT", "THIEF", "SKILL", "COINS", "AT", "COPY", "OF", "SLIP", "WITH", "EXPERT", "SEES", "WORTH", "HARD", "STEAL", "PAINT", "SELL", "GUARD", "NIGHT", "PLAIN_KIND", "BOLD_KIND", "RESTORER_KIND", "BOY_KIND", "NOT", "AND", "OR", "SLIPS", "AGE", "HUNG", "PLACE"]
def wpk : List Int64 := [0, 639476, 21243046, 20293004, 3646931, 52, 114201, 486, 635184, 763528, 193467988, 627891, 24627848, 263748, 20583468, 16819668, 628108, 8029764, 14982420, 17171758, 81284, 624503015602, 2553, 14836, 1476, 498, 20325907, 1253, 284103, 17171557]
def wrs : List Int32 := [0, 1, 1, 1, 1, 1, 1, 1, 1, 1, 1, 1, 1, 1, 1, 1, 1, 1, 1, 1, 1, 1, 1, 1, 1, 1, 0, 0, 0, 0]
def smp : List Int32 := [0, 1, 2, 0, 0, 0, 3, 0, 0, 0, 4, 0, 5, 6, 11, 12, 13, 14, 15, 7, 8, 9, 10, 0, 0, 0, 0, 0, 0, 0]
def uni : List Int32 := [1, 3, 9, 27, 81]
def sgn : List Int32 := [40, 41, 60, 61, 43, 45, 42, 59]
def CW1 (G : GG) (U : State) (H : Heap) (j : Nat) : Prop := va_Z RX10 (wnm.getD j "") "LPanelCopies$Word;" (.ref (kAd G j)) (OU G) U H ∧ va_O RX10 (kAd G j) (OU G) U H ∧ va_OF RX10 "packed" "J" (.long (wpk.getD j 0)) (kAd G j) (OU G) U H ∧ va_OF RX10 "reserved" "Z" (.int (wrs.getD j 0)) (kAd G j) (OU G) U H ∧ va_OF "java/lang/Enum" "ordinal" "I" (.int (nI j)) (kAd G j) (OU G) U H
def CW (G : GG) (U : State) (H : Heap) : Prop := (∀ j, j < 30 → CW1 G U H j) ∧
  (va_Z RX10 "ALL" "[LPanelCopies$Word;" (.ref (kAd G 30)) (OU G) U H ∧ va_T (.object RX10) (kAd G 30) 30 (fun j => .ref (kAd G j)) (OU G) U H) ∧
  (va_Z RX0 "$SwitchMap$PanelCopies$Word" "[I" (.ref (kAd G 31)) (OU G) U H ∧ va_T .int (kAd G 31) 30 (fun j => .int (smp.getD j 0)) (OU G) U H) ∧
  (va_Z RX7 "UNITS" "[I" (.ref (kAd G 32)) (OU G) U H ∧ va_T .int (kAd G 32) 5 (fun j => .int (uni.getD j 0)) (OU G) U H) ∧
  (va_Z "java/lang/String" "COMPACT_STRINGS" "Z" (.int 1) (OU G) U H ∧ va_O "java/lang/String" (kAd G 33) (OU G) U H ∧ va_OF "java/lang/String" "coder" "B" (.int 0) (kAd G 33) (OU G) U H ∧ va_OF "java/lang/String" "value" "[B" (.ref (kAd G 34)) (kAd G 33) (OU G) U H ∧ va_T .byte (kAd G 34) 8 (fun j => .int (sgn.getD j 0)) (OU G) U H)
theorem CW.moved {G : GG} {u U : State} {H : Heap} (hv : u.vm.Alike U.vm) (h : CW G u H) : CW G U H :=
  ⟨fun j hj => ⟨(h.1 j hj).1.moved hv, (h.1 j hj).2.1.moved hv, (h.1 j hj).2.2.1.moved hv, (h.1 j hj).2.2.2.1.moved hv, (h.1 j hj).2.2.2.2.moved hv⟩, ⟨h.2.1.1.moved hv, h.2.1.2.moved hv⟩, ⟨h.2.2.1.1.moved hv, h.2.2.1.2.moved hv⟩, ⟨h.2.2.2.1.1.moved hv, h.2.2.2.1.2.moved hv⟩, h.2.2.2.2.1.moved hv, h.2.2.2.2.2.1.moved hv, h.2.2.2.2.2.2.1.moved hv, h.2.2.2.2.2.2.2.1.moved hv, h.2.2.2.2.2.2.2.2.moved hv⟩
theorem CW.kept {G : GG} {U : State} {H H1 : Heap} (h : CW G U H) (hq : ∀ a : Nat, a < H.size → ¬ (OU G) a → H1[a]? = H[a]?) : CW G U H1 :=
  ⟨fun j hj => ⟨(h.1 j hj).1.kept hq, (h.1 j hj).2.1.kept hq, (h.1 j hj).2.2.1.kept hq, (h.1 j hj).2.2.2.1.kept hq, (h.1 j hj).2.2.2.2.kept hq⟩, ⟨h.2.1.1.kept hq, h.2.1.2.kept hq⟩, ⟨h.2.2.1.1.kept hq, h.2.2.1.2.kept hq⟩, ⟨h.2.2.2.1.1.kept hq, h.2.2.2.1.2.kept hq⟩, h.2.2.2.2.1.kept hq, h.2.2.2.2.2.1.kept hq, h.2.2.2.2.2.2.1.kept hq, h.2.2.2.2.2.2.2.1.kept hq, h.2.2.2.2.2.2.2.2.kept hq⟩
/-- the private constructors that PanelCopies itself calls, of its nest -/
def NWl : List (Nat × MethodName) := [(11, yX8_init), (44, yX9_init), (51, yX7_init), (58, yX11_init), (75, yX1_init), (85, yX6_init)]
def NW (U : State) : Prop := ∀ q ∈ NWl, va_Nw (.methodLinkNest RX12 q.1 q.2 RX12) U
theorem NW.warm {s U : State} (hW : s.WarmedH U.vm) (h : NW s) : NW U := fun q hq => va_Nw.warmM hW (h q hq)
theorem NW.same {u U : State} (hv : u.vm = U.vm) (h : NW u) : NW U := fun q hq => va_Nw.same rfl hv (h q hq)
/-- at a method's entry: our addresses lie above, the constants stand -/
def ZW (G : GG) (U : State) : Prop := ((G.2.2.1 ≤ U.heap.size ∧ G.2.2.2.2 ≤ U.heap.size) ∧ vk_R RX8 65 "()<=+-*;" (kAd G 33) U ∧ va_AO RX3 U ∧ NW U) ∧ CW G U U.heap
/-- what a method's rows rest on -/
def MC (G : GG) (p : Program) (s : State) (m : MethodId) (args : Array Value) (c : Code) (cc : ByteArray) (Ts : List Cond) (own : String) : Prop := p.tables.exec = Jvm.exec ∧ c.code = cc ∧ s.vm.findClass own = some m.cls ∧ (∀ w ∈ Ts, w.before args s = true) ∧ va_K G.1 vwCl (tysOf G.2.1) s ∧ ZW G s
def WB (G : GG) (S : ST) (s : State) (H : Heap) (locs : List Loc) : Prop := BW G S H ∧ va_S (OU G) s.heap H locs
theorem va_P1 {D : va_G} {cl : List vw_C} {q : Nat × va_E} {H : Heap} (h : va_at D cl q H) : va_P D cl [q] H := by
  intro k x hk
  have hz : k < 1 := (List.getElem?_eq_some_iff.mp hk).1
  rw [show k = 0 by omega] at hk
  cases hk
  exact h
section ROWS
variable {G : GG} {p : Program} {l : Launch} {e : Env} {R : Room} {s : State} {m : MethodId} {args : Array Value} {below : List Frame} {meth : Method} {c : Code} {H : Heap} {locs : List Loc} {cells slots : Nat} {Q : State → Prop}
variable {cc : ByteArray} {pc : Nat} {ls : Array Slot} {rest : List Value} {Ts : List Cond} {own : String} {S : ST} {v : GV} {a : Nat}
theorem b_get (hM : MC G p s m args c cc Ts own) (hW : WB G (st S a v) s H locs) (ci k : Nat) {C : String} {T : u_T} {N index : Nat} (hc : gC v = ci + 1) (hcl : vwCl[ci % 12]? = some (C, T, N)) (hN : N = nf ci) (hk : k < N) (hin : ∀ w ∈ u_ws C T N, w ∈ Ts) (hl : Cond.fieldLink own index (T k).1 (T k).2.1 (T k).2.2.1 ∈ Ts) {x : Value} (hx : fvl G ci a v k = x) (hdg : decode cc pc = .ok (.getfield index, 3))
    (kk : W p l e R s m args below meth c H locs cells slots Q (F0 m (pc + 3) ls (x :: rest))) : W p l e R s m args below meth c H locs cells slots Q (F0 m pc ls (.ref a :: rest)) := by
  obtain ⟨h1, h2, h3, h4, h5, h6⟩ := hM
  have hg := (hW.1.at hc).2.1
  subst hN
  rw [hdE_o (nf_lt hk)] at hg
  exact va_get h1 h2 h4 hin h3 h5 (va_P1 hg) 0 rfl hcl k hk (h4 _ hl) (fun _ h => h) (by rw [flds_at hk, hx]) hdg kk
theorem b_put0 (hM : MC G p s m args c cc Ts own) (hW : WB G (st S a v) s H locs) (ci k : Nat) {C : String} {T : u_T} {N index : Nat} (hc : gC v = ci + 1) (hcl : vwCl[ci % 12]? = some (C, T, N)) (hN : N = nf ci) (hk : k < N) (hin : ∀ w ∈ u_ws C T N, w ∈ Ts) (ty0 : Nat → FieldType) (hty : ∀ k, k < N → parseFieldDescriptor (T k).2.2.1 = some (ty0 k)) (hnm : ∀ a, a < N → ∀ b, b < N → a ≠ b → (T a).2.1 ≠ (T b).2.1) (hl : Cond.fieldLink own index (T k).1 (T k).2.1 (T k).2.2.1 ∈ Ts) (hfin : (T k).2.2.2 = false) {x : Value} (w : GV) (hw : gC w = ci + 1) (hx : flds G ci a w = (flds G ci a v).set k x) (hwa : ∀ j, alen ci j w = alen ci j v ∧ acont ci j w = acont ci j v) (hn : narrow (ty0 k) x = x) (hfit : fits (ty0 k) x = true) (hdg : decode cc pc = .ok (.putfield index, 3))
    (kk : ∀ (H1 : Heap) (locs1 : List Loc), WB G (st S a w) s H1 locs1 → W p l e R s m args below meth c H1 locs1 cells slots Q (F0 m (pc + 3) ls rest)) : W p l e R s m args below meth c H locs cells slots Q (F0 m pc ls (x :: .ref a :: rest)) := by
  obtain ⟨hexec, hb, hown, hts, hK, h6⟩ := hM
  obtain ⟨hz, hg, hga⟩ := hW.1.at hc
  have h24 : ci < 24 := nf_lt (hN ▸ hk)
  rw [hdE_o h24] at hg
  have hap := va_apart (own := own) hts hin ty0 hty hnm hK hcl
  obtain ⟨r, h1, cell, q1, q2, q3, q4⟩ := id hg
  have hr : r = (C, T, N) := Option.some.inj (h1.symm.trans hcl)
  subst hr
  obtain ⟨hS, hfc, kC, hkC, hkind⟩ := hK.1 (ci % 12) _ hcl
  obtain ⟨cf, kf, fi, f, hi, hsl⟩ := hS k hk
  have hlay := hts _ (hin _ (u_in_lay hk))
  unfold u_lay at hlay
  rw [if_neg (by rw [hfin]; decide)] at hlay
  have hst := (u_facts hfc hkC (u_lays hts hin hk) hi).1
  have h6 := u_store hfc hkC hkind hlay hi (hty k hk) hn hfit
  refine W.putK hexec hb (f := f) ⟨hown, hts _ hl, ⟨_, _, _, hi⟩, hst⟩ (by rw [q2]; exact h6) q1 q3 (by rw [hsl]; exact k2_hasslot (q4 k hk)) rfl rfl hdg fun H' e1 e2 e3 => ?_
  rw [hsl] at e1 ⊢
  refine kk H' _ ⟨hW.1.upd hc w hw (x := 0) (Or.inl rfl) e3 ⟨?_, fun j hj hj2 => ?_⟩, hW.2.put e2 e3 (hz 0 (Or.inl rfl))⟩
  · rw [hdE_o h24]
    refine ⟨_, hcl, t_OB.to (V := updV (vp_V (flds G ci a v)) k x) ⟨_, e1, q2, q3, t_set q4 hap hk x⟩ (fun j _ => ?_)⟩
    show _ = vp_V (flds G ci a w) j
    rw [hx]
    exact vp_updV_set (by rw [flds_len]; subst hN; exact hk) x j
  · have := hga j hj hj2
    rw [← (hwa j).1, ← (hwa j).2] at this
    exact this.kept (e3 _ (by have := (tab_off hj hj2).1; show a + (ds ci j).2.1 ≠ a; omega))
end ROWS
