/-! ===== looks; the whole state as a picture (AP); the class's state (RC) and the model's (RM) show it ===== -/
abbrev LK : Type := Nat × (Nat → Nat) × (Nat → Nat)
abbrev QL : Type := HP × LK
abbrev LN : Type := Nat × (Nat → Nat × Nat × Nat × Nat)
abbrev TP : Type := Nat × (Nat → Nat)
abbrev NM : Type := (Nat → Nat) × (Nat → Nat) × (Nat → Nat)
abbrev AP : Type := GP × QL × (Nat × (Nat → HP)) × (Nat × (Nat → QL)) × HP × LN × TP × NM
def mkA (G : GP) (q : QL) (P : Nat × (Nat → HP)) (M : Nat × (Nat → QL)) (b : HP) (L : LN) (T : TP) (N : NM) : AP := (G, q, P, M, b, L, T, N)
def aG (A : AP) : GP := A.1
def aQ (A : AP) : QL := A.2.1
def aP (A : AP) : Nat × (Nat → HP) := A.2.2.1
def aM (A : AP) : Nat × (Nat → QL) := A.2.2.2.1
def aB (A : AP) : HP := A.2.2.2.2.1
def aL (A : AP) : LN := A.2.2.2.2.2.1
def aT (A : AP) : TP := A.2.2.2.2.2.2.1
def aN (A : AP) : NM := A.2.2.2.2.2.2.2
section MKA
variable (G : GP) (q : QL) (P : Nat × (Nat → HP)) (M : Nat × (Nat → QL)) (b : HP) (L : LN) (T : TP) (N : NM)
theorem aG_mk : aG (mkA G q P M b L T N) = G := (id rfl)
theorem aQ_mk : aQ (mkA G q P M b L T N) = q := (id rfl)
theorem aP_mk : aP (mkA G q P M b L T N) = P := (id rfl)
theorem aM_mk : aM (mkA G q P M b L T N) = M := (id rfl)
theorem aB_mk : aB (mkA G q P M b L T N) = b := (id rfl)
theorem aL_mk : aL (mkA G q P M b L T N) = L := (id rfl)
theorem aT_mk : aT (mkA G q P M b L T N) = T := (id rfl)
theorem aN_mk : aN (mkA G q P M b L T N) = N := (id rfl)
end MKA
/-- the SPOTS of the first k looks that were so -/
def lob (l : LK) (o : Nat) : Nat → Nat
  | 0 => 0
  | k + 1 => if l.2.2 k = o then lob l o k ||| 2 ^ l.2.1 k else lob l o k
def okl (G : GP) (l : LK) : Prop := l.1 ≤ 8 ∧ ∀ i, i < l.1 → l.2.1 i < ns G ∧ l.2.2 i < 2
def okQ (G : GP) (Q : QL) : Prop := okq G Q.1 ∧ okl G Q.2
/-- the hall at the begin -/
def okB (G : GP) (b : HP) : Prop := okq G b ∧ qj b = 0 ∧ qg b = 0 ∧ qt b = nI 0 ∧ qo b 0 = 0 ∧ (∀ p, p < qn b → qu b p = nI 0) ∧ (∀ p, 1 ≤ p → p < qn b → qo b p = qo b (qs b p) ^^^ qw b p)
def okLn (G : GP) (L : LN) : Prop := L.1 ≤ 30 ∧ ∀ i, i < L.1 → (L.2 i).1 < 5 ∧ ((L.2 i).1 < 3 → (L.2 i).2.1 < nt G ∧ (L.2 i).2.2.1 < 8) ∧ ((L.2 i).1 = 1 → (L.2 i).2.2.2 < ns G) ∧ ((L.2 i).1 = 3 → (L.2 i).2.2.1 < 24)
def okT (T : TP) : Prop := T.1 ≤ 1000 ∧ ∀ i, i < T.1 → T.2 i = 10 ∨ (32 ≤ T.2 i ∧ T.2 i ≤ 126)
def okA (A : AP) : Prop := okG (aG A) ∧ okQ (aG A) (aQ A) ∧ ((aP A).1 ≤ 16 ∧ ∀ i, i < (aP A).1 → okq (aG A) ((aP A).2 i)) ∧ ((aM A).1 < 16 ∧ ∀ m, m < 4 → bt (aM A).1 m = 1 → okQ (aG A) ((aM A).2 m)) ∧ okB (aG A) (aB A) ∧ okLn (aG A) (aL A) ∧ okT (aT A)
def CHL (w : GV) (Q : QL) : Prop := CH w Q.1 ∧ gI w 10 = nI Q.2.1 ∧ gI w 11 = nI (lob Q.2 1 Q.2.1) ∧ gI w 12 = nI (lob Q.2 0 Q.2.1)
def MHL (h : Nat → Int32) (Q : QL) : Prop := MH h Q.1 ∧ h 48 = nI Q.2.1 ∧ ∀ i, i < Q.2.1 → h (49 + 2 * i) = nI (Q.2.2.1 i) ∧ h (49 + 2 * i + 1) = nI (Q.2.2.2 i)
/-- a NAME's number by 37 out of its number by 32; numbers that are words -/
def cvk : Nat → Nat → Nat
  | 0, _ => 0
  | k + 1, c => if c = 0 then 0 else 37 * cvk k (c / 32) + c % 32
def cv (c : Nat) : Nat := cvk 9 c
def wdk : Nat → Nat → Bool
  | 0, c => decide (c = 0)
  | k + 1, c => decide (c = 0) || (decide (1 ≤ c % 32 ∧ c % 32 ≤ 26) && wdk k (c / 32))
def wdv (c : Nat) : Bool := wdk 8 c
def CN (w : GV) (G : GP) (N : NM) : Prop := (∀ i, i < ns G → gL w 0 i = lN (N.1 i)) ∧ (∀ i, i < nt G → gL w 1 i = lN (N.2.1 i)) ∧ ∀ i, i < ne G → gL w 2 i = lN (N.2.2 i)
/-- names told, in a row: their numbers, and of what they are -/
def NR (G : GP) (N : NM) (n : Nat) (cd ty : Nat → Nat) : Prop := n = ns G + nt G + ne G ∧ (∀ k, k < n → wdv (cd k) = true) ∧ (∀ i, i < ns G → ∃ k, k < n ∧ cd k = N.1 i ∧ ty k = i) ∧ (∀ i, i < nt G → ∃ k, k < n ∧ cd k = N.2.1 i ∧ ty k = 20 + i) ∧ (∀ i, i < ne G → ∃ k, k < n ∧ cd k = N.2.2 i ∧ ty k = 40) ∧ (∀ k, k < n → (∃ i, i < ns G ∧ ty k = i ∧ cd k = N.1 i) ∨ (∃ i, i < nt G ∧ ty k = 20 + i ∧ cd k = N.2.1 i) ∨ (∃ i, i < ne G ∧ ty k = 40 ∧ cd k = N.2.2 i)) ∧ ∀ j k, j < n → k < n → cd j = cd k → j = k
def MN (v : GV) (G : GP) (N : NM) : Prop := ∃ n cd ty, NR G N n cd ty ∧ gI v 18 = nI n ∧ ∀ k, k < n → gL v 14 k = lN (cv (cd k)) ∧ gA v 16 k = nI (ty k)
def CLn (w : GV) (L : LN) : Prop := gI w 4 = nI L.1 ∧ ∀ i, i < L.1 → gA w 0 i = nI (L.2 i).1 ∧ ((L.2 i).1 < 3 → gA w 1 i = nI (L.2 i).2.1) ∧ ((L.2 i).1 < 4 → gA w 2 i = nI (L.2 i).2.2.1) ∧ ((L.2 i).1 = 1 → gA w 3 i = nI (L.2 i).2.2.2)
def MLn (v : GV) (L : LN) : Prop := gA v 21 0 = nI L.1 ∧ ∀ i, i < L.1 → gA v 21 (1 + 4 * i) = nI (L.2 i).1 ∧ ((L.2 i).1 < 3 → gA v 21 (1 + 4 * i + 1) = nI (L.2 i).2.1 ∧ gA v 21 (1 + 4 * i + 2) = nI (L.2 i).2.2.1) ∧ ((L.2 i).1 = 3 → gA v 21 (1 + 4 * i + 1) = nI (L.2 i).2.2.1) ∧ ((L.2 i).1 = 1 → gA v 21 (1 + 4 * i + 3) = nI (L.2 i).2.2.2)
def CT (w : GV) (T : TP) : Prop := gI w 6 = nI T.1 ∧ ∀ i, i < T.1 → gA w 0 i = nI (T.2 i)
def MT (v : GV) (T : TP) : Prop := gI v 2 = nI T.1 ∧ ∀ i, i < T.1 → gA v 1 i = nI (T.2 i)
def MBg (v : GV) (b : HP) : Prop := gA v 10 3 = nI (qn b) ∧ (∀ p, p < qn b → gA v 10 (30 + 4 * p) = (if p = 0 then mI 1 else nI (qs b p)) ∧ (p ≠ 0 → gA v 10 (30 + 4 * p + 1) = nI (qw b p) ∧ gA v 10 (30 + 4 * p + 2) = nI (fo (qw b p))) ∧ gA v 10 (30 + 4 * p + 3) = nI (qh b p)) ∧ ∀ t, t < 5 → gA v 10 (6 + (4 * t + 2)) = qc b t
def wds : List Nat := [984886, 37900956, 36179019, 6395136, 57, 173111, 561, 979184, 1178088, 392517628, 969456, 43890888, 407263, 36629013, 30050088, 969708, 14184879, 26704030, 30596128, 122289, 1722958223482, 3318, 19741, 1891, 573, 36229827, 1633, 434498, 30595897]
/-- where the class's parts lie, of which kind they are -/
def RP (p t d ln dl : Nat) (S : ST) : Prop := (gC (S p) = 11 ∧ gC (S (p + 1)) = 8 ∧ gC (S (p + 9)) = 3 ∧ gC (S (p + 16)) = 3 ∧ gC (S (p + 25)) = 9 ∧ gC (S (p + 29)) = 7 ∧ gC (S (p + 32)) = 10 ∧ gC (S (p + 33)) = 3) ∧ (gC (S t) = 1 ∧ gC (S d) = 1 ∧ gC (S (t + 8)) = 3 ∧ gC (S (d + 8)) = 3 ∧ gC (S ln) = 6 ∧ gC (S dl) = 6) ∧ (∀ i, i < 17 → gC (S (p + 83 + 7 * i)) = 3 ∧ gQ (S p) 4 i = some (p + 83 + 7 * i)) ∧ (∀ m, m < 4 → gC (S (p + 202 + 7 * m)) = 3 ∧ gQ (S p) 5 m = some (p + 202 + 7 * m)) ∧ (gR (S p) 12 = some t ∧ gR (S p) 13 = some d ∧ gR (S p) 14 = some ln ∧ gR (S p) 15 = some dl) ∧ ((t = p + 43 ∧ d = p + 58) ∨ (t = p + 58 ∧ d = p + 43)) ∧ ((ln = p + 73 ∧ dl = p + 78) ∨ (ln = p + 78 ∧ dl = p + 73)) ∧ gC (S (p + 6)) = 2 ∧ gR (S (p + 6)) 0 = some (p + 1) ∧ gC (S (p + 7)) = 5 ∧ gR (S (p + 7)) 0 = some (p + 1)
/-- what the class's parts hold -/
def RK (p t ln f : Nat) (S : ST) (A : AP) : Prop := CHL (S (p + 9)) (aQ A) ∧ CG S t (aG A) ∧ CN (S t) (aG A) (aN A) ∧ CHL (S (t + 8)) (aB A, (0, fun _ => 0, fun _ => 0)) ∧ (gI (S p) 16 = nI f ∧ f < 17 ∧ gI (S p) 17 = nI (aP A).1 ∧ ∀ i, i < (aP A).1 → CH (S (p + 83 + 7 * ((f + i) % 17))) ((aP A).2 i)) ∧ (gI (S p) 18 = nI (aM A).1 ∧ ∀ m, m < 4 → bt (aM A).1 m = 1 → CHL (S (p + 202 + 7 * m)) ((aM A).2 m)) ∧ CLn (S ln) (aL A) ∧ CT (S (p + 1)) (aT A)
def RC (p : Nat) (S : ST) (A : AP) : Prop := ∃ t d ln dl f, RP p t d ln dl S ∧ RK p t ln f S A
def RM (v : GV) (A : AP) : Prop := gC v = 12 ∧ MG v (aG A) ∧ MHL (gA v 24) (aQ A) ∧ (gI v 25 = nI (aP A).1 ∧ ∀ i, i < (aP A).1 → MH (fun k => gA v 24 (66 * (5 + i) + k)) ((aP A).2 i)) ∧ (∀ m, m < 4 → gA v 26 m = nI (bt (aM A).1 m) ∧ (bt (aM A).1 m = 1 → MHL (fun k => gA v 24 (66 * (1 + m) + k)) ((aM A).2 m))) ∧ MBg v (aB A) ∧ MLn v (aL A) ∧ MT v (aT A) ∧ MN v (aG A) (aN A) ∧ (∀ i, i < 29 → gL v 9 i = lN (wds.getD i 0)) ∧ ∀ i, i < 5 → gA v 32 i = nI 0
/-- class and model are alike -/
def RR (p : Nat) (S : ST) (v : GV) : Prop := ∃ A, okA A ∧ RC p S A ∧ RM v A
/-! what a question may change -/
def scr (p : Nat) (S S' : ST) : Prop := (∀ b, b ≠ p → b ≠ p + 16 → b ≠ p + 25 → b ≠ p + 29 → b ≠ p + 32 → b ≠ p + 33 → S' b = S b ∨ (gC (S b) = 4 ∧ ∃ P, S' b = sAf (S b) 1 P)) ∧ (∀ b, gC (S' b) = gC (S b)) ∧ (∀ k, gI (S' p) k = gI (S p) k) ∧ (∀ k, gR (S' p) k = gR (S p) k) ∧ ∀ k, gQ (S' p) k = gQ (S p) k
theorem scr_at {p : Nat} {S S' : ST} (h : scr p S S') {b : Nat} (h1 : b ≠ p) (h2 : b ≠ p + 16) (h3 : b ≠ p + 25) (h4 : b ≠ p + 29) (h5 : b ≠ p + 32) (h6 : b ≠ p + 33) (hc : gC (S b) ≠ 4) : S' b = S b := by
  rcases h.1 b h1 h2 h3 h4 h5 h6 with e | ⟨c, _⟩
  · exact e
  · exact absurd c hc
theorem scr_lw {p : Nat} {S S' : ST} (h : lw S S') (hp : gC (S p) ≠ 4) : scr p S S' := by
  have e := lw_at h hp
  exact ⟨fun b _ _ _ _ _ _ => h b, fun b => lw_gC h b, fun k => by rw [e], fun k => by rw [e], fun k => by rw [e]⟩
theorem scr_refl (p : Nat) (S : ST) : scr p S S := ⟨fun _ _ _ _ _ _ _ => Or.inl rfl, fun _ => rfl, fun _ => rfl, fun _ => rfl, fun _ => rfl⟩
theorem scr_trans {p : Nat} {S S' S2 : ST} (h : scr p S S') (k : scr p S' S2) : scr p S S2 := by
  refine ⟨fun b h1 h2 h3 h4 h5 h6 => ?_, fun b => (k.2.1 b).trans (h.2.1 b), fun j => (k.2.2.1 j).trans (h.2.2.1 j), fun j => (k.2.2.2.1 j).trans (h.2.2.2.1 j), fun j => (k.2.2.2.2 j).trans (h.2.2.2.2 j)⟩
  rcases h.1 b h1 h2 h3 h4 h5 h6 with e | ⟨c, P, e⟩
  · rcases k.1 b h1 h2 h3 h4 h5 h6 with e2 | ⟨c2, P2, e2⟩
    · exact Or.inl (e2.trans e)
    · rw [e] at e2 c2; exact Or.inr ⟨c2, P2, e2⟩
  · refine Or.inr ⟨c, ?_⟩
    rcases k.1 b h1 h2 h3 h4 h5 h6 with e2 | ⟨c2, P2, e2⟩
    · exact ⟨P, e2.trans e⟩
    · refine ⟨P2, ?_⟩
      rw [e2, e, sAf_sAf]
/-- an object of the scratch has changed -/
theorem scr_st {p : Nat} {S S' : ST} (h : scr p S S') {b : Nat} {w : GV} (hb : b = p + 16 ∨ b = p + 25 ∨ b = p + 29 ∨ b = p + 32 ∨ b = p + 33) (hc : gC w = gC (S' b)) : scr p S (st S' b w) := by
  have hp : p ≠ b := by omega
  refine ⟨fun x h1 h2 h3 h4 h5 h6 => ?_, fun x => ?_, fun k => ?_, fun k => ?_, fun k => ?_⟩
  · rw [st_ne _ _ (by omega)]; exact h.1 x h1 h2 h3 h4 h5 h6
  · by_cases e : x = b
    · subst e; rw [st_same, hc]; exact h.2.1 x
    · rw [st_ne _ _ e]; exact h.2.1 x
  · rw [st_ne _ _ hp]; exact h.2.2.1 k
  · rw [st_ne _ _ hp]; exact h.2.2.2.1 k
  · rw [st_ne _ _ hp]; exact h.2.2.2.2 k
/-- a hall of the scratch has changed, and laws' piles -/
theorem scr_fra {p b : Nat} {S S' S2 : ST} (h : scr p S S') (k : fra b S' S2) (hb : b = p + 16 ∨ b = p + 25 ∨ b = p + 29 ∨ b = p + 32 ∨ b = p + 33) (hp : gC (S' p) ≠ 4) : scr p S S2 := by
  have hpb : p ≠ b := by omega
  have ep := fra_at k hpb hp
  refine scr_trans h ⟨fun x h1 h2 h3 h4 h5 h6 => k.1 x (by omega), fun x => fra_gC k x, fun j => by rw [ep], fun j => by rw [ep], fun j => by rw [ep]⟩
theorem CG_scr {p t : Nat} {S S' : ST} {G : GP} (h : CG S t G) (k : scr p S S') (h0 : gC (S p) = 11 ∧ gC (S (p + 16)) = 3 ∧ gC (S (p + 25)) = 9 ∧ gC (S (p + 29)) = 7 ∧ gC (S (p + 32)) = 10 ∧ gC (S (p + 33)) = 3) : CG S' t G := by
  obtain ⟨e0, e1, e2, e3, e4, e5⟩ := h0
  have key : ∀ b x, gC (S b) = x → x = 1 ∨ x = 4 → b ≠ p ∧ b ≠ p + 16 ∧ b ≠ p + 25 ∧ b ≠ p + 29 ∧ b ≠ p + 32 ∧ b ≠ p + 33 := by
    intro b x hb hx
    refine ⟨?_, ?_, ?_, ?_, ?_, ?_⟩ <;> (rintro rfl; omega)
  have hL : ∀ {r : Option Nat} {th : Nat} {f d : Int32 → Int32 → Int32 → Int32}, CL S r th f d → CL S' r th f d := by
    intro r th f d h
    rcases h with h | ⟨x, op, arg, fr, len, h1, h2, h3, h4⟩
    · exact Or.inl h
    · refine Or.inr ⟨x, op, arg, fr, len, h1, ?_, h3, h4⟩
      obtain ⟨k0, k1, k2, k3, k4, k5⟩ := key x 4 h2.1 (Or.inr rfl)
      rcases k.1 x k0 k1 k2 k3 k4 k5 with e | ⟨_, P, e⟩
      · rw [e]; exact h2
      · rw [e]; exact LC_pile h2 P
  obtain ⟨k0, k1, k2, k3, k4, k5⟩ := key t 1 h.1 (Or.inl rfl)
  have e := scr_at k k0 k1 k2 k3 k4 k5 (by rw [h.1]; decide)
  obtain ⟨h1, h2, h3, h4, h5, h6, h7, h8⟩ := h
  rw [CG, e]
  exact ⟨h1, h2, h3, h4, h5, h6, hL h7, hL h8⟩
theorem RC_scr {p : Nat} {S S' : ST} {A : AP} (h : RC p S A) (k : scr p S S') : RC p S' A := by
  obtain ⟨t, d, ln, dl, f, ⟨⟨a1, a2, a3, a4, a5, a6, a7, a8⟩, ⟨b1, b2, b3, b4, b5, b6⟩, c, m, ⟨r1, r2, r3, r4⟩, td, ll, g1, g2, g3, g4⟩, K1, K2, K3, K4, ⟨K5, K6, K7, K8⟩, ⟨K9, K10⟩, K11, K12⟩ := h
  have et : S' t = S t := scr_at k (by omega) (by omega) (by omega) (by omega) (by omega) (by omega) (by rw [b1]; decide)
  have et8 : S' (t + 8) = S (t + 8) := scr_at k (by omega) (by omega) (by omega) (by omega) (by omega) (by omega) (by rw [b3]; decide)
  have e9 : S' (p + 9) = S (p + 9) := scr_at k (by omega) (by omega) (by omega) (by omega) (by omega) (by omega) (by rw [a3]; decide)
  have e1 : S' (p + 1) = S (p + 1) := scr_at k (by omega) (by omega) (by omega) (by omega) (by omega) (by omega) (by rw [a2]; decide)
  have e6 : S' (p + 6) = S (p + 6) := scr_at k (by omega) (by omega) (by omega) (by omega) (by omega) (by omega) (by rw [g1]; decide)
  have e7 : S' (p + 7) = S (p + 7) := scr_at k (by omega) (by omega) (by omega) (by omega) (by omega) (by omega) (by rw [g3]; decide)
  have el : S' ln = S ln := scr_at k (by omega) (by omega) (by omega) (by omega) (by omega) (by omega) (by rw [b5]; decide)
  have ep : ∀ i, i < 17 → S' (p + 83 + 7 * i) = S (p + 83 + 7 * i) := fun i hi => scr_at k (by omega) (by omega) (by omega) (by omega) (by omega) (by omega) (by rw [(c i hi).1]; decide)
  have em : ∀ i, i < 4 → S' (p + 202 + 7 * i) = S (p + 202 + 7 * i) := fun i hi => scr_at k (by omega) (by omega) (by omega) (by omega) (by omega) (by omega) (by rw [(m i hi).1]; decide)
  have hc := k.2.1
  refine ⟨t, d, ln, dl, f, ⟨⟨by rw [hc]; exact a1, by rw [hc]; exact a2, by rw [hc]; exact a3, by rw [hc]; exact a4, by rw [hc]; exact a5, by rw [hc]; exact a6, by rw [hc]; exact a7, by rw [hc]; exact a8⟩, ⟨by rw [hc]; exact b1, by rw [hc]; exact b2, by rw [hc]; exact b3, by rw [hc]; exact b4, by rw [hc]; exact b5, by rw [hc]; exact b6⟩, fun i hi => ⟨by rw [hc]; exact (c i hi).1, by rw [k.2.2.2.2]; exact (c i hi).2⟩, fun i hi => ⟨by rw [hc]; exact (m i hi).1, by rw [k.2.2.2.2]; exact (m i hi).2⟩, ⟨by rw [k.2.2.2.1]; exact r1, by rw [k.2.2.2.1]; exact r2, by rw [k.2.2.2.1]; exact r3, by rw [k.2.2.2.1]; exact r4⟩, td, ll, by rw [e6]; exact g1, by rw [e6]; exact g2, by rw [e7]; exact g3, by rw [e7]; exact g4⟩, by rw [e9]; exact K1, CG_scr K2 k ⟨a1, a4, a5, a6, a7, a8⟩, by rw [et]; exact K3, by rw [et8]; exact K4, ⟨by rw [k.2.2.1]; exact K5, K6, by rw [k.2.2.1]; exact K7, fun i hi => by rw [ep _ (Nat.mod_lt _ (by decide))]; exact K8 i hi⟩, ⟨by rw [k.2.2.1]; exact K9, fun i hi h1 => by rw [em i hi]; exact K10 i hi h1⟩, by rw [el]; exact K11, by rw [e1]; exact K12⟩
/-- what a question may change in the model -/
def mscr (v v' : GV) : Prop := (∀ k, k = 1 ∨ k = 10 ∨ k = 11 ∨ k = 12 ∨ k = 16 ∨ k = 21 ∨ k = 26 ∨ k = 32 → gA v' k = gA v k) ∧ (∀ x, x < 1386 → gA v' 24 x = gA v 24 x) ∧ gI v' 2 = gI v 2 ∧ gI v' 18 = gI v 18 ∧ gI v' 25 = gI v 25 ∧ gL v' 9 = gL v 9 ∧ gL v' 14 = gL v 14 ∧ gC v' = gC v
theorem mscr_refl (v : GV) : mscr v v := ⟨fun _ _ => rfl, fun _ _ => rfl, rfl, rfl, rfl, rfl, rfl, rfl⟩
theorem mscr_trans {v v' w : GV} (h : mscr v v') (k : mscr v' w) : mscr v w := by
  obtain ⟨h1, h2, h3, h4, h5, h6, h7, h8⟩ := h
  obtain ⟨k1, k2, k3, k4, k5, k6, k7, k8⟩ := k
  exact ⟨fun j hj => (k1 j hj).trans (h1 j hj), fun x hx => (k2 x hx).trans (h2 x hx), k3.trans h3, k4.trans h4, k5.trans h5, k6.trans h6, k7.trans h7, k8.trans h8⟩
theorem MH_ext {h h' : Nat → Int32} {q : HP} (e : ∀ k, k < 48 → h' k = h k) (hn : qn q ≤ 8) (m : MH h q) : MH h' q := by
  obtain ⟨c1, c2, c3, c4, c5⟩ := m
  refine ⟨by rw [e _ (by omega)]; exact c1, by rw [e _ (by omega)]; exact c2, by rw [e _ (by omega)]; exact c3, fun p hp => ?_, fun t ht => by rw [e _ (by omega)]; exact c5 t ht⟩
  rw [e _ (by omega), e _ (by omega), e _ (by omega), e _ (by omega), e _ (by omega)]
  exact c4 p hp
theorem MHL_ext {h h' : Nat → Int32} {Q : QL} {G : GP} (e : ∀ k, k < 66 → h' k = h k) (hQ : okQ G Q) (m : MHL h Q) : MHL h' Q := by
  have := hQ.2.1
  have := hQ.1.1.2.1
  refine ⟨MH_ext (fun k hk => e k (by omega)) (by omega) m.1, by rw [e _ (by omega)]; exact m.2.1, fun i hi => ?_⟩
  rw [e _ (by omega), e _ (by omega)]; exact m.2.2 i hi
theorem RM_mscr {v v' : GV} {A : AP} (hA : okA A) (h : RM v A) (k : mscr v v') : RM v' A := by
  obtain ⟨o1, o2, ⟨o3, o4⟩, ⟨o5, o6⟩, o7, o8, o9⟩ := hA
  obtain ⟨h0, h1, h2, ⟨h3, h4⟩, h5, h6, h7, h8, ⟨n, cd, ty, n1, n2, n3⟩, h10, h11⟩ := h
  obtain ⟨k1, k2, k3, k4, k5, k6, k7, k8⟩ := k
  have e1 := k1 1 (by omega)
  have e10 := k1 10 (by omega)
  have e16 := k1 16 (by omega)
  have e21 := k1 21 (by omega)
  have e26 := k1 26 (by omega)
  refine ⟨k8.trans h0, MG_of h1 e10 (k1 11 (by omega)) (k1 12 (by omega)), MHL_ext (fun j hj => k2 j (by omega)) o2 h2, ⟨k5.trans h3, fun i hi => MH_ext (fun j hj => k2 _ (by omega)) (o4 i hi).1.2.1 (h4 i hi)⟩, fun m hm => ⟨by rw [e26]; exact (h5 m hm).1, fun hb => MHL_ext (fun j hj => k2 _ (by omega)) (o6 m hm hb) ((h5 m hm).2 hb)⟩, ?_, ?_, ?_, ⟨n, cd, ty, n1, k4.trans n2, fun j hj => by rw [k7, e16]; exact n3 j hj⟩, fun i hi => by rw [k6]; exact h10 i hi, fun i hi => by rw [k1 32 (by omega)]; exact h11 i hi⟩
  · rw [MBg, e10]; exact h6
  · rw [MLn, e21]; exact h7
  · rw [MT, e1, k3]; exact h8
theorem mscr_sI {v v' : GV} (h : mscr v v') {k : Nat} {x : Int32} (h1 : k ≠ 2) (h2 : k ≠ 18) (h3 : k ≠ 25) : mscr v (sI v' k x) := by
  obtain ⟨k1, k2, k3, k4, k5, k6, k7, k8⟩ := h
  exact ⟨k1, k2, by rw [gI_sI, if_neg (by omega)]; exact k3, by rw [gI_sI, if_neg (by omega)]; exact k4, by rw [gI_sI, if_neg (by omega)]; exact k5, k6, k7, k8⟩
theorem mscr_sJ {v v' : GV} (h : mscr v v') {k : Nat} {x : Int64} : mscr v (sJ v' k x) := h
theorem mscr_sAf {v v' : GV} (h : mscr v v') {k : Nat} {f : Nat → Int32} (h1 : k ≠ 1 ∧ k ≠ 10 ∧ k ≠ 11 ∧ k ≠ 12 ∧ k ≠ 16 ∧ k ≠ 21 ∧ k ≠ 26 ∧ k ≠ 24 ∧ k ≠ 32) : mscr v (sAf v' k f) := by
  obtain ⟨k1, k2, k3, k4, k5, k6, k7, k8⟩ := h
  exact ⟨fun j hj => by rw [gA_sAfn _ _ (by omega)]; exact k1 j hj, fun x hx => by rw [gA_sAfn _ _ (by omega)]; exact k2 x hx, k3, k4, k5, k6, k7, k8⟩
theorem mscr_sA {v v' : GV} (h : mscr v v') {k i : Nat} {x : Int32} (h1 : k ≠ 1 ∧ k ≠ 10 ∧ k ≠ 11 ∧ k ≠ 12 ∧ k ≠ 16 ∧ k ≠ 21 ∧ k ≠ 26 ∧ k ≠ 24 ∧ k ≠ 32) : mscr v (sA v' k i x) := mscr_sAf h h1
theorem mscr_mb {v v' : GV} (h : mscr v v') {b : Nat} {f : Nat → Int32} (hb : 1386 ≤ b) : mscr v (mb v' b f) := by
  obtain ⟨k1, k2, k3, k4, k5, k6, k7, k8⟩ := h
  exact ⟨fun j hj => by rw [mb_A (by omega)]; exact k1 j hj, fun x hx => by rw [mb_ro (by omega)]; exact k2 x hx, k3, k4, k5, k6, k7, k8⟩
theorem mscr_mv {v v' : GV} (h : mscr v v') {b : Nat} {F P f : Nat → Int32} (hb : 1386 ≤ b) : mscr v (mv v' b F P f) := mscr_mb (mscr_sAf (mscr_sAf h (by omega)) (by omega)) hb
/-- the block of what is now, with other facts and another pile -/
theorem mscr_mv0 {v v' : GV} (h : mscr v v') {F P : Nat → Int32} : mscr v (mv v' 0 F P (gA v' 24)) := by
  have e : mv v' 0 F P (gA v' 24) = sAf (sAf v' 22 F) 23 P := by
    have := mb_self (v := sAf (sAf v' 22 F) 23 P) (b := 0)
    rw [gA_sAfn _ _ (by decide), gA_sAfn _ _ (by decide)] at this
    simp only [Nat.zero_add] at this
    exact this
  rw [e]
  exact mscr_sAf (mscr_sAf h (by omega)) (by omega)
