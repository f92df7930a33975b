/-! ===== making: new cells, objects in the making, their forming ===== -/
def blk (c : Nat) : GV := (c, fun _ => 0, fun _ _ => 0, fun _ => 0, fun _ _ => 0, fun _ => none, fun _ _ => none, fun _ => 0)
/-- an array by itself, of n places: t 1 int, 2 long, 3 char, 4 boolean, 5 halls -/
def barr (t n : Nat) : GV := (23 + t + 1, fun _ => 0, fun _ _ => 0, fun _ => 0, fun _ _ => 0, fun _ => none, fun _ _ => none, fun _ => n)
def rawo (ci : Nat) : GV := blk (12 + ci + 1)
theorem ow_big {c x : Nat} (h : ¬ c < 24) (hx : ow c x) : x = 0 := by
  rcases hx with h1 | ⟨k, hk, -⟩
  · exact h1
  · exact absurd (nf_lt hk) h
theorem raw_no : ((List.range 12).all fun c => (List.range (nf (12 + c))).all fun k => decide ((ds (12 + c) k).1 = 0) || decide ((ds (12 + c) k).1 = 1) || decide ((ds (12 + c) k).1 = 4)) = true := by decide +kernel
theorem raw_tag {c k : Nat} (hc : c < 12) (hk : k < nf (12 + c)) : (ds (12 + c) k).1 = 0 ∨ (ds (12 + c) k).1 = 1 ∨ (ds (12 + c) k).1 = 4 := by
  have h := List.all_eq_true.mp (List.all_eq_true.mp raw_no c (List.mem_range.mpr hc)) k (List.mem_range.mpr hk)
  simp only [Bool.or_eq_true, decide_eq_true_eq] at h
  rcases h with (h | h) | h
  · exact Or.inl h
  · exact Or.inr (Or.inl h)
  · exact Or.inr (Or.inr h)
theorem ow_raw {c x : Nat} (hc : c < 12) (hx : ow (12 + c) x) : x = 0 := by
  rcases hx with h1 | ⟨k, hk, h2, -⟩
  · exact h1
  · rcases raw_tag hc hk with h | h | h <;> omega
theorem BW.lt {G : GG} {S : ST} {H : Heap} (h : BW G S H) {b d x : Nat} (hb : gC (S b) = d + 1) (hx : ow d x) : b + x < H.size := by
  obtain ⟨-, h1, h2⟩ := h.1 b d hb
  rcases hx with rfl | ⟨k, hk, hk2, rfl⟩
  · exact h1.lt
  · exact (h2 k hk hk2).lt
/-- a new group at the heap's end, of one cell -/
theorem BW.new {G : GG} {S : ST} {H H1 : Heap} (h : BW G S H) (hz : G.2.2.1 ≤ H.size ∧ G.2.2.2.2 ≤ H.size) (o1 : ∀ q, q < H.size → H1[q]? = H[q]?) {w : GV} {c : Nat} (hc : gC w = c + 1) (how : ∀ x, ow c x → x = 0) (hg : grp G H.size c w H1) : BW G (st S H.size w) H1 ∧ ∀ b, gC (S b) ≠ 0 → gC (st S H.size w b) = gC (S b) := by
  have hne : ∀ b d, gC (S b) = d + 1 → b ≠ H.size := fun b d hb e => by
    have := h.lt hb (Or.inl rfl : ow d 0)
    omega
  refine ⟨⟨fun b d hb => ?_, fun a b d d' ha hb hab x y hx hy => ?_⟩, fun b hb => ?_⟩
  · by_cases e : b = H.size
    · subst e
      rw [st_same] at hb ⊢
      have : d = c := by omega
      subst this
      exact ⟨fun x hx => by rw [how x hx]; exact ⟨hz.1, Or.inr hz.2⟩, hg⟩
    · rw [st_ne _ _ e] at hb ⊢
      obtain ⟨g1, g2, g3⟩ := h.1 b d hb
      exact ⟨g1, g2.kept (o1 _ g2.lt), fun k hk hk2 => (g3 k hk hk2).kept (o1 _ (g3 k hk hk2).lt)⟩
  · by_cases e : a = H.size
    · subst e
      by_cases e2 : b = H.size
      · exact absurd e2.symm hab
      · rw [st_same] at ha
        rw [st_ne _ _ e2] at hb
        have h1 := h.lt hb hy
        have : d = c := by omega
        subst this
        rw [how x hx]
        omega
    · rw [st_ne _ _ e] at ha
      by_cases e2 : b = H.size
      · subst e2
        rw [st_same] at hb
        have h1 := h.lt ha hx
        have : d' = c := by omega
        subst this
        rw [how y hy]
        omega
      · rw [st_ne _ _ e2] at hb
        exact h.2 a b d d' ha hb hab x y hx hy
  · rw [st_ne _ _ (hne b (gC (S b) - 1) (by omega))]
section MAKE
variable {G : GG} {p : Program} {l : Launch} {e : Env} {R : Room} {s : State} {m : MethodId} {args : Array Value} {below : List Frame} {meth : Method} {c : Code} {H : Heap} {locs : List Loc} {cells slots : Nat} {Q : State → Prop}
variable {cc : ByteArray} {pc : Nat} {ls : Array Slot} {rest : List Value} {Ts : List Cond} {own : String} {S : ST} {v : GV} {a : Nat}
theorem W.size {g : JFrame} (kk : H.size ≤ s.heap.size + cells → W p l e R s m args below meth c H locs cells slots Q g) : W p l e R s m args below meth c H locs cells slots Q g := fun T hT X => kk (by rw [← hT]; exact X.same.2.2.1) T hT X
theorem WB.grow {S1 : ST} {H1 : Heap} (hW : WB G S s H locs) (h : BW G S1 H1) (z : H1.size = H.size + 1) (o1 : ∀ q, q < H.size → H1[q]? = H[q]?) : WB G S1 s H1 locs := ⟨h, ⟨Nat.le_trans hW.2.1 (by omega), fun q h1 h2 => (o1 q (Nat.lt_of_lt_of_le h1 hW.2.1)).trans (hW.2.2.1 q h1 h2), hW.2.2.2⟩⟩
def tyOf (t : Nat) : FieldType := if t = 1 then .int else if t = 2 then .long else if t = 3 then .char else .boolean
theorem m_newa (hM : MC G p s m args c cc Ts own) (hW : WB G S s H locs) {h : Nat} (hz : H.size = h) (t : Nat) (ht : 0 < t ∧ t < 5) {atype : ArrayType} (hty : newarray.typeOf atype = tyOf t) (hl : Cond.arrayClass (tyOf t) ∈ Ts) {n : Int32} (N : Nat) (hn : ¬ n < 0) (hN : n.toNatClampNeg = N) (hbytes : N * componentBytes (tyOf t) ≤ 536870912) (hcells : cells + 1 ≤ R.cells) (hslots : slots + N ≤ R.slots) (hdg : decode cc pc = .ok (.newarray atype, 2))
    (kk : ∀ (S1 : ST), S1 = st S h (barr t N) → (∀ b, gC (S b) ≠ 0 → gC (S1 b) = gC (S b)) → gC (S1 h) = 23 + t + 1 → ∀ (H1 : Heap), H1.size = h + 1 → WB G S1 s H1 locs → W p l e R s m args below meth c H1 locs (cells + 1) (slots + N) Q (F0 m (pc + 2) ls (.ref h :: rest))) : W p l e R s m args below meth c H locs cells slots Q (F0 m pc ls (.int n :: rest)) := by
  obtain ⟨hexec, hb, hown, hts, hK, h6⟩ := hM
  subst hz
  refine va_newaK hexec hb (by rw [hty]; exact hts _ hl) rfl hdg rfl hn hN (by rw [hty]; exact hbytes) hcells hslots rfl fun H1 cA e1 z1 o1 hAr hNm => ?_
  rw [hty] at e1 hNm
  have hcA : cA = G.2.1 t := by
    rcases (show t = 1 ∨ t = 2 ∨ t = 3 ∨ t = 4 by omega) with rfl | rfl | rfl | rfl
    · exact Option.some.inj (hNm.symm.trans (hK.2 0 _ rfl).2)
    · exact Option.some.inj (hNm.symm.trans (hK.2 1 _ rfl).2)
    · exact Option.some.inj (hNm.symm.trans (hK.2 2 _ rfl).2)
    · exact Option.some.inj (hNm.symm.trans (hK.2 3 _ rfl).2)
  subst hcA
  have hg : grp G H.size (23 + t) (barr t N) H1 := by
    refine ⟨?_, fun k hk => absurd (nf_lt hk) (by omega)⟩
    rcases (show t = 1 ∨ t = 2 ∨ t = 3 ∨ t = 4 by omega) with rfl | rfl | rfl | rfl
    · exact e1
    · exact e1
    · exact e1
    · exact e1
  obtain ⟨hB, hkp⟩ := hW.1.new ⟨Nat.le_trans h6.1.1.1 hW.2.1, Nat.le_trans h6.1.1.2 hW.2.1⟩ o1 (w := barr t N) rfl (fun x => ow_big (by omega)) hg
  exact kk _ rfl hkp (by rw [st_same]; rfl) H1 z1 (hW.grow hB z1 o1)
theorem m_newq (hM : MC G p s m args c cc Ts own) (hW : WB G S s H locs) {h index : Nat} (hz : H.size = h) (hl : Cond.classLink own index RX3 ∈ Ts) {n : Int32} (N : Nat) (hn : ¬ n < 0) (hN : n.toNatClampNeg = N) (hbytes : N * 4 ≤ 536870912) (hcells : cells + 1 ≤ R.cells) (hslots : slots + N ≤ R.slots) (hdg : decode cc pc = .ok (.anewarray index, 3))
    (kk : ∀ (S1 : ST), S1 = st S h (barr 5 N) → (∀ b, gC (S b) ≠ 0 → gC (S1 b) = gC (S b)) → gC (S1 h) = 23 + 5 + 1 → ∀ (H1 : Heap), H1.size = h + 1 → WB G S1 s H1 locs → W p l e R s m args below meth c H1 locs (cells + 1) (slots + N) Q (F0 m (pc + 3) ls (.ref h :: rest))) : W p l e R s m args below meth c H locs cells slots Q (F0 m pc ls (.int n :: rest)) := by
  obtain ⟨hexec, hb, hown, hts, hK, h6⟩ := hM
  subst hz hN
  refine W.anew hexec hb hown (hts _ hl) (va_AO.use h6.1.2.2.1) rfl hdg rfl hn hbytes hcells hslots fun cA kA comp f1 f2 f3 f4 => ?_
  generalize hH1 : H.push ({ cls := cA, slots := Array.replicate n.toNatClampNeg .null, vm := .none } : Cell) = H1
  have z1 : H1.size = H.size + 1 := by rw [← hH1, Array.size_push]
  have e1 : H1[H.size]? = some (arrV cA n.toNatClampNeg (fun _ => .null)) := by rw [← hH1, Array.getElem?_push_size, ← arrV_new]
  have o1 : ∀ q : Nat, q < H.size → H1[q]? = H[q]? := fun q hq => by rw [← hH1, Array.getElem?_push, if_neg (Nat.ne_of_lt hq)]
  have hcA : cA = G.2.1 5 := by
    obtain ⟨-, -, -, -, -, k4⟩ := (hK.2 4 _ rfl).2
    exact Option.some.inj (f1.symm.trans k4)
  subst hcA
  have hg : grp G H.size (23 + 5) (barr 5 n.toNatClampNeg) H1 := ⟨e1, fun k hk => absurd (nf_lt hk) (by omega)⟩
  obtain ⟨hB, hkp⟩ := hW.1.new ⟨Nat.le_trans h6.1.1.1 hW.2.1, Nat.le_trans h6.1.1.2 hW.2.1⟩ o1 (w := barr 5 n.toNatClampNeg) rfl (fun x => ow_big (by omega)) hg
  exact kk _ rfl hkp (by rw [st_same]; rfl) H1 z1 (hW.grow hB z1 o1)
def dfv (c k : Nat) : Value := if (ds c k).1 = 0 then .int 0 else if (ds c k).1 = 1 then .long 0 else .null
theorem m_new (hM : MC G p s m args c cc Ts own) (hW : WB G S s H locs) {h index : Nat} (hz : H.size = h) (ci : Nat) {C : String} {T : u_T} {N : Nat} (hci : ci < 12) (hcl : vwCl[ci]? = some (C, T, N)) (hN : N = nf (12 + ci)) (hin : ∀ w ∈ u_ws C T N, w ∈ Ts) (ty0 : Nat → FieldType) (hty : ∀ k, k < N → parseFieldDescriptor (T k).2.2.1 = some (ty0 k)) (hdf : ((List.range N).all fun j => decide (defaultValue (ty0 j) = dfv (12 + ci) j)) = true) (hl1 : Cond.classLink own index C ∈ Ts) (hl2 : Cond.instantiable C N ∈ Ts) (hl3 : Cond.initialized C ∈ Ts) (hcells : cells + 1 ≤ R.cells) (hslots : slots + N ≤ R.slots) (hdg : decode cc pc = .ok (.new index, 3))
    (kk : ∀ (S1 : ST), S1 = st S h (rawo ci) → (∀ b, gC (S b) ≠ 0 → gC (S1 b) = gC (S b)) → gC (S1 h) = 12 + ci + 1 → ∀ (H1 : Heap), H1.size = h + 1 → WB G S1 s H1 locs → W p l e R s m args below meth c H1 locs (cells + 1) (slots + N) Q (F0 m (pc + 3) ls (.ref h :: rest))) : W p l e R s m args below meth c H locs cells slots Q (F0 m pc ls rest) := by
  obtain ⟨hexec, hb, hown, hts, hK, h6⟩ := hM
  subst hz
  have hKn := hK.1 ci _ hcl
  refine W.newcK hexec hb hown (hts _ hl1) (hts _ hl2) (hts _ hl3) rfl hdg hcells hslots hKn.2.1 rfl fun H1 kC hkC e1 z1 o1 => ?_
  have hg : grp G H.size (12 + ci) (rawo ci) H1 := by
    refine ⟨?_, fun k hk hk2 => ?_⟩
    · rw [hdE_o (by omega)]
      refine ⟨_, (show vwCl[(12 + ci) % 12]? = some (C, T, N) by rw [show (12 + ci) % 12 = ci by omega]; exact hcl), ?_⟩
      have hob := u_born ty0 hts hin hKn hkC e1 hty
      rw [show (12 + ci) % 12 = ci by omega]
      refine hob.to (fun j hj => ?_)
      have h1 := List.all_eq_true.mp hdf j (List.mem_range.mpr hj)
      rw [of_decide_eq_true h1]
      have hj' : j < nf (12 + ci) := hN ▸ hj
      show dfv (12 + ci) j = (flds G (12 + ci) H.size (rawo ci)).getD j .null
      rw [List.getD_eq_getElem?_getD, flds_at hj']
      rcases raw_tag hci hj' with h | h | h <;> simp [dfv, fvl, h, rawo, blk, gI, gJ, gR, va_rf]
    · rcases raw_tag hci hk with h | h | h <;> omega
  obtain ⟨hB, hkp⟩ := hW.1.new ⟨Nat.le_trans h6.1.1.1 hW.2.1, Nat.le_trans h6.1.1.2 hW.2.1⟩ o1 (w := rawo ci) (c := 12 + ci) rfl (fun x => ow_raw hci) hg
  exact kk _ rfl hkp (by rw [st_same]; rfl) H1 z1 (hW.grow hB z1 o1)
end MAKE
