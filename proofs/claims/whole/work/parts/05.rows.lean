section ROWS2
variable {G : GG} {p : Program} {l : Launch} {e : Env} {R : Room} {s : State} {m : MethodId} {args : Array Value} {below : List Frame} {meth : Method} {c : Code} {H : Heap} {locs : List Loc} {cells slots : Nat} {Q : State → Prop}
variable {cc : ByteArray} {pc : Nat} {ls : Array Slot} {rest st0 : List Value} {Ts : List Cond} {own : String} {S : ST} {v : GV} {a : Nat}
def inb (i : Int32) (n : Nat) : Bool := decide (¬ i < 0) && decide (i.toNatClampNeg < n)
theorem inb_in {i : Int32} {n : Nat} (h : inb i n = true) : vp_in i n := by
  simp only [inb, Bool.and_eq_true, decide_eq_true_eq] at h
  intro q
  rcases q with q | q
  · exact h.1 q
  · omega
theorem b_iald (hM : MC G p s m args c cc Ts own) (hW : WB G (st S a v) s H locs) (ci k : Nat) (hc : gC v = ci + 1) (hk : k < nf ci) (ht : (ds ci k).1 = 2) (ha : (ds ci k).2.2.1 = 1) {n o : Nat} (ho : (ds ci k).2.1 = o) (hn : alen ci k v = n) {i : Int32} (hin : inb i n = true) (hdg : decode cc pc = .ok (.iaload, 1))
    (kk : W p l e R s m args below meth c H locs cells slots Q (F0 m (pc + 1) ls (.int (gA v k i.toNatClampNeg) :: rest))) : W p l e R s m args below meth c H locs cells slots Q (F0 m pc ls (.int i :: .ref (a + o) :: rest)) := by
  obtain ⟨h1, h2, h3, h4, h5, h6⟩ := hM
  have hg := (hW.1.at hc).2.2 k hk ht
  subst ho hn
  rw [ha, show acont ci k v = .inl (gA v k) by simp [acont, ha]] at hg
  exact va_iald h1 h2 h5 (va_P1 hg) 0 0 rfl rfl (inb_in hin) hdg kk
theorem b_cald (hM : MC G p s m args c cc Ts own) (hW : WB G (st S a v) s H locs) (ci k : Nat) (hc : gC v = ci + 1) (hk : k < nf ci) (ht : (ds ci k).1 = 2) (ha : (ds ci k).2.2.1 = 3) {n o : Nat} (ho : (ds ci k).2.1 = o) (hn : alen ci k v = n) {i : Int32} (hin : inb i n = true) (hdg : decode cc pc = .ok (.caload, 1))
    (kk : W p l e R s m args below meth c H locs cells slots Q (F0 m (pc + 1) ls (.int (gA v k i.toNatClampNeg) :: rest))) : W p l e R s m args below meth c H locs cells slots Q (F0 m pc ls (.int i :: .ref (a + o) :: rest)) := by
  obtain ⟨h1, h2, h3, h4, h5, h6⟩ := hM
  have hg := (hW.1.at hc).2.2 k hk ht
  subst ho hn
  rw [ha, show acont ci k v = .inl (gA v k) by simp [acont, ha]] at hg
  exact va_cald h1 h2 h5 (va_P1 hg) 0 2 rfl rfl (inb_in hin) hdg kk
theorem b_zald (hM : MC G p s m args c cc Ts own) (hW : WB G (st S a v) s H locs) (ci k : Nat) (hc : gC v = ci + 1) (hk : k < nf ci) (ht : (ds ci k).1 = 2) (ha : (ds ci k).2.2.1 = 4) {n o : Nat} (ho : (ds ci k).2.1 = o) (hn : alen ci k v = n) {i : Int32} (hin : inb i n = true) (hdg : decode cc pc = .ok (.baload, 1))
    (kk : W p l e R s m args below meth c H locs cells slots Q (F0 m (pc + 1) ls (.int (gA v k i.toNatClampNeg) :: rest))) : W p l e R s m args below meth c H locs cells slots Q (F0 m pc ls (.int i :: .ref (a + o) :: rest)) := by
  obtain ⟨h1, h2, h3, h4, h5, h6⟩ := hM
  have hg := (hW.1.at hc).2.2 k hk ht
  subst ho hn
  rw [ha, show acont ci k v = .inl (gA v k) by simp [acont, ha]] at hg
  exact va_zald h1 h2 h5 (va_P1 hg) 0 3 rfl rfl (inb_in hin) hdg kk
theorem b_lald (hM : MC G p s m args c cc Ts own) (hW : WB G (st S a v) s H locs) (ci k : Nat) (hc : gC v = ci + 1) (hk : k < nf ci) (ht : (ds ci k).1 = 2) (ha : (ds ci k).2.2.1 = 2) {n o : Nat} (ho : (ds ci k).2.1 = o) (hn : alen ci k v = n) {i : Int32} (hin : inb i n = true) (hdg : decode cc pc = .ok (.laload, 1))
    (kk : W p l e R s m args below meth c H locs cells slots Q (F0 m (pc + 1) ls (.long (gL v k i.toNatClampNeg) :: rest))) : W p l e R s m args below meth c H locs cells slots Q (F0 m pc ls (.int i :: .ref (a + o) :: rest)) := by
  obtain ⟨h1, h2, h3, h4, h5, h6⟩ := hM
  have hg := (hW.1.at hc).2.2 k hk ht
  subst ho hn
  rw [ha, show acont ci k v = .inr (.inl (gL v k)) by simp [acont, ha]] at hg
  exact va_lald h1 h2 h5 (va_P1 hg) 0 1 rfl rfl (inb_in hin) hdg kk
theorem b_alen (hM : MC G p s m args c cc Ts own) (hW : WB G (st S a v) s H locs) (ci k t0 : Nat) (hc : gC v = ci + 1) (hk : k < nf ci) (ht : (ds ci k).1 = 2) (ha : (ds ci k).2.2.1 = t0 + 1) (ht0 : t0 < 5) {n o : Nat} (ho : (ds ci k).2.1 = o) (hn : alen ci k v = n) {x : Int32} (hx : Int32.ofNat n = x) (hdg : decode cc pc = .ok (.arraylength, 1))
    (kk : W p l e R s m args below meth c H locs cells slots Q (F0 m (pc + 1) ls (.int x :: rest))) : W p l e R s m args below meth c H locs cells slots Q (F0 m pc ls (.ref (a + o) :: rest)) := by
  obtain ⟨h1, h2, h3, h4, h5, h6⟩ := hM
  have hg := (hW.1.at hc).2.2 k hk ht
  subst ho hn
  rw [ha] at hg
  rcases (show t0 = 0 ∨ t0 = 1 ∨ t0 = 2 ∨ t0 = 3 ∨ t0 = 4 by omega) with rfl | rfl | rfl | rfl | rfl
  · exact va_alen h1 h2 h5 (va_P1 hg) 0 0 rfl rfl hx hdg kk
  · exact va_alen h1 h2 h5 (va_P1 hg) 0 1 rfl rfl hx hdg kk
  · exact va_alen h1 h2 h5 (va_P1 hg) 0 2 rfl rfl hx hdg kk
  · exact va_alen h1 h2 h5 (va_P1 hg) 0 3 rfl rfl hx hdg kk
  · exact va_alen h1 h2 h5 (va_P1 hg) 0 4 rfl rfl hx hdg kk
/-- a store into a group's own array, its cell as it is then -/
theorem WB.arr (hW : WB G (st S a v) s H locs) {ci k : Nat} (hc : gC v = ci + 1) (hk : k < nf ci) (ht : (ds ci k).1 = 2) (w : GV) (hw : gC w = ci + 1) (hwf : ∀ j, fvl G ci a w j = fvl G ci a v j) (hwa : ∀ j, j ≠ k → alen ci j w = alen ci j v ∧ acont ci j w = acont ci j v) {H1 : Heap} {j : Nat} (hcell : va_at G.1 vwCl (a + (ds ci k).2.1, .inl (G.2.1 (ds ci k).2.2.1, alen ci k w, acont ci k w)) H1) (z : H1.size = H.size) (oq : ∀ q : Nat, q ≠ a + (ds ci k).2.1 → H1[q]? = H[q]?) : WB G (st S a w) s H1 (locs ++ [⟨a + (ds ci k).2.1, j⟩]) := by
  obtain ⟨hz, hg, hga⟩ := hW.1.at hc
  refine ⟨hW.1.upd hc w hw (x := (ds ci k).2.1) (Or.inr ⟨k, hk, ht, rfl⟩) oq ⟨?_, fun i hi hi2 => ?_⟩, hW.2.put z oq (hz _ (Or.inr ⟨k, hk, ht, rfl⟩))⟩
  · have e : flds G ci a w = flds G ci a v := by simp only [flds]; congr 1; funext j; exact hwf j
    rw [hdE_o (nf_lt hk)] at hg ⊢
    rw [e]
    exact hg.kept (oq a (by have := (tab_off hk ht).1; omega))
  · by_cases e : i = k
    · subst e; exact hcell
    · have := hga i hi hi2
      rw [← (hwa i e).1, ← (hwa i e).2] at this
      exact this.kept (oq _ (fun q => e ((tab_off hk ht).2 i hi hi2 (by have q : a + (ds ci i).2.1 = a + (ds ci k).2.1 := q; omega))))
theorem b_iast (hM : MC G p s m args c cc Ts own) (hW : WB G (st S a v) s H locs) (ci k : Nat) (hc : gC v = ci + 1) (hk : k < nf ci) (ht : (ds ci k).1 = 2) (ha : (ds ci k).2.2.1 = 1) {n o : Nat} (ho : (ds ci k).2.1 = o) (hn : alen ci k v = n) {i x : Int32} (hin : inb i n = true) (hdg : decode cc pc = .ok (.iastore, 1))
    (kk : ∀ (v1 : GV), v1 = sA v k i.toNatClampNeg x → gC v1 = ci + 1 → ∀ (H1 : Heap) (locs1 : List Loc), WB G (st S a v1) s H1 locs1 → W p l e R s m args below meth c H1 locs1 cells slots Q (F0 m (pc + 1) ls rest)) : W p l e R s m args below meth c H locs cells slots Q (F0 m pc ls (.int x :: .int i :: .ref (a + o) :: rest)) := by
  obtain ⟨h1, h2, h3, h4, h5, h6⟩ := hM
  have hg := (hW.1.at hc).2.2 k hk ht
  subst ho hn
  have hvin := inb_in hin
  have hg' := hg
  rw [ha, show acont ci k v = .inl (gA v k) by simp [acont, ha]] at hg'
  refine W.iast h1 h2 hg' ((h5.2 0 _ rfl).1 (alen ci k v) (fun j => .int (gA v k j))) (fun q => by cases q) (by show ¬ (i < 0 ∨ (arrV _ _ _).slots.size ≤ _); rw [arrV_size]; exact hvin) rfl rfl hdg fun H1 e z oq => ?_
  refine kk _ rfl hc H1 _ (hW.arr hc hk ht (sA v k i.toNatClampNeg x) hc (fun _ => rfl) (fun j hj => ⟨rfl, ?_⟩) ?_ z oq)
  · have : gA (sA v k i.toNatClampNeg x) j = gA v j := by funext t; simp [gA, sA, sAf, va_up, hj]
    simp only [acont, this]; rfl
  · rw [ha, show acont ci k (sA v k i.toNatClampNeg x) = .inl (gA (sA v k i.toNatClampNeg x) k) by simp [acont, ha]]
    show H1[_]? = some (vp_cell _ _)
    rw [e, show alen ci k (sA v k i.toNatClampNeg x) = alen ci k v from rfl]
    rw [vp_cell_i, vp_cell_i, arrV_store]
    congr 2
    funext q
    by_cases hq : q = i.toNatClampNeg
    · subst hq
      simp [updV, upd, gA, sA, sAf, va_up]
    · simp [updV, upd, hq, gA, sA, sAf, va_up]
theorem b_cast (hM : MC G p s m args c cc Ts own) (hW : WB G (st S a v) s H locs) (ci k : Nat) (hc : gC v = ci + 1) (hk : k < nf ci) (ht : (ds ci k).1 = 2) (ha : (ds ci k).2.2.1 = 3) {n o : Nat} (ho : (ds ci k).2.1 = o) (hn : alen ci k v = n) {i x : Int32} (hin : inb i n = true) (hdg : decode cc pc = .ok (.castore, 1))
    (kk : ∀ (v1 : GV), v1 = sA v k i.toNatClampNeg (vp_nar .char x) → gC v1 = ci + 1 → ∀ (H1 : Heap) (locs1 : List Loc), WB G (st S a v1) s H1 locs1 → W p l e R s m args below meth c H1 locs1 cells slots Q (F0 m (pc + 1) ls rest)) : W p l e R s m args below meth c H locs cells slots Q (F0 m pc ls (.int x :: .int i :: .ref (a + o) :: rest)) := by
  obtain ⟨h1, h2, h3, h4, h5, h6⟩ := hM
  have hg := (hW.1.at hc).2.2 k hk ht
  subst ho hn
  have hvin := inb_in hin
  have hg' := hg
  rw [ha, show acont ci k v = .inl (gA v k) by simp [acont, ha]] at hg'
  refine W.cast h1 h2 hg' ((h5.2 2 _ rfl).1 (alen ci k v) (fun j => .int (gA v k j))) (fun q => by cases q) (by show ¬ (i < 0 ∨ (arrV _ _ _).slots.size ≤ _); rw [arrV_size]; exact hvin) rfl rfl hdg fun H1 e z oq => ?_
  refine kk _ rfl hc H1 _ (hW.arr hc hk ht (sA v k i.toNatClampNeg (vp_nar .char x)) hc (fun _ => rfl) (fun j hj => ⟨rfl, ?_⟩) ?_ z oq)
  · have : gA (sA v k i.toNatClampNeg (vp_nar .char x)) j = gA v j := by funext t; simp [gA, sA, sAf, va_up, hj]
    simp only [acont, this]; rfl
  · rw [ha, show acont ci k (sA v k i.toNatClampNeg (vp_nar .char x)) = .inl (gA (sA v k i.toNatClampNeg (vp_nar .char x)) k) by simp [acont, ha]]
    show H1[_]? = some (vp_cell _ _)
    rw [e, show alen ci k (sA v k i.toNatClampNeg (vp_nar .char x)) = alen ci k v from rfl]
    rw [vp_cell_i, vp_cell_i, arrV_store]
    congr 2
    funext q
    by_cases hq : q = i.toNatClampNeg
    · subst hq
      simp [updV, upd, gA, sA, sAf, va_up, vp_nar]
      try rfl
    · simp [updV, upd, hq, gA, sA, sAf, va_up]
theorem b_zast (hM : MC G p s m args c cc Ts own) (hW : WB G (st S a v) s H locs) (ci k : Nat) (hc : gC v = ci + 1) (hk : k < nf ci) (ht : (ds ci k).1 = 2) (ha : (ds ci k).2.2.1 = 4) {n o : Nat} (ho : (ds ci k).2.1 = o) (hn : alen ci k v = n) {i x : Int32} (hin : inb i n = true) (hdg : decode cc pc = .ok (.bastore, 1))
    (kk : ∀ (v1 : GV), v1 = sA v k i.toNatClampNeg (vp_nar .boolean x) → gC v1 = ci + 1 → ∀ (H1 : Heap) (locs1 : List Loc), WB G (st S a v1) s H1 locs1 → W p l e R s m args below meth c H1 locs1 cells slots Q (F0 m (pc + 1) ls rest)) : W p l e R s m args below meth c H locs cells slots Q (F0 m pc ls (.int x :: .int i :: .ref (a + o) :: rest)) := by
  obtain ⟨h1, h2, h3, h4, h5, h6⟩ := hM
  have hg := (hW.1.at hc).2.2 k hk ht
  subst ho hn
  have hvin := inb_in hin
  have hg' := hg
  rw [ha, show acont ci k v = .inl (gA v k) by simp [acont, ha]] at hg'
  refine W.zast h1 h2 hg' ((h5.2 3 _ rfl).1 (alen ci k v) (fun j => .int (gA v k j))) (fun q => by cases q) (by show ¬ (i < 0 ∨ (arrV _ _ _).slots.size ≤ _); rw [arrV_size]; exact hvin) rfl rfl hdg fun H1 e z oq => ?_
  refine kk _ rfl hc H1 _ (hW.arr hc hk ht (sA v k i.toNatClampNeg (vp_nar .boolean x)) hc (fun _ => rfl) (fun j hj => ⟨rfl, ?_⟩) ?_ z oq)
  · have : gA (sA v k i.toNatClampNeg (vp_nar .boolean x)) j = gA v j := by funext t; simp [gA, sA, sAf, va_up, hj]
    simp only [acont, this]; rfl
  · rw [ha, show acont ci k (sA v k i.toNatClampNeg (vp_nar .boolean x)) = .inl (gA (sA v k i.toNatClampNeg (vp_nar .boolean x)) k) by simp [acont, ha]]
    show H1[_]? = some (vp_cell _ _)
    rw [e, show alen ci k (sA v k i.toNatClampNeg (vp_nar .boolean x)) = alen ci k v from rfl]
    rw [vp_cell_i, vp_cell_i, arrV_store]
    congr 2
    funext q
    by_cases hq : q = i.toNatClampNeg
    · subst hq
      simp [updV, upd, gA, sA, sAf, va_up, vp_nar]
      try rfl
    · simp [updV, upd, hq, gA, sA, sAf, va_up]
theorem b_last (hM : MC G p s m args c cc Ts own) (hW : WB G (st S a v) s H locs) (ci k : Nat) (hc : gC v = ci + 1) (hk : k < nf ci) (ht : (ds ci k).1 = 2) (ha : (ds ci k).2.2.1 = 2) {n o : Nat} (ho : (ds ci k).2.1 = o) (hn : alen ci k v = n) {i : Int32} {x : Int64} (hin : inb i n = true) (hdg : decode cc pc = .ok (.lastore, 1))
    (kk : ∀ (v1 : GV), v1 = sL v k i.toNatClampNeg x → gC v1 = ci + 1 → ∀ (H1 : Heap) (locs1 : List Loc), WB G (st S a v1) s H1 locs1 → W p l e R s m args below meth c H1 locs1 cells slots Q (F0 m (pc + 1) ls rest)) : W p l e R s m args below meth c H locs cells slots Q (F0 m pc ls (.long x :: .int i :: .ref (a + o) :: rest)) := by
  obtain ⟨h1, h2, h3, h4, h5, h6⟩ := hM
  have hg := (hW.1.at hc).2.2 k hk ht
  subst ho hn
  have hvin := inb_in hin
  have hg' := hg
  rw [ha, show acont ci k v = .inr (.inl (gL v k)) by simp [acont, ha]] at hg'
  refine W.last h1 h2 hg' ((h5.2 1 _ rfl).1 (alen ci k v) (fun j => .long (gL v k j))) (fun q => by cases q) (by show ¬ (i < 0 ∨ (arrV _ _ _).slots.size ≤ _); rw [arrV_size]; exact hvin) rfl rfl hdg fun H1 e z oq => ?_
  refine kk _ rfl hc H1 _ (hW.arr hc hk ht (sL v k i.toNatClampNeg x) hc (fun _ => rfl) (fun j hj => ⟨rfl, ?_⟩) ?_ z oq)
  · have : gL (sL v k i.toNatClampNeg x) j = gL v j := by funext t; simp [gL, sL, sLf, va_up, hj]
    simp only [acont, this]; rfl
  · rw [ha, show acont ci k (sL v k i.toNatClampNeg x) = .inr (.inl (gL (sL v k i.toNatClampNeg x) k)) by simp [acont, ha]]
    show H1[_]? = some (vp_cell _ _)
    rw [e, show alen ci k (sL v k i.toNatClampNeg x) = alen ci k v from rfl]
    rw [vp_cell_l, vp_cell_l, arrV_store]
    congr 2
    funext q
    by_cases hq : q = i.toNatClampNeg
    · subst hq
      simp [updV, vp_updL, gL, sL, sLf, va_up]
    · simp [updV, vp_updL, hq, gL, sL, sLf, va_up]
theorem flds_sI {G : GG} {ci a k : Nat} {v : GV} {x : Int32} (hk : k < nf ci) (ht : (ds ci k).1 = 0) : flds G ci a (sI v k x) = (flds G ci a v).set k (.int x) := by
  apply List.ext_getElem?
  intro j
  by_cases hj : j < nf ci
  · by_cases e : j = k
    · subst e
      rw [List.getElem?_set_self (by rw [flds_len]; exact hj), flds_at hj]
      simp [fvl, ht, gI, sI, va_up]
    · rw [List.getElem?_set_ne (Ne.symm e), flds_at hj, flds_at hj]
      have h2 : gI (sI v k x) j = gI v j := by simp [gI, sI, va_up, e]
      simp only [fvl, h2]; rfl
  · rw [List.getElem?_eq_none (by rw [flds_len]; omega), List.getElem?_eq_none (by rw [List.length_set, flds_len]; omega)]
theorem flds_sJ {G : GG} {ci a k : Nat} {v : GV} {x : Int64} (hk : k < nf ci) (ht : (ds ci k).1 = 1) : flds G ci a (sJ v k x) = (flds G ci a v).set k (.long x) := by
  apply List.ext_getElem?
  intro j
  by_cases hj : j < nf ci
  · by_cases e : j = k
    · subst e
      rw [List.getElem?_set_self (by rw [flds_len]; exact hj), flds_at hj]
      simp [fvl, ht, gJ, sJ, va_up]
    · rw [List.getElem?_set_ne (Ne.symm e), flds_at hj, flds_at hj]
      have h2 : gJ (sJ v k x) j = gJ v j := by simp [gJ, sJ, va_up, e]
      simp only [fvl, h2]; rfl
  · rw [List.getElem?_eq_none (by rw [flds_len]; omega), List.getElem?_eq_none (by rw [List.length_set, flds_len]; omega)]
theorem b_putI (hM : MC G p s m args c cc Ts own) (hW : WB G (st S a v) s H locs) (ci k : Nat) {C : String} {T : u_T} {N index : Nat} (hc : gC v = ci + 1) (hcl : vwCl[ci % 12]? = some (C, T, N)) (hN : N = nf ci) (hk : k < N) (hin : ∀ w ∈ u_ws C T N, w ∈ Ts) (ty0 : Nat → FieldType) (hty : ∀ k, k < N → parseFieldDescriptor (T k).2.2.1 = some (ty0 k)) (hnm : ∀ a, a < N → ∀ b, b < N → a ≠ b → (T a).2.1 ≠ (T b).2.1) (hl : Cond.fieldLink own index (T k).1 (T k).2.1 (T k).2.2.1 ∈ Ts) (hfin : (T k).2.2.2 = false) (ht : (ds ci k).1 = 0) (hti : ty0 k = .int) {x : Int32} (hdg : decode cc pc = .ok (.putfield index, 3))
    (kk : ∀ (v1 : GV), v1 = sI v k x → gC v1 = ci + 1 → ∀ (H1 : Heap) (locs1 : List Loc), WB G (st S a v1) s H1 locs1 → W p l e R s m args below meth c H1 locs1 cells slots Q (F0 m (pc + 3) ls rest)) : W p l e R s m args below meth c H locs cells slots Q (F0 m pc ls (.int x :: .ref a :: rest)) :=
  b_put0 hM hW ci k hc hcl hN hk hin ty0 hty hnm hl hfin (sI v k x) hc (flds_sI (hN ▸ hk) ht) (fun _ => ⟨rfl, rfl⟩) (by rw [hti]; rfl) (by rw [hti]; rfl) hdg (kk _ rfl hc)
theorem b_putJ (hM : MC G p s m args c cc Ts own) (hW : WB G (st S a v) s H locs) (ci k : Nat) {C : String} {T : u_T} {N index : Nat} (hc : gC v = ci + 1) (hcl : vwCl[ci % 12]? = some (C, T, N)) (hN : N = nf ci) (hk : k < N) (hin : ∀ w ∈ u_ws C T N, w ∈ Ts) (ty0 : Nat → FieldType) (hty : ∀ k, k < N → parseFieldDescriptor (T k).2.2.1 = some (ty0 k)) (hnm : ∀ a, a < N → ∀ b, b < N → a ≠ b → (T a).2.1 ≠ (T b).2.1) (hl : Cond.fieldLink own index (T k).1 (T k).2.1 (T k).2.2.1 ∈ Ts) (hfin : (T k).2.2.2 = false) (ht : (ds ci k).1 = 1) (hti : ty0 k = .long) {x : Int64} (hdg : decode cc pc = .ok (.putfield index, 3))
    (kk : ∀ (v1 : GV), v1 = sJ v k x → gC v1 = ci + 1 → ∀ (H1 : Heap) (locs1 : List Loc), WB G (st S a v1) s H1 locs1 → W p l e R s m args below meth c H1 locs1 cells slots Q (F0 m (pc + 3) ls rest)) : W p l e R s m args below meth c H locs cells slots Q (F0 m pc ls (.long x :: .ref a :: rest)) :=
  b_put0 hM hW ci k hc hcl hN hk hin ty0 hty hnm hl hfin (sJ v k x) hc (flds_sJ (hN ▸ hk) ht) (fun _ => ⟨rfl, rfl⟩) (by rw [hti]; rfl) (by rw [hti]; rfl) hdg (kk _ rfl hc)
/-! contracts -/
def Pz (G : GG) (S : ST) (av : List Value) : Array Value → State → Prop := va_Pc av (fun U => BW G S U.heap ∧ va_K G.1 vwCl (tysOf G.2.1) U ∧ ZW G U)
def Qz (G : GG) (o : Option Value) (S S' : ST) : Array Value → State → Outcome → State → Prop := fun _ st oc t => oc = .returned o ∧ BW G S' t.heap ∧ (∀ a, gC (S a) ≠ 0 → gC (S' a) = gC (S a)) ∧ va_F (OU G) st t
def Ct (l : Launch) (y : MethodName) (ws : List Cond) (rm : Room) (G : GG) (S : ST) (av : List Value) (o : Option Value) (S' : ST) (mc ms : Nat) : Prop := Met l y ws rm (Pz G S av) (Qz G o S S') mc ms (OU G)
theorem ZW_next {U : State} (h : ZW G s) (hS : va_S (OU G) s.heap H locs) (hU : U.heap = H) (hw : s.WarmedH U.vm) : ZW G U := ⟨⟨by rw [hU]; exact ⟨Nat.le_trans h.1.1.1 hS.1, Nat.le_trans h.1.1.2 hS.1⟩, h.1.2.1.warm hw, h.1.2.2.1.moved hw.alike, h.1.2.2.2.warm hw⟩, by rw [hU]; exact (h.2.kept (fun a h1 h2 => hS.2.1 a h1 h2)).moved hw.alike⟩
theorem Pz_blind (G : GG) (S : ST) (av : List Value) : FrameBlind (Pz G S av) := fun a U g mk q => by
  obtain ⟨q0, q1, qK, qD⟩ := q
  exact ⟨q0, q1, va_K.moved (u := U) (U := U.calling g mk a) (Vm.Alike.refl U.vm) qK, ⟨qD.1.1, vk_R.same (u := U) (U := U.calling g mk a) rfl qD.1.2.1, va_AO.moved (u := U) (U := U.calling g mk a) (Vm.Alike.refl U.vm) qD.1.2.2.1, NW.same (u := U) (U := U.calling g mk a) rfl qD.1.2.2.2⟩, CW.moved (u := U) (U := U.calling g mk a) (Vm.Alike.refl U.vm) qD.2⟩
theorem b_ret0 {S1 : ST} (hW : WB G S1 s H locs) (hk : ∀ a, gC (S a) ≠ 0 → gC (S1 a) = gC (S a)) (o : Option Value) : ∀ t : State, t.heap = H → s.WarmedH t.vm → Qz G o S S1 args s (.returned o) t := fun t ht _ => ⟨rfl, by rw [ht]; exact hW.1, hk, hW.2.F ht⟩
theorem keep_st {ci : Nat} {v1 : GV} (h0 : gC (S a) = ci + 1) (h1 : gC v1 = ci + 1) : ∀ b, gC (S b) ≠ 0 → gC (st S a v1 b) = gC (S b) := fun b _ => by
  by_cases e : b = a
  · subst e; rw [st_same, h0, h1]
  · rw [st_ne _ _ e]
theorem b_call {S1 S2 : ST} {o : Option Value} {mc ms : Nat} {g : JFrame} {ac : Array Value} (hW : WB G S1 s H locs) (hr : va_Run p l e R s m args below meth c H locs cells slots mc ms (F0 m pc ls rest) st0 (Qz G o S1 S2 ac) (OU G))
    (kk : ∀ (H1 : Heap) (locs1 : List Loc), WB G S2 s H1 locs1 → (∀ a, gC (S1 a) ≠ 0 → gC (S2 a) = gC (S1 a)) → W p l e R s m args below meth c H1 locs1 (cells + mc) (slots + ms) Q (F0 m (pc + 3) ls (o.toList ++ st0))) : W p l e R s m args below meth c H locs cells slots Q (F0 m pc ls rest) := by
  intro T hT X
  obtain ⟨v, st₀, t, T', L, h0, X', hL, e1, e2, ⟨hv, hp, hb, hz, hk⟩, st⟩ := hr T hT X
  cases hv
  rw [h0] at hz hk
  obtain ⟨t2, a1, b1⟩ := kk T'.heap (locs ++ L) ⟨by rw [e1]; exact hp, ⟨Nat.le_trans hW.2.1 (by rw [e1]; exact hz), fun q h1 h2 => by rw [e1, hk q (Nat.lt_of_lt_of_le h1 hW.2.1) h2]; exact hW.2.2.1 q h1 h2, fun q hq => by
      rcases List.mem_append.mp hq with h | h
      · exact hW.2.2.2 q h
      · exact hL q h⟩⟩ hb T' rfl X'
  exact ⟨t2, st t2 a1, b1⟩
theorem b_preV {S1 : ST} {b ci : Nat} {w : GV} {C : String} {T : u_T} {N : Nat} {As : List Value} (hM : MC G p s m args c cc Ts own) (hW : WB G (st S1 b w) s H locs) (hc : gC w = ci + 1) (h24 : ci < 24) (hcl : vwCl[ci % 12]? = some (C, T, N)) : PreV s H C b (Pz G (st S1 b w) (.ref b :: As)) As := by
  obtain ⟨h1, h2, h3, h4, h5, h6⟩ := hM
  have hg := (hW.1.at hc).2.1
  rw [hdE_o h24] at hg
  refine ⟨Pz_blind _ _ _, va_recv (q0 := 0) h5 (va_P1 hg) hcl rfl, fun U hU hw => ⟨rfl, by rw [hU]; exact hW.1, va_K.moved hw.alike h5, ZW_next h6 hW.2 hU hw⟩⟩
theorem b_preS {S1 : ST} {As : List Value} (hM : MC G p s m args c cc Ts own) (hW : WB G S1 s H locs) : PreS s H (Pz G S1 As) As := by
  obtain ⟨h1, h2, h3, h4, h5, h6⟩ := hM
  exact ⟨Pz_blind _ _ _, fun U hU hw => ⟨rfl, by rw [hU]; exact hW.1, va_K.moved hw.alike h5, ZW_next h6 hW.2 hU hw⟩⟩
/-- a call of a method of a group's object that makes nothing -/
theorem b_callV {S1 S2 : ST} {b ci : Nat} {w : GV} {C : String} {T : u_T} {N : Nat} {As : List Value} {o : Option Value} {y : MethodName} {ws : List Cond} {rm : Room} {index maxL nL n : Nat} {bytes : ByteArray} {ret : Option FieldType} (hM : MC G p s m args c cc Ts own) (hml : c.maxLocals = nL) (hls : ls.size = nL) (hW : WB G (st S1 b w) s H locs) (hc : gC w = ci + 1) (hcl : vwCl[ci % 12]? = some (C, T, N)) (h24 : ci < 24) (hC : Ct l y ws rm G (st S1 b w) (.ref b :: As) o S2 0 0) (cw : CallW R s args own C index y bytes maxL ret ws rm 0 0 n) (hn : As.length = n) (hstack : rest = As.reverse ++ .ref b :: st0) (hr : (st0.map fun v => v.category).sum ≤ 8) (hf : cells ≤ R.cells ∧ slots ≤ R.slots) (hdg : decode cc pc = .ok (.invokevirtual index, 3))
    (kk : ∀ (H1 : Heap) (locs1 : List Loc), WB G S2 s H1 locs1 → (∀ a, gC (st S1 b w a) ≠ 0 → gC (S2 a) = gC (st S1 b w a)) → W p l e R s m args below meth c H1 locs1 cells slots Q (F0 m (pc + 3) ls (o.toList ++ st0))) : W p l e R s m args below meth c H locs cells slots Q (F0 m pc ls rest) :=
  b_call (mc := 0) (ms := 0) (g := F0 m pc ls rest) hW (va_runV (g := F0 m pc ls rest) (As := As) (rest := st0) ⟨hM.1, hM.2.1, hml, hM.2.2.1, hM.2.2.2.1⟩ hC cw (b_preV hM hW hc h24 hcl) rfl hn hls hstack (lv_room hr) hdg hf) kk
theorem b_callS {S1 S2 : ST} {As : List Value} {o : Option Value} {y : MethodName} {ws : List Cond} {rm : Room} {index maxL nL n : Nat} {bytes : ByteArray} {ret : Option FieldType} (hM : MC G p s m args c cc Ts own) (hml : c.maxLocals = nL) (hls : ls.size = nL) (hW : WB G S1 s H locs) (hC : Ct l y ws rm G S1 As o S2 0 0) (cw : CallB R s args own index y bytes maxL ret ws rm 0 0 n ∧ (Cond.static y).before args s = true) (hn : As.length = n) (hstack : rest = As.reverse ++ st0) (hr : (st0.map fun v => v.category).sum ≤ 8) (hf : cells ≤ R.cells ∧ slots ≤ R.slots) (hdg : decode cc pc = .ok (.invokestatic index, 3))
    (kk : ∀ (H1 : Heap) (locs1 : List Loc), WB G S2 s H1 locs1 → (∀ a, gC (S1 a) ≠ 0 → gC (S2 a) = gC (S1 a)) → W p l e R s m args below meth c H1 locs1 cells slots Q (F0 m (pc + 3) ls (o.toList ++ st0))) : W p l e R s m args below meth c H locs cells slots Q (F0 m pc ls rest) :=
  b_call (mc := 0) (ms := 0) (g := F0 m pc ls rest) hW (va_runS (g := F0 m pc ls rest) (As := As) (rest := st0) ⟨hM.1, hM.2.1, hml, hM.2.2.1, hM.2.2.2.1⟩ hC cw (b_preS hM hW) rfl hn hls hstack (lv_room hr) hdg hf) kk
end ROWS2
