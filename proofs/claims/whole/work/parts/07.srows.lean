/-! ===== rows over the whole state, and over the constants ===== -/
section SROWS
variable {G : GG} {p : Program} {l : Launch} {e : Env} {R : Room} {s : State} {m : MethodId} {args : Array Value} {below : List Frame} {meth : Method} {c : Code} {H : Heap} {locs : List Loc} {cells slots : Nat} {Q : State → Prop}
variable {cc : ByteArray} {pc : Nat} {ls : Array Slot} {rest : List Value} {Ts : List Cond} {own : String} {S : ST} {v : GV} {a : Nat}
theorem WB.at_ (h : WB G S s H locs) (a : Nat) : WB G (st S a (S a)) s H locs := by rw [st_self]; exact h
theorem keep1 {S1 S2 : ST} {x n : Nat} (hk : ∀ b, gC (S1 b) ≠ 0 → gC (S2 b) = gC (S1 b)) (h : gC (S1 x) = n + 1) : gC (S2 x) = n + 1 := (hk x (by omega)).trans h
theorem keep_tr {S1 S2 S3 : ST} (h1 : ∀ b, gC (S1 b) ≠ 0 → gC (S2 b) = gC (S1 b)) (h2 : ∀ b, gC (S2 b) ≠ 0 → gC (S3 b) = gC (S2 b)) : ∀ b, gC (S1 b) ≠ 0 → gC (S3 b) = gC (S1 b) := fun b h => (h2 b (by rw [h1 b h]; exact h)).trans (h1 b h)
theorem s_putI (hM : MC G p s m args c cc Ts own) (hW : WB G S s H locs) (ci k : Nat) {C : String} {T : u_T} {N index : Nat} (hc : gC (S a) = ci + 1) (hcl : vwCl[ci % 12]? = some (C, T, N)) (hN : N = nf ci) (hk : k < N) (hin : ∀ w ∈ u_ws C T N, w ∈ Ts) (ty0 : Nat → FieldType) (hty : ∀ k, k < N → parseFieldDescriptor (T k).2.2.1 = some (ty0 k)) (hnm : ∀ a, a < N → ∀ b, b < N → a ≠ b → (T a).2.1 ≠ (T b).2.1) (hl : Cond.fieldLink own index (T k).1 (T k).2.1 (T k).2.2.1 ∈ Ts) (hfin : (T k).2.2.2 = false) (ht : (ds ci k).1 = 0) (hti : ty0 k = .int) {x : Int32} (hdg : decode cc pc = .ok (.putfield index, 3))
    (kk : ∀ (S1 : ST), S1 = st S a (sI (S a) k x) → (∀ b, gC (S b) ≠ 0 → gC (S1 b) = gC (S b)) → ∀ (H1 : Heap) (locs1 : List Loc), WB G S1 s H1 locs1 → W p l e R s m args below meth c H1 locs1 cells slots Q (F0 m (pc + 3) ls rest)) : W p l e R s m args below meth c H locs cells slots Q (F0 m pc ls (.int x :: .ref a :: rest)) :=
  b_putI hM (hW.at_ a) ci k hc hcl hN hk hin ty0 hty hnm hl hfin ht hti hdg (fun _ e hc1 H1 l1 h => by subst e; exact kk _ rfl (keep_st hc hc1) H1 l1 h)
theorem s_putJ (hM : MC G p s m args c cc Ts own) (hW : WB G S s H locs) (ci k : Nat) {C : String} {T : u_T} {N index : Nat} (hc : gC (S a) = ci + 1) (hcl : vwCl[ci % 12]? = some (C, T, N)) (hN : N = nf ci) (hk : k < N) (hin : ∀ w ∈ u_ws C T N, w ∈ Ts) (ty0 : Nat → FieldType) (hty : ∀ k, k < N → parseFieldDescriptor (T k).2.2.1 = some (ty0 k)) (hnm : ∀ a, a < N → ∀ b, b < N → a ≠ b → (T a).2.1 ≠ (T b).2.1) (hl : Cond.fieldLink own index (T k).1 (T k).2.1 (T k).2.2.1 ∈ Ts) (hfin : (T k).2.2.2 = false) (ht : (ds ci k).1 = 1) (hti : ty0 k = .long) {x : Int64} (hdg : decode cc pc = .ok (.putfield index, 3))
    (kk : ∀ (S1 : ST), S1 = st S a (sJ (S a) k x) → (∀ b, gC (S b) ≠ 0 → gC (S1 b) = gC (S b)) → ∀ (H1 : Heap) (locs1 : List Loc), WB G S1 s H1 locs1 → W p l e R s m args below meth c H1 locs1 cells slots Q (F0 m (pc + 3) ls rest)) : W p l e R s m args below meth c H locs cells slots Q (F0 m pc ls (.long x :: .ref a :: rest)) :=
  b_putJ hM (hW.at_ a) ci k hc hcl hN hk hin ty0 hty hnm hl hfin ht hti hdg (fun _ e hc1 H1 l1 h => by subst e; exact kk _ rfl (keep_st hc hc1) H1 l1 h)
theorem flds_sR {G : GG} {ci a k : Nat} {v : GV} {x : Option Nat} (hk : k < nf ci) (ht : (ds ci k).1 = 4) : flds G ci a (sR v k x) = (flds G ci a v).set k (va_rf x) := by
  apply List.ext_getElem?
  intro j
  by_cases hj : j < nf ci
  · by_cases e : j = k
    · subst e
      rw [List.getElem?_set_self (by rw [flds_len]; exact hj), flds_at hj]
      simp [fvl, ht, gR, sR, va_up]
    · rw [List.getElem?_set_ne (Ne.symm e), flds_at hj, flds_at hj]
      have h2 : gR (sR v k x) j = gR v j := by simp [gR, sR, va_up, e]
      simp only [fvl, h2]; rfl
  · rw [List.getElem?_eq_none (by rw [flds_len]; omega), List.getElem?_eq_none (by rw [List.length_set, flds_len]; omega)]
theorem flds_sE {G : GG} {ci a k : Nat} {v : GV} {j0 : Nat} (h0 : j0 < 30) (hk : k < nf ci) (ht : (ds ci k).1 = 5) : flds G ci a (sI v k (nI j0)) = (flds G ci a v).set k (.ref (kAd G j0)) := by
  apply List.ext_getElem?
  intro j
  by_cases hj : j < nf ci
  · by_cases e : j = k
    · subst e
      rw [List.getElem?_set_self (by rw [flds_len]; exact hj), flds_at hj]
      simp [fvl, ht, gI, sI, va_up, nI_clamp (show j0 < 2 ^ 31 by omega)]
    · rw [List.getElem?_set_ne (Ne.symm e), flds_at hj, flds_at hj]
      have h2 : gI (sI v k (nI j0)) j = gI v j := by simp [gI, sI, va_up, e]
      simp only [fvl, h2]; rfl
  · rw [List.getElem?_eq_none (by rw [flds_len]; omega), List.getElem?_eq_none (by rw [List.length_set, flds_len]; omega)]
theorem rf_fit (x : Option Nat) (C : String) : narrow (.object C) (va_rf x) = va_rf x ∧ fits (.object C) (va_rf x) = true := by cases x <;> exact ⟨rfl, rfl⟩
theorem s_putR (hM : MC G p s m args c cc Ts own) (hW : WB G S s H locs) (ci k : Nat) {C : String} {T : u_T} {N index : Nat} (hc : gC (S a) = ci + 1) (hcl : vwCl[ci % 12]? = some (C, T, N)) (hN : N = nf ci) (hk : k < N) (hin : ∀ w ∈ u_ws C T N, w ∈ Ts) (ty0 : Nat → FieldType) (hty : ∀ k, k < N → parseFieldDescriptor (T k).2.2.1 = some (ty0 k)) (hnm : ∀ a, a < N → ∀ b, b < N → a ≠ b → (T a).2.1 ≠ (T b).2.1) (hl : Cond.fieldLink own index (T k).1 (T k).2.1 (T k).2.2.1 ∈ Ts) (hfin : (T k).2.2.2 = false) (ht : (ds ci k).1 = 4) (C' : String) (hti : ty0 k = .object C') (x : Option Nat) {vx : Value} (hvx : va_rf x = vx) (hdg : decode cc pc = .ok (.putfield index, 3))
    (kk : ∀ (S1 : ST), S1 = st S a (sR (S a) k x) → (∀ b, gC (S b) ≠ 0 → gC (S1 b) = gC (S b)) → ∀ (H1 : Heap) (locs1 : List Loc), WB G S1 s H1 locs1 → W p l e R s m args below meth c H1 locs1 cells slots Q (F0 m (pc + 3) ls rest)) : W p l e R s m args below meth c H locs cells slots Q (F0 m pc ls (vx :: .ref a :: rest)) := by
  subst hvx
  exact b_put0 hM (hW.at_ a) ci k hc hcl hN hk hin ty0 hty hnm hl hfin (sR (S a) k x) hc (flds_sR (hN ▸ hk) ht) (fun _ => ⟨rfl, rfl⟩) (by rw [hti]; exact (rf_fit x C').1) (by rw [hti]; exact (rf_fit x C').2) hdg (kk _ rfl (keep_st hc hc))
theorem s_putE (hM : MC G p s m args c cc Ts own) (hW : WB G S s H locs) (ci k : Nat) {C : String} {T : u_T} {N index : Nat} (hc : gC (S a) = ci + 1) (hcl : vwCl[ci % 12]? = some (C, T, N)) (hN : N = nf ci) (hk : k < N) (hin : ∀ w ∈ u_ws C T N, w ∈ Ts) (ty0 : Nat → FieldType) (hty : ∀ k, k < N → parseFieldDescriptor (T k).2.2.1 = some (ty0 k)) (hnm : ∀ a, a < N → ∀ b, b < N → a ≠ b → (T a).2.1 ≠ (T b).2.1) (hl : Cond.fieldLink own index (T k).1 (T k).2.1 (T k).2.2.1 ∈ Ts) (hfin : (T k).2.2.2 = false) (ht : (ds ci k).1 = 5) (C' : String) (hti : ty0 k = .object C') {j : Nat} (hj : j < 30) (hdg : decode cc pc = .ok (.putfield index, 3))
    (kk : ∀ (S1 : ST), S1 = st S a (sI (S a) k (nI j)) → (∀ b, gC (S b) ≠ 0 → gC (S1 b) = gC (S b)) → ∀ (H1 : Heap) (locs1 : List Loc), WB G S1 s H1 locs1 → W p l e R s m args below meth c H1 locs1 cells slots Q (F0 m (pc + 3) ls rest)) : W p l e R s m args below meth c H locs cells slots Q (F0 m pc ls (.ref (kAd G j) :: .ref a :: rest)) :=
  b_put0 hM (hW.at_ a) ci k hc hcl hN hk hin ty0 hty hnm hl hfin (sI (S a) k (nI j)) hc (flds_sE hj (hN ▸ hk) ht) (fun _ => ⟨rfl, rfl⟩) (by rw [hti]; rfl) (by rw [hti]; rfl) hdg (kk _ rfl (keep_st hc hc))
theorem s_iast (hM : MC G p s m args c cc Ts own) (hW : WB G S s H locs) (ci k : Nat) (hc : gC (S a) = ci + 1) (hk : k < nf ci) (ht : (ds ci k).1 = 2) (ha : (ds ci k).2.2.1 = 1) {n o : Nat} (ho : (ds ci k).2.1 = o) (hn : alen ci k (S a) = n) {i x : Int32} (hin : inb i n = true) (hdg : decode cc pc = .ok (.iastore, 1))
    (kk : ∀ (S1 : ST), S1 = st S a (sA (S a) k i.toNatClampNeg x) → (∀ b, gC (S b) ≠ 0 → gC (S1 b) = gC (S b)) → ∀ (H1 : Heap) (locs1 : List Loc), WB G S1 s H1 locs1 → W p l e R s m args below meth c H1 locs1 cells slots Q (F0 m (pc + 1) ls rest)) : W p l e R s m args below meth c H locs cells slots Q (F0 m pc ls (.int x :: .int i :: .ref (a + o) :: rest)) :=
  b_iast hM (hW.at_ a) ci k hc hk ht ha ho hn hin hdg (fun _ e hc1 H1 l1 h => by subst e; exact kk _ rfl (keep_st hc hc1) H1 l1 h)
theorem s_last (hM : MC G p s m args c cc Ts own) (hW : WB G S s H locs) (ci k : Nat) (hc : gC (S a) = ci + 1) (hk : k < nf ci) (ht : (ds ci k).1 = 2) (ha : (ds ci k).2.2.1 = 2) {n o : Nat} (ho : (ds ci k).2.1 = o) (hn : alen ci k (S a) = n) {i : Int32} {x : Int64} (hin : inb i n = true) (hdg : decode cc pc = .ok (.lastore, 1))
    (kk : ∀ (S1 : ST), S1 = st S a (sL (S a) k i.toNatClampNeg x) → (∀ b, gC (S b) ≠ 0 → gC (S1 b) = gC (S b)) → ∀ (H1 : Heap) (locs1 : List Loc), WB G S1 s H1 locs1 → W p l e R s m args below meth c H1 locs1 cells slots Q (F0 m (pc + 1) ls rest)) : W p l e R s m args below meth c H locs cells slots Q (F0 m pc ls (.long x :: .int i :: .ref (a + o) :: rest)) :=
  b_last hM (hW.at_ a) ci k hc hk ht ha ho hn hin hdg (fun _ e hc1 H1 l1 h => by subst e; exact kk _ rfl (keep_st hc hc1) H1 l1 h)
theorem b_aald (hM : MC G p s m args c cc Ts own) (hW : WB G (st S a v) s H locs) (ci k : Nat) (hc : gC v = ci + 1) (hk : k < nf ci) (ht : (ds ci k).1 = 2) (ha : (ds ci k).2.2.1 = 5) {n o : Nat} (ho : (ds ci k).2.1 = o) (hn : alen ci k v = n) {i : Int32} (hin : inb i n = true) {q : Nat} (hq : gQ v k i.toNatClampNeg = some q) (hdg : decode cc pc = .ok (.aaload, 1))
    (kk : W p l e R s m args below meth c H locs cells slots Q (F0 m (pc + 1) ls (.ref q :: rest))) : W p l e R s m args below meth c H locs cells slots Q (F0 m pc ls (.int i :: .ref (a + o) :: rest)) := by
  obtain ⟨h1, h2, h3, h4, h5, h6⟩ := hM
  have hg := (hW.1.at hc).2.2 k hk ht
  subst ho hn
  rw [ha, show acont ci k v = .inr (.inr (.inr (.inr (gQ v k)))) by simp [acont, ha]] at hg
  refine va_aldq h1 h2 h5 (va_P1 hg) 0 4 rfl rfl (inb_in hin) hdg ?_
  rw [hq]
  exact kk
/-! the constants -/
theorem k_word (hM : MC G p s m args c cc Ts own) (hW : WB G S s H locs) (j : Nat) (hj : j < 30) {index : Nat} (hl : Cond.fieldLink own index RX10 (wnm.getD j "") "LPanelCopies$Word;" ∈ Ts) (hdg : decode cc pc = .ok (.getstatic index, 3))
    (kk : W p l e R s m args below meth c H locs cells slots Q (F0 m (pc + 3) ls (.ref (kAd G j) :: rest))) : W p l e R s m args below meth c H locs cells slots Q (F0 m pc ls rest) :=
  va_gets hM.1 hM.2.1 (hM.2.2.2.2.2.2.1 j hj).1 hW.2 hM.2.2.1 (hM.2.2.2.1 _ hl) (fun _ h => h) hdg kk
theorem k_pk (hM : MC G p s m args c cc Ts own) (hW : WB G S s H locs) {j : Nat} (hj : j < 30) {index : Nat} (hl : Cond.fieldLink own index RX10 "packed" "J" ∈ Ts) (hdg : decode cc pc = .ok (.getfield index, 3))
    (kk : W p l e R s m args below meth c H locs cells slots Q (F0 m (pc + 3) ls (.long (wpk.getD j 0) :: rest))) : W p l e R s m args below meth c H locs cells slots Q (F0 m pc ls (.ref (kAd G j) :: rest)) :=
  vk_getf hM.1 hM.2.1 (hM.2.2.2.2.2.2.1 j hj).2.2.1 hW.2 hM.2.2.1 (hM.2.2.2.1 _ hl) (fun _ h => h) hdg kk
theorem k_rs (hM : MC G p s m args c cc Ts own) (hW : WB G S s H locs) {j : Nat} (hj : j < 30) {index : Nat} (hl : Cond.fieldLink own index RX10 "reserved" "Z" ∈ Ts) (hdg : decode cc pc = .ok (.getfield index, 3))
    (kk : W p l e R s m args below meth c H locs cells slots Q (F0 m (pc + 3) ls (.int (wrs.getD j 0) :: rest))) : W p l e R s m args below meth c H locs cells slots Q (F0 m pc ls (.ref (kAd G j) :: rest)) :=
  vk_getf hM.1 hM.2.1 (hM.2.2.2.2.2.2.1 j hj).2.2.2.1 hW.2 hM.2.2.1 (hM.2.2.2.1 _ hl) (fun _ h => h) hdg kk
theorem k_od (hM : MC G p s m args c cc Ts own) (hW : WB G S s H locs) {j : Nat} (hj : j < 30) {index : Nat} (hl : Cond.fieldLink own index "java/lang/Enum" "ordinal" "I" ∈ Ts) (hdg : decode cc pc = .ok (.getfield index, 3))
    (kk : W p l e R s m args below meth c H locs cells slots Q (F0 m (pc + 3) ls (.int (nI j) :: rest))) : W p l e R s m args below meth c H locs cells slots Q (F0 m pc ls (.ref (kAd G j) :: rest)) :=
  vk_getf hM.1 hM.2.1 (hM.2.2.2.2.2.2.1 j hj).2.2.2.2 hW.2 hM.2.2.1 (hM.2.2.2.1 _ hl) (fun _ h => h) hdg kk
theorem k_all (hM : MC G p s m args c cc Ts own) (hW : WB G S s H locs) {index : Nat} (hl : Cond.fieldLink own index RX10 "ALL" "[LPanelCopies$Word;" ∈ Ts) (hdg : decode cc pc = .ok (.getstatic index, 3))
    (kk : W p l e R s m args below meth c H locs cells slots Q (F0 m (pc + 3) ls (.ref (kAd G 30) :: rest))) : W p l e R s m args below meth c H locs cells slots Q (F0 m pc ls rest) :=
  va_gets hM.1 hM.2.1 hM.2.2.2.2.2.2.2.1.1 hW.2 hM.2.2.1 (hM.2.2.2.1 _ hl) (fun _ h => h) hdg kk
theorem k_smap (hM : MC G p s m args c cc Ts own) (hW : WB G S s H locs) {index : Nat} (hl : Cond.fieldLink own index RX0 "$SwitchMap$PanelCopies$Word" "[I" ∈ Ts) (hdg : decode cc pc = .ok (.getstatic index, 3))
    (kk : W p l e R s m args below meth c H locs cells slots Q (F0 m (pc + 3) ls (.ref (kAd G 31) :: rest))) : W p l e R s m args below meth c H locs cells slots Q (F0 m pc ls rest) :=
  va_gets hM.1 hM.2.1 hM.2.2.2.2.2.2.2.2.1.1 hW.2 hM.2.2.1 (hM.2.2.2.1 _ hl) (fun _ h => h) hdg kk
theorem k_units (hM : MC G p s m args c cc Ts own) (hW : WB G S s H locs) {index : Nat} (hl : Cond.fieldLink own index RX7 "UNITS" "[I" ∈ Ts) (hdg : decode cc pc = .ok (.getstatic index, 3))
    (kk : W p l e R s m args below meth c H locs cells slots Q (F0 m (pc + 3) ls (.ref (kAd G 32) :: rest))) : W p l e R s m args below meth c H locs cells slots Q (F0 m pc ls rest) :=
  va_gets hM.1 hM.2.1 hM.2.2.2.2.2.2.2.2.2.1.1 hW.2 hM.2.2.1 (hM.2.2.2.1 _ hl) (fun _ h => h) hdg kk
theorem k_aall (hM : MC G p s m args c cc Ts own) (hW : WB G S s H locs) {i : Int32} (hin : inb i 30 = true) (hdg : decode cc pc = .ok (.aaload, 1))
    (kk : W p l e R s m args below meth c H locs cells slots Q (F0 m (pc + 1) ls (.ref (kAd G i.toNatClampNeg) :: rest))) : W p l e R s m args below meth c H locs cells slots Q (F0 m pc ls (.int i :: .ref (kAd G 30) :: rest)) :=
  vb_tq hM.1 hM.2.1 hM.2.2.2.2.2.2.2.1.2 hW.2 (inb_in hin) rfl hdg kk
theorem k_alen (hM : MC G p s m args c cc Ts own) (hW : WB G S s H locs) (hdg : decode cc pc = .ok (.arraylength, 1))
    (kk : W p l e R s m args below meth c H locs cells slots Q (F0 m (pc + 1) ls (.int 30 :: rest))) : W p l e R s m args below meth c H locs cells slots Q (F0 m pc ls (.ref (kAd G 30) :: rest)) :=
  va_tlen hM.1 hM.2.1 hM.2.2.2.2.2.2.2.1.2 hW.2 (by decide) hdg kk
theorem k_ism (hM : MC G p s m args c cc Ts own) (hW : WB G S s H locs) {i : Int32} (hin : inb i 30 = true) (hdg : decode cc pc = .ok (.iaload, 1))
    (kk : W p l e R s m args below meth c H locs cells slots Q (F0 m (pc + 1) ls (.int (smp.getD i.toNatClampNeg 0) :: rest))) : W p l e R s m args below meth c H locs cells slots Q (F0 m pc ls (.int i :: .ref (kAd G 31) :: rest)) :=
  va_ti hM.1 hM.2.1 hM.2.2.2.2.2.2.2.2.1.2 hW.2 (inb_in hin) rfl hdg kk
theorem k_iun (hM : MC G p s m args c cc Ts own) (hW : WB G S s H locs) {i : Int32} (hin : inb i 5 = true) (hdg : decode cc pc = .ok (.iaload, 1))
    (kk : W p l e R s m args below meth c H locs cells slots Q (F0 m (pc + 1) ls (.int (uni.getD i.toNatClampNeg 0) :: rest))) : W p l e R s m args below meth c H locs cells slots Q (F0 m pc ls (.int i :: .ref (kAd G 32) :: rest)) :=
  va_ti hM.1 hM.2.1 hM.2.2.2.2.2.2.2.2.2.1.2 hW.2 (inb_in hin) rfl hdg kk
end SROWS
