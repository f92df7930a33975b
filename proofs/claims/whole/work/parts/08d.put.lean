section MAKE4
variable {G : GG} {p : Program} {l : Launch} {e : Env} {R : Room} {s : State} {m : MethodId} {args : Array Value} {below : List Frame} {meth : Method} {c : Code} {H : Heap} {locs : List Loc} {cells slots : Nat} {Q : State → Prop}
variable {cc : ByteArray} {pc : Nat} {ls : Array Slot} {rest : List Value} {Ts : List Cond} {own : String} {S : ST} {v : GV} {a : Nat}
theorem m_put0 (hM : MC G p s m args c cc Ts own) (hW : WB G (st S a v) s H locs) (ci k : Nat) {C : String} {T : u_T} {N index : Nat} (hc : gC v = ci + 1) (hcl : vwCl[ci % 12]? = some (C, T, N)) (hN : N = nf ci) (hk : k < N) (hin : ∀ w ∈ u_ws C T N, w ∈ Ts) (ty0 : Nat → FieldType) (hty : ∀ k, k < N → parseFieldDescriptor (T k).2.2.1 = some (ty0 k)) (hnm : ∀ a, a < N → ∀ b, b < N → a ≠ b → (T a).2.1 ≠ (T b).2.1) (hl : Cond.fieldLink own index (T k).1 (T k).2.1 (T k).2.2.1 ∈ Ts) (hfin : (T k).2.2.2 = false) {x : Value} (w : GV) (hw : gC w = ci + 1) (hx : flds G ci a w = (flds G ci a v).set k x) (hwa : ∀ j, alen ci j w = alen ci j v ∧ acont ci j w = acont ci j v) (hn : narrow (ty0 k) x = x) (hfit : fits (ty0 k) x = true) (hdg : decode cc pc = .ok (.putfield index, 3))
    (kk : ∀ (H1 : Heap) (locs1 : List Loc), H1.size = H.size → WB G (st S a w) s H1 locs1 → W p l e R s m args below meth c H1 locs1 cells slots Q (F0 m (pc + 3) ls rest)) : W p l e R s m args below meth c H locs cells slots Q (F0 m pc ls (x :: .ref a :: rest)) := by
  obtain ⟨hexec, hb, hown, hts, hK, h6⟩ := hM
  obtain ⟨hz, hg, hga⟩ := hW.1.at hc
  have h24 : ci < 24 := nf_lt (hN ▸ hk)
  rw [hdE_o h24] at hg
  have hap := va_apart (own := own) hts hin ty0 hty hnm hK hcl
  obtain ⟨r, h1, cell, q1, q2, q3, q4⟩ := id hg
  have hr : r = (C, T, N) := Option.some.inj (h1.symm.trans hcl)
  subst hr
  obtain ⟨hS, hfc, kC, hkC, hkind⟩ := hK.1 (ci % 12) _ hcl
  obtain ⟨cf, kf, fi, f, hi, hsl⟩ := hS k hk
  have hlay := hts _ (hin _ (u_in_lay hk))
  unfold u_lay at hlay
  rw [if_neg (by rw [hfin]; decide)] at hlay
  have hst := (u_facts hfc hkC (u_lays hts hin hk) hi).1
  have h6 := u_store hfc hkC hkind hlay hi (hty k hk) hn hfit
  refine W.putK hexec hb (f := f) ⟨hown, hts _ hl, ⟨_, _, _, hi⟩, hst⟩ (by rw [q2]; exact h6) q1 q3 (by rw [hsl]; exact k2_hasslot (q4 k hk)) rfl rfl hdg fun H' e1 e2 e3 => ?_
  rw [hsl] at e1 ⊢
  refine kk H' _ e2 ⟨hW.1.upd hc w hw (x := 0) (Or.inl rfl) e3 ⟨?_, fun j hj hj2 => ?_⟩, hW.2.put e2 e3 (hz 0 (Or.inl rfl))⟩
  · rw [hdE_o h24]
    refine ⟨_, hcl, t_OB.to (V := updV (vp_V (flds G ci a v)) k x) ⟨_, e1, q2, q3, t_set q4 hap hk x⟩ (fun j _ => ?_)⟩
    show _ = vp_V (flds G ci a w) j
    rw [hx]
    exact vp_updV_set (by rw [flds_len]; subst hN; exact hk) x j
  · have := hga j hj hj2
    rw [← (hwa j).1, ← (hwa j).2] at this
    exact this.kept (e3 _ (by have := (tab_off hj hj2).1; show a + (ds ci j).2.1 ≠ a; omega))
theorem n_putI (hM : MC G p s m args c cc Ts own) (hW : WB G S s H locs) (ci k : Nat) {C : String} {T : u_T} {N index : Nat} (hc : gC (S a) = ci + 1) (hcl : vwCl[ci % 12]? = some (C, T, N)) (hN : N = nf ci) (hk : k < N) (hin : ∀ w ∈ u_ws C T N, w ∈ Ts) (ty0 : Nat → FieldType) (hty : ∀ k, k < N → parseFieldDescriptor (T k).2.2.1 = some (ty0 k)) (hnm : ∀ a, a < N → ∀ b, b < N → a ≠ b → (T a).2.1 ≠ (T b).2.1) (hl : Cond.fieldLink own index (T k).1 (T k).2.1 (T k).2.2.1 ∈ Ts) (hfin : (T k).2.2.2 = false) (ht : (ds ci k).1 = 0) (hti : ty0 k = .int) {x : Int32} (hdg : decode cc pc = .ok (.putfield index, 3))
    (kk : ∀ (S1 : ST), S1 = st S a (sI (S a) k x) → ∀ (H1 : Heap) (locs1 : List Loc), H1.size = H.size → WB G S1 s H1 locs1 → W p l e R s m args below meth c H1 locs1 cells slots Q (F0 m (pc + 3) ls rest)) : W p l e R s m args below meth c H locs cells slots Q (F0 m pc ls (.int x :: .ref a :: rest)) :=
  m_put0 hM (hW.at_ a) ci k hc hcl hN hk hin ty0 hty hnm hl hfin (sI (S a) k x) hc (flds_sI (hN ▸ hk) ht) (fun _ => ⟨rfl, rfl⟩) (by rw [hti]; rfl) (by rw [hti]; rfl) hdg (kk _ rfl)
theorem n_putJ (hM : MC G p s m args c cc Ts own) (hW : WB G S s H locs) (ci k : Nat) {C : String} {T : u_T} {N index : Nat} (hc : gC (S a) = ci + 1) (hcl : vwCl[ci % 12]? = some (C, T, N)) (hN : N = nf ci) (hk : k < N) (hin : ∀ w ∈ u_ws C T N, w ∈ Ts) (ty0 : Nat → FieldType) (hty : ∀ k, k < N → parseFieldDescriptor (T k).2.2.1 = some (ty0 k)) (hnm : ∀ a, a < N → ∀ b, b < N → a ≠ b → (T a).2.1 ≠ (T b).2.1) (hl : Cond.fieldLink own index (T k).1 (T k).2.1 (T k).2.2.1 ∈ Ts) (hfin : (T k).2.2.2 = false) (ht : (ds ci k).1 = 1) (hti : ty0 k = .long) {x : Int64} (hdg : decode cc pc = .ok (.putfield index, 3))
    (kk : ∀ (S1 : ST), S1 = st S a (sJ (S a) k x) → ∀ (H1 : Heap) (locs1 : List Loc), H1.size = H.size → WB G S1 s H1 locs1 → W p l e R s m args below meth c H1 locs1 cells slots Q (F0 m (pc + 3) ls rest)) : W p l e R s m args below meth c H locs cells slots Q (F0 m pc ls (.long x :: .ref a :: rest)) :=
  m_put0 hM (hW.at_ a) ci k hc hcl hN hk hin ty0 hty hnm hl hfin (sJ (S a) k x) hc (flds_sJ (hN ▸ hk) ht) (fun _ => ⟨rfl, rfl⟩) (by rw [hti]; rfl) (by rw [hti]; rfl) hdg (kk _ rfl)
theorem n_putR (hM : MC G p s m args c cc Ts own) (hW : WB G S s H locs) (ci k : Nat) {C : String} {T : u_T} {N index : Nat} (hc : gC (S a) = ci + 1) (hcl : vwCl[ci % 12]? = some (C, T, N)) (hN : N = nf ci) (hk : k < N) (hin : ∀ w ∈ u_ws C T N, w ∈ Ts) (ty0 : Nat → FieldType) (hty : ∀ k, k < N → parseFieldDescriptor (T k).2.2.1 = some (ty0 k)) (hnm : ∀ a, a < N → ∀ b, b < N → a ≠ b → (T a).2.1 ≠ (T b).2.1) (hl : Cond.fieldLink own index (T k).1 (T k).2.1 (T k).2.2.1 ∈ Ts) (hfin : (T k).2.2.2 = false) (ht : (ds ci k).1 = 4) (hti : (∃ C, ty0 k = .object C) ∨ ∃ u, ty0 k = .array u) (x : Option Nat) {vx : Value} (hvx : va_rf x = vx) (hdg : decode cc pc = .ok (.putfield index, 3))
    (kk : ∀ (S1 : ST), S1 = st S a (sR (S a) k x) → ∀ (H1 : Heap) (locs1 : List Loc), H1.size = H.size → WB G S1 s H1 locs1 → W p l e R s m args below meth c H1 locs1 cells slots Q (F0 m (pc + 3) ls rest)) : W p l e R s m args below meth c H locs cells slots Q (F0 m pc ls (vx :: .ref a :: rest)) := by
  subst hvx
  exact m_put0 hM (hW.at_ a) ci k hc hcl hN hk hin ty0 hty hnm hl hfin (sR (S a) k x) hc (flds_sR (hN ▸ hk) ht) (fun _ => ⟨rfl, rfl⟩) (rf_fitT x hti).1 (rf_fitT x hti).2 hdg (kk _ rfl)
end MAKE4
abbrev QN (G : GG) (below : List Frame) (args : Array Value) (s : State) (o : Option Value) (S1 : ST) (n' mc ms : Nat) : State → Prop := MQ below (Qn G o S1 n') args s mc ms (OU G)
