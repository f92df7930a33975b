section MAKE2
variable {G : GG} {p : Program} {l : Launch} {e : Env} {R : Room} {s : State} {m : MethodId} {args : Array Value} {below : List Frame} {meth : Method} {c : Code} {H : Heap} {locs : List Loc} {cells slots : Nat} {Q : State → Prop}
variable {cc : ByteArray} {pc : Nat} {ls : Array Slot} {rest : List Value} {Ts : List Cond} {own : String} {S : ST} {v : GV} {a : Nat}
theorem m_putF0 (hM : MC G p s m args c cc Ts own) (hin2 : meth.name = "<init>") (hW : WB G (st S a v) s H locs) (ci k : Nat) {C : String} {T : u_T} {N index : Nat} (hc : gC v = ci + 1) (hcl : vwCl[ci % 12]? = some (C, T, N)) (hN : N = nf ci) (hk : k < N) (hin : ∀ w ∈ u_ws C T N, w ∈ Ts) (ty0 : Nat → FieldType) (hty : ∀ k, k < N → parseFieldDescriptor (T k).2.2.1 = some (ty0 k)) (hnm : ∀ a, a < N → ∀ b, b < N → a ≠ b → (T a).2.1 ≠ (T b).2.1) (hl : Cond.fieldLink own index (T k).1 (T k).2.1 (T k).2.2.1 ∈ Ts) (hfin : (T k).2.2.2 = true) (hdecl : (T k).1 = own) {x : Value} (w : GV) (hw : gC w = ci + 1) (hx : flds G ci a w = (flds G ci a v).set k x) (hwa : ∀ j, alen ci j w = alen ci j v ∧ acont ci j w = acont ci j v) (hn : narrow (ty0 k) x = x) (hfit : fits (ty0 k) x = true) (hdg : decode cc pc = .ok (.putfield index, 3))
    (kk : ∀ (H1 : Heap) (locs1 : List Loc), H1.size = H.size → WB G (st S a w) s H1 locs1 → W p l e R s m args below meth c H1 locs1 cells slots Q (F0 m (pc + 3) ls rest)) : W p l e R s m args below meth c H locs cells slots Q (F0 m pc ls (x :: .ref a :: rest)) := by
  obtain ⟨hexec, hb, hown, hts, hK, h6⟩ := hM
  obtain ⟨hz, hg, hga⟩ := hW.1.at hc
  have h24 : ci < 24 := nf_lt (hN ▸ hk)
  rw [hdE_o h24] at hg
  have hap := va_apart (own := own) hts hin ty0 hty hnm hK hcl
  obtain ⟨r, h1, cell, q1, q2, q3, q4⟩ := id hg
  have hr : r = (C, T, N) := Option.some.inj (h1.symm.trans hcl)
  subst hr
  obtain ⟨hS, hfc, kC, hkC, hkind⟩ := hK.1 (ci % 12) _ hcl
  obtain ⟨cf, kf, fi, f, hi, hsl⟩ := hS k hk
  have hlay := hts _ (hin _ (u_in_lay hk))
  unfold u_lay at hlay
  rw [if_pos hfin] at hlay
  have hst := (u_facts hfc hkC (u_lays hts hin hk) hi).1
  have hcf : m.cls = cf := by
    obtain ⟨_, _, c', _, _, _, -, -, hf', -, -, -, hown2, -⟩ := Cond.laysFinal_spec hlay
    have e1 : c' = cf := by have := hi.symm.trans hf'; simp at this; exact this.1.symm
    rw [hdecl] at hown2
    rw [← e1]; exact Option.some.inj (hown.symm.trans hown2)
  have h6 := u_fits hfc hkC hkind (Or.inr hlay) hi (hty k hk) hn hfit
  refine W.putFinK hexec hb hown (hts _ hl) hi hst hcf hin2 (by rw [q2]; exact h6) q1 q3 (by rw [hsl]; exact k2_hasslot (q4 k hk)) rfl rfl hdg fun H' e1 e2 e3 => ?_
  rw [hsl] at e1 ⊢
  refine kk H' _ e2 ⟨hW.1.upd hc w hw (x := 0) (Or.inl rfl) e3 ⟨?_, fun j hj hj2 => ?_⟩, hW.2.put e2 e3 (hz 0 (Or.inl rfl))⟩
  · rw [hdE_o h24]
    refine ⟨_, hcl, t_OB.to (V := updV (vp_V (flds G ci a v)) k x) ⟨_, e1, q2, q3, t_set q4 hap hk x⟩ (fun j _ => ?_)⟩
    show _ = vp_V (flds G ci a w) j
    rw [hx]
    exact vp_updV_set (by rw [flds_len]; subst hN; exact hk) x j
  · have := hga j hj hj2
    rw [← (hwa j).1, ← (hwa j).2] at this
    exact this.kept (e3 _ (by have := (tab_off hj hj2).1; show a + (ds ci j).2.1 ≠ a; omega))
theorem rf_fitT (x : Option Nat) {t : FieldType} (ht : (∃ C, t = .object C) ∨ ∃ u, t = .array u) : narrow t (va_rf x) = va_rf x ∧ fits t (va_rf x) = true := by
  rcases ht with ⟨C, rfl⟩ | ⟨u, rfl⟩ <;> cases x <;> exact ⟨rfl, rfl⟩
theorem m_putFR (hM : MC G p s m args c cc Ts own) (hin2 : meth.name = "<init>") (hW : WB G S s H locs) (ci k : Nat) {C : String} {T : u_T} {N index : Nat} (hc : gC (S a) = ci + 1) (hcl : vwCl[ci % 12]? = some (C, T, N)) (hN : N = nf ci) (hk : k < N) (hin : ∀ w ∈ u_ws C T N, w ∈ Ts) (ty0 : Nat → FieldType) (hty : ∀ k, k < N → parseFieldDescriptor (T k).2.2.1 = some (ty0 k)) (hnm : ∀ a, a < N → ∀ b, b < N → a ≠ b → (T a).2.1 ≠ (T b).2.1) (hl : Cond.fieldLink own index (T k).1 (T k).2.1 (T k).2.2.1 ∈ Ts) (hfin : (T k).2.2.2 = true) (hdecl : (T k).1 = own) (ht : (ds ci k).1 = 4) (hti : (∃ C, ty0 k = .object C) ∨ ∃ u, ty0 k = .array u) (x : Nat) (hdg : decode cc pc = .ok (.putfield index, 3))
    (kk : ∀ (S1 : ST), S1 = st S a (sR (S a) k (some x)) → ∀ (H1 : Heap) (locs1 : List Loc), H1.size = H.size → WB G S1 s H1 locs1 → W p l e R s m args below meth c H1 locs1 cells slots Q (F0 m (pc + 3) ls rest)) : W p l e R s m args below meth c H locs cells slots Q (F0 m pc ls (.ref x :: .ref a :: rest)) :=
  m_putF0 hM hin2 (hW.at_ a) ci k hc hcl hN hk hin ty0 hty hnm hl hfin hdecl (sR (S a) k (some x)) hc (flds_sR (x := some x) (hN ▸ hk) ht) (fun _ => ⟨rfl, rfl⟩) (rf_fitT (some x) hti).1 (rf_fitT (some x) hti).2 hdg (kk _ rfl)
/-- a store into an array by itself -/
theorem WB.bare (hW : WB G S s H locs) {ci : Nat} (hc : gC (S a) = ci + 1) (hci : ¬ ci < 24) (w : GV) (hw : gC w = ci + 1) {H1 : Heap} {j : Nat} (hcell : va_at G.1 vwCl (a, hdE G a ci w) H1) (z : H1.size = H.size) (oq : ∀ q : Nat, q ≠ a → H1[q]? = H[q]?) : WB G (st S a w) s H1 (locs ++ [⟨a, j⟩]) := by
  have hW' := hW.at_ a
  exact ⟨hW'.1.upd hc w hw (x := 0) (Or.inl rfl) oq ⟨hcell, fun k hk => absurd (nf_lt hk) hci⟩, hW.2.put z oq ((hW'.1.at hc).1 0 (Or.inl rfl))⟩
theorem m_last (hM : MC G p s m args c cc Ts own) (hW : WB G S s H locs) (hc : gC (S a) = 25 + 1) {i : Int32} {x : Int64} (hin : inb i (gN (S a) 0) = true) (hdg : decode cc pc = .ok (.lastore, 1))
    (kk : ∀ (S1 : ST), S1 = st S a (sL (S a) 0 i.toNatClampNeg x) → ∀ (H1 : Heap) (locs1 : List Loc), H1.size = H.size → WB G S1 s H1 locs1 → W p l e R s m args below meth c H1 locs1 cells slots Q (F0 m (pc + 1) ls rest)) : W p l e R s m args below meth c H locs cells slots Q (F0 m pc ls (.long x :: .int i :: .ref a :: rest)) := by
  obtain ⟨h1, h2, h3, h4, h5, h6⟩ := hM
  have hg := ((hW.at_ a).1.at hc).2.1
  have hd : ∀ w : GV, hdE G a 25 w = .inl (G.2.1 2, gN w 0, .inr (.inl (gL w 0))) := fun w => rfl
  rw [hd] at hg
  have hvin := inb_in hin
  refine W.last h1 h2 hg ((h5.2 1 _ rfl).1 (gN (S a) 0) (fun j => .long (gL (S a) 0 j))) (fun q => by cases q) (by show ¬ (i < 0 ∨ (arrV _ _ _).slots.size ≤ _); rw [arrV_size]; exact hvin) rfl rfl hdg fun H1 e z oq => ?_
  refine kk _ rfl H1 _ z (hW.bare hc (by decide) (sL (S a) 0 i.toNatClampNeg x) hc ?_ z oq)
  rw [hd]
  show H1[a]? = some (vp_cell _ _)
  rw [e]
  rw [vp_cell_l, vp_cell_l, arrV_store]
  congr 2
  funext q
  by_cases hq : q = i.toNatClampNeg
  · subst hq
    simp [updV, vp_updL, gL, sL, sLf, va_up]
  · simp [updV, vp_updL, hq, gL, sL, sLf, va_up]
def sQ (v : GV) (k i : Nat) (x : Option Nat) : GV := (v.1, v.2.1, v.2.2.1, v.2.2.2.1, v.2.2.2.2.1, v.2.2.2.2.2.1, va_up v.2.2.2.2.2.2.1 k (va_up (gQ v k) i x), v.2.2.2.2.2.2.2)
theorem m_aast (hM : MC G p s m args c cc Ts own) (hW : WB G S s H locs) (hc : gC (S a) = 28 + 1) {b : Nat} (hcb : gC (S b) = 2 + 1) {i : Int32} (hin : inb i (gN (S a) 0) = true) (hdg : decode cc pc = .ok (.aastore, 1))
    (kk : ∀ (S1 : ST), S1 = st S a (sQ (S a) 0 i.toNatClampNeg (some b)) → ∀ (H1 : Heap) (locs1 : List Loc), H1.size = H.size → WB G S1 s H1 locs1 → W p l e R s m args below meth c H1 locs1 cells slots Q (F0 m (pc + 1) ls rest)) : W p l e R s m args below meth c H locs cells slots Q (F0 m pc ls (.ref b :: .int i :: .ref a :: rest)) := by
  obtain ⟨hx, hb, h3, h4, hK, h6⟩ := hM
  have hg := ((hW.at_ a).1.at hc).2.1
  have hd : ∀ w : GV, hdE G a 28 w = .inl (G.2.1 5, gN w 0, .inr (.inr (.inr (.inr (gQ w 0))))) := fun w => rfl
  rw [hd] at hg
  have hv := ((hW.at_ b).1.at hcb).2.1
  rw [hdE_o (by decide)] at hv
  have hvin := inb_in hin
  have hlt : i.toNatClampNeg < gN (S a) 0 := Nat.not_le.mp fun q => hvin (Or.inr q)
  have h0 : ¬ i < 0 := fun q => hvin (Or.inl q)
  obtain ⟨r', hr', cellV, g1, g2, g3, -⟩ := hv
  have hcls := (hK.1 2 (RX3, TX3, 13) rfl).2
  obtain ⟨kA, comp, k1, k2, k3, -⟩ := (hK.2 4 _ rfl).2
  have hcomp : comp = G.1.1 2 := Option.some.inj (k3.symm.trans hcls.1)
  subst hcomp
  obtain ⟨kC, hkC, -⟩ := hcls.2
  refine W.aast hx hb hg (fun q h => by cases h) (fun h => by cases h) k1 k2 rfl hkC ⟨h0, by show _ < (arrV _ _ _).slots.size; rw [arrV_size]; exact hlt⟩ g1 (fun q h => by rw [g3] at h; cases h) (by rw [g2]; exact hkC) (by rw [g2]; exact va_assign hcls) rfl rfl hdg fun H1 e z oq => ?_
  refine kk _ rfl H1 _ z (hW.bare hc (by decide) (sQ (S a) 0 i.toNatClampNeg (some b)) hc ?_ z oq)
  rw [hd]
  show H1[a]? = some (vp_cell _ _)
  rw [e]
  rw [vp_cell_q, vp_cell_q, arrV_store]
  congr 2
  funext q
  by_cases hq : q = i.toNatClampNeg
  · subst hq
    simp [updV, va_up, va_rf, gQ, sQ]
  · simp [updV, va_up, hq, gQ, sQ]
end MAKE2
/-! contracts of what makes cells: the heap's size is told -/
def Pn (G : GG) (S : ST) (n : Nat) (av : List Value) : Array Value → State → Prop := va_Pc av (fun U => BW G S U.heap ∧ va_K G.1 vwCl (tysOf G.2.1) U ∧ ZW G U ∧ U.heap.size = n)
def Qn (G : GG) (o : Option Value) (S' : ST) (n' : Nat) : Array Value → State → Outcome → State → Prop := fun _ st oc t => oc = .returned o ∧ BW G S' t.heap ∧ t.heap.size = n' ∧ va_F (OU G) st t
def Cn (l : Launch) (y : MethodName) (ws : List Cond) (rm : Room) (G : GG) (S : ST) (n : Nat) (av : List Value) (o : Option Value) (S' : ST) (n' mc ms : Nat) : Prop := Met l y ws rm (Pn G S n av) (Qn G o S' n') mc ms (OU G)
theorem Pn_blind (G : GG) (S : ST) (n : Nat) (av : List Value) : FrameBlind (Pn G S n av) := fun a U g mk q => by
  obtain ⟨q0, q1, qK, qD, qn⟩ := q
  exact ⟨q0, q1, va_K.moved (u := U) (U := U.calling g mk a) (Vm.Alike.refl U.vm) qK, ⟨⟨qD.1.1, vk_R.same (u := U) (U := U.calling g mk a) rfl qD.1.2.1, va_AO.moved (u := U) (U := U.calling g mk a) (Vm.Alike.refl U.vm) qD.1.2.2.1, NW.same (u := U) (U := U.calling g mk a) rfl qD.1.2.2.2⟩, CW.moved (u := U) (U := U.calling g mk a) (Vm.Alike.refl U.vm) qD.2⟩, qn⟩
section MAKE3
variable {G : GG} {p : Program} {l : Launch} {e : Env} {R : Room} {s : State} {m : MethodId} {args : Array Value} {below : List Frame} {meth : Method} {c : Code} {H : Heap} {locs : List Loc} {cells slots : Nat} {Q : State → Prop}
variable {cc : ByteArray} {pc : Nat} {ls : Array Slot} {rest st0 : List Value} {Ts : List Cond} {own : String} {S : ST} {v : GV} {a : Nat}
theorem n_ret {S1 : ST} {n' : Nat} (hW : WB G S1 s H locs) (hz : H.size = n') (o : Option Value) : ∀ t : State, t.heap = H → s.WarmedH t.vm → Qn G o S1 n' args s (.returned o) t := fun t ht _ => ⟨rfl, by rw [ht]; exact hW.1, by rw [ht]; exact hz, hW.2.F ht⟩
theorem n_call {S2 : ST} {o : Option Value} {n' mc ms : Nat} {ac : Array Value} (hW : WB G S s H locs) (hr : va_Run p l e R s m args below meth c H locs cells slots mc ms (F0 m pc ls rest) st0 (Qn G o S2 n' ac) (OU G))
    (kk : ∀ (H1 : Heap) (locs1 : List Loc), H1.size = n' → WB G S2 s H1 locs1 → W p l e R s m args below meth c H1 locs1 (cells + mc) (slots + ms) Q (F0 m (pc + 3) ls (o.toList ++ st0))) : W p l e R s m args below meth c H locs cells slots Q (F0 m pc ls rest) := by
  intro T hT X
  obtain ⟨v, st₀, t, T', L, h0, X', hL, e1, e2, ⟨hv, hp, hn, hz, hk⟩, st⟩ := hr T hT X
  cases hv
  rw [h0] at hz hk
  obtain ⟨t2, a1, b1⟩ := kk T'.heap (locs ++ L) (by rw [e1]; exact hn) ⟨by rw [e1]; exact hp, ⟨Nat.le_trans hW.2.1 (by rw [e1]; exact hz), fun q h1 h2 => by rw [e1, hk q (Nat.lt_of_lt_of_le h1 hW.2.1) h2]; exact hW.2.2.1 q h1 h2, fun q hq => by
      rcases List.mem_append.mp hq with h | h
      · exact hW.2.2.2 q h
      · exact hL q h⟩⟩ T' rfl X'
  exact ⟨t2, st t2 a1, b1⟩
/-- a constructor's call -/
theorem n_init {cm cy : Cond} {S2 : ST} {b n n' : Nat} (As : List Value) (st0 : List Value) {y : MethodName} {rm : Room} {index maxL nL np mc ms : Nat} {bytes : ByteArray} (hM : MC G p s m args c cc (cm :: wsL_law0) own) (hml : c.maxLocals = nL) (hls : ls.size = nL) (hW : WB G S s H locs) (hz : H.size = n) (hC : Cn l y (cy :: wsL_law0) rm G S n (.ref b :: As) none S2 n' mc ms) (hcy : cy = Cond.code y bytes maxL none) (hcw : cy ∈ wsL_law0) (hl1 : Cond.initialized y.cls ∈ wsL_law0) (hl2 : Cond.methodLink own index y ∈ wsL_law0) (hl3 : Cond.instanceMethod y ∈ wsL_law0) (hy : y.name = "<init>") (hrc : rm.cells = mc) (hrs : rm.slots = ms) (hd : y.cls ≠ "java/lang/invoke/MethodHandle" ∧ y.cls ≠ "java/lang/invoke/VarHandle" ∧ (parseMethodDescriptor y.desc).map (fun d => d.parameters.length) = some np) (hR : rm.frames + 1 ≤ R.frames ∧ 8 + (maxL + 11) + rm.locals ≤ R.locals) (hn : As.length = np) (hstack : rest = As.reverse ++ .ref b :: st0) (hr : (st0.map fun v => v.category).sum ≤ 8) (hf : cells + mc ≤ R.cells ∧ slots + ms ≤ R.slots) (hdg : decode cc pc = .ok (.invokespecial index, 3))
    (kk : ∀ (H1 : Heap) (locs1 : List Loc), H1.size = n' → WB G S2 s H1 locs1 → W p l e R s m args below meth c H1 locs1 (cells + mc) (slots + ms) Q (F0 m (pc + 3) ls st0)) : W p l e R s m args below meth c H locs cells slots Q (F0 m pc ls rest) := by
  have hG : GoodIn (cm :: wsL_law0) (cy :: wsL_law0) := by
    intro w hw
    have : w ∈ wsL_law0 := by
      rcases List.mem_cons.mp hw with rfl | h
      · exact hcw
      · exact h
    exact ⟨List.mem_cons_of_mem _ this, good_of_word (List.all_eq_true.mp WG_good w this)⟩
  have hcb : CallB R s args own index y bytes maxL none (cy :: wsL_law0) rm mc ms np := callB_of np hM.2.2.2.1 hG (by rw [hcy]) hrc hrs (hM.2.2.2.1 _ (wgm hl1)) (hM.2.2.2.1 _ (wgm hl2)) hd hR
  have hpre : PreS s H (Pn G S n (.ref b :: As)) (.ref b :: As) := by
    refine ⟨Pn_blind _ _ _ _, fun U hU hw => ?_⟩
    obtain ⟨q0, q1, q2, q3⟩ := (b_preS (As := .ref b :: As) hM hW).2 U hU hw
    exact ⟨q0, q1, q2, q3, by rw [hU]; exact hz⟩
  exact n_call hW (va_runI (g := F0 m pc ls rest) (As := As) (rest := st0) ⟨hM.1, hM.2.1, hml, hM.2.2.1, hM.2.2.2.1⟩ hC ⟨hcb, hy, hM.2.2.2.1 _ (wgm hl3)⟩ hpre rfl hn hls hstack (lv_room hr) hdg hf) kk
/-- a call of a private constructor of the nest -/
theorem n_initN {cm cy : Cond} {S2 : ST} {b n n' : Nat} (As : List Value) (st0 : List Value) {y : MethodName} {rm : Room} {index maxL nL np mc ms : Nat} {bytes : ByteArray} (hM : MC G p s m args c cc (cm :: wsL_law0) RX12) (hml : c.maxLocals = nL) (hls : ls.size = nL) (hW : WB G S s H locs) (hz : H.size = n) (hC : Cn l y (cy :: wsL_law0) rm G S n (.ref b :: As) none S2 n' mc ms) (hcy : cy = Cond.code y bytes maxL none) (hcw : cy ∈ wsL_law0) (hl1 : Cond.initialized y.cls ∈ wsL_law0) (hl2 : (index, y) ∈ NWl) (hl3 : Cond.instanceMethod y ∈ wsL_law0) (hy : y.name = "<init>") (hrc : rm.cells = mc) (hrs : rm.slots = ms) (hd : y.cls ≠ "java/lang/invoke/MethodHandle" ∧ y.cls ≠ "java/lang/invoke/VarHandle" ∧ (parseMethodDescriptor y.desc).map (fun d => d.parameters.length) = some np) (hR : rm.frames + 1 ≤ R.frames ∧ 8 + (maxL + 11) + rm.locals ≤ R.locals) (hn : As.length = np) (hstack : rest = As.reverse ++ .ref b :: st0) (hr : (st0.map fun v => v.category).sum ≤ 8) (hf : cells + mc ≤ R.cells ∧ slots + ms ≤ R.slots) (hdg : decode cc pc = .ok (.invokespecial index, 3))
    (kk : ∀ (H1 : Heap) (locs1 : List Loc), H1.size = n' → WB G S2 s H1 locs1 → W p l e R s m args below meth c H1 locs1 (cells + mc) (slots + ms) Q (F0 m (pc + 3) ls st0)) : W p l e R s m args below meth c H locs cells slots Q (F0 m pc ls rest) := by
  have hG : GoodIn (cm :: wsL_law0) (cy :: wsL_law0) := by
    intro w hw
    have : w ∈ wsL_law0 := by
      rcases List.mem_cons.mp hw with rfl | h
      · exact hcw
      · exact h
    exact ⟨List.mem_cons_of_mem _ this, good_of_word (List.all_eq_true.mp WG_good w this)⟩
  have hcb : va_CN R s args RX12 index y RX12 bytes maxL none (cy :: wsL_law0) rm mc ms np := va_cnB np hM.2.2.2.1 hG (by rw [hcy]) hrc hrs (hM.2.2.2.2.2.1.2.2.2 _ hl2) (hM.2.2.2.1 _ (wgm hl1)) hd hR
  have hpre : PreS s H (Pn G S n (.ref b :: As)) (.ref b :: As) := by
    refine ⟨Pn_blind _ _ _ _, fun U hU hw => ?_⟩
    obtain ⟨q0, q1, q2, q3⟩ := (b_preS (As := .ref b :: As) hM hW).2 U hU hw
    exact ⟨q0, q1, q2, q3, by rw [hU]; exact hz⟩
  exact n_call hW (va_runIN (g := F0 m pc ls rest) (As := As) (rest := st0) ⟨hM.1, hM.2.1, hml, hM.2.2.1, hM.2.2.2.1⟩ hC ⟨hcb, hy, hM.2.2.2.1 _ (wgm hl3)⟩ hpre rfl hn hls hstack (lv_room hr) hdg hf) kk
theorem wd_oi : Cond.instanceMethod objectInit ∈ wsL_law0 := wg_r1 _ (by decide +kernel)
theorem wd_oc : Cond.code objectInit ⟨#[0xb1]⟩ 1 none ∈ wsL_law0 := wg_r1 _ (by decide +kernel)
theorem wd_al : Cond.arrayClass .long ∈ wsL_law0 := wg_r1 _ (by decide +kernel)
theorem wd_ai : Cond.arrayClass .int ∈ wsL_law0 := wg_r2 _ (by decide +kernel)
theorem wd_ac : Cond.arrayClass .char ∈ wsL_law0 := wg_r3 _ (by decide +kernel)
theorem wd_ab : Cond.arrayClass .boolean ∈ wsL_law0 := wg_r9 _ (by decide +kernel)
theorem n_obj {cm : Cond} {index nL : Nat} (hM : MC G p s m args c cc (cm :: wsL_law0) own) (hml : c.maxLocals = nL) (hls : ls.size = nL) (hl : Cond.methodLink own index objectInit ∈ wsL_law0) (hR : 1 ≤ R.frames) (hL : (rest.map fun v => v.category).sum + 12 ≤ R.locals) (hdg : decode cc pc = .ok (.invokespecial index, 3))
    (kk : W p l e R s m args below meth c H locs cells slots Q (F0 m (pc + 3) ls rest)) : W p l e R s m args below meth c H locs cells slots Q (F0 m pc ls (.ref a :: rest)) := by
  refine W.objInit hM.1 hM.2.1 hM.2.2.1 (hM.2.2.2.1 _ (wgm hl)) (hM.2.2.2.1 _ (wgm wd_oi)) (hM.2.2.2.1 _ (wgm wd_oc)) rfl (by rw [hml]; exact hls) rfl hdg hR (by show 2 * 0 + _ + _ ≤ _; omega) ?_
  exact W.eq rfl kk
end MAKE3
