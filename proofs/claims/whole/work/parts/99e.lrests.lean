/-! ===== the law's own rests, which catches ===== -/
def Qr9 (G : GG) (S : ST) : Array Value → State → Outcome → State → Prop := fun _ st oc t => oc = oc ∧ BW G S t.heap ∧ va_F (OU G) st t
/-- the state behind the law's rests: out holds the answer -/
def lrS (S : ST) (oa : Nat) : Option Int32 → ST
  | some z => st S oa (sL (S oa) 0 0 z.toInt64)
  | none => S
def Qlr (G : GG) (o : Option Int32) (S : ST) (oa : Nat) : Array Value → State → Outcome → State → Prop := fun _ st oc t => oc = .returned (some (.int (thr o))) ∧ BW G (lrS S oa o) t.heap ∧ va_F (OU G) st t
abbrev w_L_rests : List Cond := Cond.codeWith yL_rests cL_rests 7 (some .int) [(0, 14, 17, 13)] :: WX
abbrev v_L_rests : List Cond := Cond.codeWith yL_rests cL_rests 7 (some .int) [(0, 14, 17, 13)] :: wsL_law0
abbrev RM_L_rests : Room := { frames := 7, cells := 1, slots := 6, locals := 130 }
theorem gVx {cm cy : Cond} {own C : String} {idx : Nat} {y : MethodName} (h1 : Cond.methodLink own idx y ∈ wsL_law0) (h2 : Cond.instanceMethod y ∈ wsL_law0) (h3 : Cond.selects C y y ∈ wsL_law0) (h4 : Cond.initialized C ∈ wsL_law0) (h5 : cy ∈ wsL_law0) : GoodIn (cm :: WX) (wsV own idx C y (cy :: WX)) := by
  intro w hw
  have : w ∈ WX := by
    unfold wsV at hw
    simp only [List.mem_append, List.mem_cons, List.not_mem_nil, or_false] at hw
    rcases hw with (rfl | rfl | rfl | rfl) | rfl | h | h
    · exact List.mem_append_left _ h1
    · exact List.mem_append_left _ h2
    · exact List.mem_append_left _ h3
    · exact List.mem_append_left _ h4
    · exact List.mem_append_left _ h5
    · exact List.mem_append_left _ h
    · exact List.mem_append_right _ h
  exact ⟨List.mem_cons_of_mem _ this, good_of_word (WX_good this)⟩
theorem gSx {cm cy : Cond} {own : String} {idx : Nat} {y : MethodName} (h1 : Cond.methodLink own idx y ∈ wsL_law0) (h2 : Cond.static y ∈ wsL_law0) (h4 : Cond.initialized y.cls ∈ wsL_law0 ∨ Cond.initialized y.cls = cm) (h5 : cy ∈ wsL_law0) (hg : goodWord cm = true) : GoodIn (cm :: WX) (va_wsS own idx y (cy :: WX)) := by
  intro w hw
  have : w = cm ∨ w ∈ WX := by
    unfold va_wsS at hw
    simp only [List.mem_append, List.mem_cons, List.not_mem_nil, or_false] at hw
    rcases hw with (rfl | rfl | rfl) | rfl | h | h
    · exact Or.inr (List.mem_append_left _ h1)
    · exact Or.inr (List.mem_append_left _ h2)
    · rcases h4 with h4 | h4
      · exact Or.inr (List.mem_append_left _ h4)
      · exact Or.inl h4
    · exact Or.inr (List.mem_append_left _ h5)
    · exact Or.inr (List.mem_append_left _ h)
    · exact Or.inr (List.mem_append_right _ h)
  rcases this with rfl | h
  · exact ⟨List.mem_cons_self, good_of_word hg⟩
  · exact ⟨List.mem_cons_of_mem _ h, good_of_word (WX_good h)⟩
section LR
variable {G : GG} {p : Program} {l : Launch} {e : Env} {R : Room} {s : State} {m : MethodId} {args : Array Value} {below : List Frame} {meth : Method} {c : Code} {H : Heap} {locs : List Loc} {cells slots : Nat} {Q : State → Prop}
variable {pc : Nat} {ls : Array Slot} {rest st0 : List Value} {S : ST}
theorem rx_call {o : Option Int32} {mc ms : Nat} {ac : Array Value} (hW : WB G S s H locs) (hr : vx_Run p l e R s m args below meth c H locs cells slots mc ms (F0 m pc ls rest) st0 (Qr G o S ac) (XCr G o S) (OU G))
    (kr : ∀ z, o = some z → ∀ (H1 : Heap) (locs1 : List Loc), WB G S s H1 locs1 → W p l e R s m args below meth c H1 locs1 (cells + mc) (slots + ms) Q (F0 m (pc + 3) ls (.int z :: st0)))
    (kx : o = none → ∀ (H1 : Heap) (locs1 : List Loc) (q : Nat) (ce : Cell), WB G S s H1 locs1 → H1[q]? = some ce → ce.vm = .none → s.vm.findClass NSE = some ce.cls → vx_W p l e R s m args below meth c H1 locs1 (cells + mc) (slots + ms) Q (F0 m pc ls st0) q) : W p l e R s m args below meth c H locs cells slots Q (F0 m pc ls rest) := by
  intro T hT X
  have key : ∀ {t T' : State} {st₀ : State} {L : List Loc}, st₀.heap = H → T'.heap = t.heap → (∀ q ∈ L, OU G q.base) → BW G S t.heap → va_F (OU G) st₀ t → WB G S s T'.heap (locs ++ L) := by
    intro t T' st₀ L h0 e1 hL hB hF
    obtain ⟨hz, hk⟩ := hF
    rw [h0] at hz hk
    exact ⟨by rw [e1]; exact hB, ⟨Nat.le_trans hW.2.1 (by rw [e1]; exact hz), fun q h1 h2 => by rw [e1, hk q (Nat.lt_of_lt_of_le h1 hW.2.1) h2]; exact hW.2.2.1 q h1 h2, fun q hq => by
      rcases List.mem_append.mp hq with h | h
      · exact hW.2.2.2 q h
      · exact hL q h⟩⟩
  rcases hr T hT X with ⟨v, st₀, t, T', L, h0, X', hL, e1, e2, ⟨z, ho, hv, hB, hF⟩, st⟩ | ⟨q, st₀, t, T', L, E, ce, h0, X', hL, e1, e2, ⟨ho, hE, hB, hF⟩, hce, hcv, hcl, st⟩
  · cases hv
    obtain ⟨t2, a1, b1⟩ := kr z ho T'.heap (locs ++ L) (key h0 e1 hL hB hF) T' rfl X'
    exact ⟨t2, st t2 a1, b1⟩
  · subst hE
    obtain ⟨t2, a1, b1⟩ := kx ho T'.heap (locs ++ L) q ce (key h0 e1 hL hB hF) (by rw [e1]; exact hce) hcv hcl T' rfl X'
    exact ⟨t2, st.trans a1, b1⟩
end LR
set_option maxHeartbeats 4000000 in
set_option maxRecDepth 100000 in
theorem c_L_rests (l : Launch) (hst : l.stackTraces = false) (G : GG) (fu : Nat) (S : ST) (a oa k1 k2 : Nat) (x1 x2 x3 x4 : Int32) {o : Option Int32} (ha : gC (S a) = 11) (ho : gC (S oa) = 26) (hn : gN (S oa) 0 = 1) (hf : f_X12_rests fu x1 x2 x3 x4 = some o) : vx_Met l yL_rests w_L_rests RM_L_rests (Px G S k1 k2 [.ref a, .int x1, .int x2, .int x3, .int x4, .ref oa]) (Qlr G o S oa) (fun _ _ _ => False) 1 6 (OU G) := by
  refine vx_ofWH (cc := cL_rests) (maxL := 7) (ret := (some .int)) (hh := [(0, 14, 17, 13)]) (by decide) rfl ?_
  intro p e s m args below meth c s₁ B hml hv
  obtain ⟨rfl, ⟨hB, hK, hz⟩, hX⟩ := hv
  have hw0 : ∀ w ∈ w_L_rests, w.before _ s = true := atoms_spec (ws := w_L_rests) B.pre
  have htb := vx_table (x := yL_rests) B (hw0 _ List.mem_cons_self)
  have hM : MC G p s m _ c cL_rests v_L_rests RL := ⟨B.exec, B.bytes, findClass_of_methodNamed B.named, fun w h => hw0 w ((List.mem_cons.mp h).elim (fun q => by rw [q]; exact List.mem_cons_self) (fun q => List.mem_cons_of_mem _ (List.mem_append_left _ q))), hK, hz⟩
  have hW : WB G S s s.heap [] := ⟨hB, va_S.rf⟩
  have hl := lv_entry ([.ref a, .int x1, .int x2, .int x3, .int x4, .ref oa]) (n := 7) (Nat.le_of_ble_eq_true rfl)
  rw [lg_entry_eq]
  generalize (lg_sl ([.ref a, .int x1, .int x2, .int x3, .int x4, .ref oa]) ++ List.replicate (7 - (lg_sl ([.ref a, .int x1, .int x2, .int x3, .int x4, .ref oa])).length) Slot.unset).toArray = ls at hl ⊢
  have hl : lv_has ls 7 [(0, .ref a), (1, .int x1), (2, .int x2), (3, .int x3), (4, .int x4), (5, .ref oa)] := hl
  have hx := hM.1
  have hb := hM.2.1
  refine lv_aload hx hb dL_rests_0 (lv_at hl 5 rfl) ?_
  refine lv_iconst (v := (0 : Int32)) hx hb dL_rests_2 (by decide) ?_
  refine lv_aload_n hx hb dL_rests_3 rfl (lv_at hl 0 rfl) ?_
  refine lv_iload_n hx hb dL_rests_4 rfl (lv_at hl 1 rfl) ?_
  refine lv_iload_n hx hb dL_rests_5 rfl (lv_at hl 2 rfl) ?_
  refine lv_iload_n hx hb dL_rests_6 rfl (lv_at hl 3 rfl) ?_
  refine lv_iload hx hb dL_rests_7 (lv_at hl 4 rfl) ?_
  have hpre : PreV s s.heap RX12 a (Px G S k1 k2 (.ref a :: [.int x1, .int x2, .int x3, .int x4])) [.int x1, .int x2, .int x3, .int x4] := by
    have q := b_preV (S1 := S) (b := a) (w := S a) (ci := 10) (C := RX12) (As := [.int x1, .int x2, .int x3, .int x4]) hM (hW.at_ a) ha (by decide) rfl
    refine ⟨Px_blind _ _ _ _ _, q.2.1, fun U hU hw => ?_⟩
    obtain ⟨q0, q1⟩ := q.2.2 U hU hw
    rw [st_self] at q1
    exact ⟨q0, q1, XZ_next hX hW.2 hU hw⟩
  refine rx_call (mc := 1) (ms := 6) hW (vx_runV (g := F0 m 9 ls [.int x4, .int x3, .int x2, .int x1, .ref a, .int 0, .ref oa]) (As := [.int x1, .int x2, .int x3, .int x4]) (rest := [.int 0, .ref oa]) ⟨hM.1, hM.2.1, hml, hM.2.2.1, hw0⟩ (c_X12_rests l hst G fu S a k1 k2 x1 x2 x3 x4 hf) (cwV 4 hw0 (gVx mk_RL_7 im_X12_rests se_X12_rests it_RX12 cd_X12_rests) rfl rfl rfl (by decide +kernel) ⟨Nat.le_of_ble_eq_true rfl, Nat.le_of_ble_eq_true rfl⟩) hpre rfl rfl hl.1 rfl (lv_room (Nat.le_of_ble_eq_true rfl)) dL_rests_9 ⟨Nat.le_of_ble_eq_true rfl, Nat.le_of_ble_eq_true rfl⟩) (fun z hz H1 locs1 hW => ?_) (fun hz H1 locs1 q ce hW hce hcv hcl => ?_)
  · subst hz
    refine W.eq (g2 := F0 m 12 ls [.int z, .int 0, .ref oa]) rfl ?_
    refine lv_i2l hx hb dL_rests_12 rfl ?_
    refine m_last hM hW ho (by rw [hn]; decide) dL_rests_13 (fun S1 e1 H1 locs1 hz1 hW => ?_)
    refine lv_goto (tgt := 21) hx hb dL_rests_14 (by decide) ?_
    refine lv_iconst (v := (0 : Int32)) hx hb dL_rests_21 (by decide) ?_
    refine vx_ret ?_
    exact W.iret hx hb B.returns (fun t ht _ => ⟨rfl, by rw [ht]; show BW G (lrS S oa (some z)) H1; rw [lrS]; rw [show (0 : Int32).toNatClampNeg = 0 by decide] at e1; rw [← e1]; exact hW.1, hW.2.F ht⟩) hW.2.2.2 dL_rests_22 B.notSynchronized
  · subst hz
    refine vx_catch (own := RL) (name := NSE) (E := NSE) hM.2.2.1 [] { startPc := 0, endPc := 14, handlerPc := 17, catchType := 13 } [] (htb.trans rfl) (fun z h => absurd h List.not_mem_nil) (by decide) (by decide) (hM.2.2.2.1 _ (wgm kc_RL_13)) (hX.2.2.2.2.use (by decide +kernel)) hce hcv hcl ?_
    refine lv_astore (lv' := [(6, .ref q), (0, .ref a), (1, .int x1), (2, .int x2), (3, .int x3), (4, .int x4), (5, .ref oa)]) hx hb dL_rests_17 hl (by decide) rfl (fun ls hl => ?_)
    refine lv_iconst (v := (1 : Int32)) hx hb dL_rests_19 (by decide) ?_
    refine vx_ret ?_
    exact W.iret hx hb B.returns (fun t ht _ => ⟨rfl, by rw [ht]; exact hW.1, hW.2.F ht⟩) hW.2.2.2 dL_rests_20 B.notSynchronized
