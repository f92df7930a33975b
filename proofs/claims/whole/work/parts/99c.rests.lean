/-! ===== rests: the class's own method, which throws, and the law's, which catches ===== -/
theorem nse_ini : Cond.initialized NSE ∈ wsL_law0 := wg_r61 _ (by decide +kernel)
def xv : List Cond := (nxA RX12 325).filter vx_no
def xw : List Cond := xv.filter goodWord
abbrev WX : List Cond := wsL_law0 ++ xw
/-- the words of a throw that a warmer machine keeps by laws of their own -/
def xb : List Cond := [Cond.castable NSE NSE, Cond.declares (Bundle.initS "java/lang/RuntimeException"), Cond.declares (Bundle.initS "java/lang/Exception"), Cond.declares (Bundle.initS Bundle.tN)]
def XB (U : State) : Prop := va_Nw (Cond.castable NSE NSE) U ∧ va_Nw (Cond.declares (Bundle.initS "java/lang/RuntimeException")) U ∧ va_Nw (Cond.declares (Bundle.initS "java/lang/Exception")) U ∧ va_Nw (Cond.declares (Bundle.initS Bundle.tN)) U
theorem XB.warm {s U : State} (hW : s.WarmedH U.vm) (h : XB s) : XB U := ⟨va_Nw.warmC hW h.1, va_Nw.warmD hW h.2.1, va_Nw.warmD hW h.2.2.1, va_Nw.warmD hW h.2.2.2⟩
theorem XB.same {u U : State} (hv : u.vm = U.vm) (h : XB u) : XB U := ⟨va_Nw.same rfl hv h.1, va_Nw.same rfl hv h.2.1, va_Nw.same rfl hv h.2.2.1, va_Nw.same rfl hv h.2.2.2⟩
theorem XB.use {U : State} {A : Array Value} (h : XB U) {w : Cond} (hw : w ∈ xb) : w.before A U = true := by
  simp only [xb, List.mem_cons, List.not_mem_nil, or_false] at hw
  rcases hw with rfl | rfl | rfl | rfl
  · exact va_Nw.use rfl h.1
  · exact va_Nw.use rfl h.2.1
  · exact va_Nw.use rfl h.2.2.1
  · exact va_Nw.use rfl h.2.2.2
theorem xb_ot {w : Cond} (hw : w ∈ xb) : vx_ot w = true := by
  simp only [xb, List.mem_cons, List.not_mem_nil, or_false] at hw
  rcases hw with rfl | rfl | rfl | rfl <;> rfl
theorem xw_nb : (xv.all fun w => goodWord w || decide (w ∈ xb)) = true := by decide +kernel
theorem xw_or {w : Cond} (h : w ∈ xv) : goodWord w = true ∨ w ∈ xb := by
  have := List.all_eq_true.mp xw_nb w h
  rw [Bool.or_eq_true, decide_eq_true_eq] at this
  exact this
theorem WX_good {w : Cond} (h : w ∈ WX) : goodWord w = true := by
  rcases List.mem_append.mp h with h | h
  · exact List.all_eq_true.mp WG_good w h
  · exact (List.mem_filter.mp h).2
theorem BW.kept {G : GG} {S : ST} {H H1 : Heap} (h : BW G S H) (o : ∀ q : Nat, q < H.size → H1[q]? = H[q]?) : BW G S H1 := by
  refine ⟨fun b d hb => ?_, h.2⟩
  obtain ⟨g1, g2, g3⟩ := h.1 b d hb
  exact ⟨g1, g2.kept (o _ g2.lt), fun k hk hk2 => (g3 k hk hk2).kept (o _ (g3 k hk hk2).lt)⟩
/-- what a throw rests on -/
def XZ (G : GG) (k1 k2 : Nat) (U : State) : Prop := vk_R RX12 323 "no such auction" k1 U ∧ vk_R RX12 332 "no such rest" k2 U ∧ vx_Zq Bundle.tN "UNASSIGNED_STACK" Bundle.steD (OU G) U U.heap ∧ vx_Zq Bundle.tN "SUPPRESSED_SENTINEL" Bundle.listD (OU G) U U.heap ∧ XB U
theorem XZ_next {G : GG} {k1 k2 : Nat} {s U : State} {H : Heap} {locs : List Loc} (h : XZ G k1 k2 s) (hS : va_S (OU G) s.heap H locs) (hU : U.heap = H) (hw : s.WarmedH U.vm) : XZ G k1 k2 U :=
  ⟨h.1.warm hw, h.2.1.warm hw, by rw [hU]; exact vx_Zq.moved hw.alike (h.2.2.1.kept hS.2.1), by rw [hU]; exact vx_Zq.moved hw.alike (h.2.2.2.1.kept hS.2.1), h.2.2.2.2.warm hw⟩
def Px (G : GG) (S : ST) (k1 k2 : Nat) (av : List Value) : Array Value → State → Prop := va_Pc av (fun U => (BW G S U.heap ∧ va_K G.1 vwCl (tysOf G.2.1) U ∧ ZW G U) ∧ XZ G k1 k2 U)
theorem Px_blind (G : GG) (S : ST) (k1 k2 : Nat) (av : List Value) : FrameBlind (Px G S k1 k2 av) := fun a U g mk q => by
  obtain ⟨q0, q1, q2⟩ := q
  obtain ⟨-, hz⟩ := Pz_blind G S av a U g mk ⟨q0, q1⟩
  exact ⟨q0, hz, vk_R.same (u := U) (U := U.calling g mk a) rfl q2.1, vk_R.same (u := U) (U := U.calling g mk a) rfl q2.2.1, vx_Zq.moved (u := U) (U := U.calling g mk a) (Vm.Alike.refl U.vm) q2.2.2.1, vx_Zq.moved (u := U) (U := U.calling g mk a) (Vm.Alike.refl U.vm) q2.2.2.2.1, XB.same (u := U) (U := U.calling g mk a) rfl q2.2.2.2.2⟩
def Qr (G : GG) (o : Option Int32) (S : ST) : Array Value → State → Outcome → State → Prop := fun _ st oc t => ∃ z, o = some z ∧ oc = .returned (some (.int z)) ∧ BW G S t.heap ∧ va_F (OU G) st t
def XCr (G : GG) (o : Option Int32) (S : ST) : String → State → State → Prop := fun E st t => o = none ∧ E = NSE ∧ BW G S t.heap ∧ va_F (OU G) st t
abbrev RM_X12_rests : Room := { frames := 6, cells := 1, slots := 6, locals := 100 }
abbrev w_X12_rests : List Cond := Cond.code yX12_rests cX12_rests 7 (some .int) :: WX
abbrev v_X12_rests : List Cond := Cond.code yX12_rests cX12_rests 7 (some .int) :: wsL_law0
section RX
variable {G : GG} {p : Program} {l : Launch} {e : Env} {s : State} {m : MethodId} {args : Array Value} {below : List Frame} {meth : Method} {c : Code} {S : ST} {fu k1 k2 a : Nat} {x1 x2 x3 x4 : Int32}
theorem rx_throw {H : Heap} {locs : List Loc} {ls : Array Slot} {is sa pc : Nat} {tx : String} (hM : MC G p s m args c cX12_rests v_X12_rests RX12) (hml : c.maxLocals = 7) (hls : ls.size = 7) (hlk : meth.locks = false) (hout : ∀ x ∈ c.exceptionTable.toList, False) (hst : l.stackTraces = false) (hw : ∀ w ∈ WX, w.before args s = true) (hX : XZ G k1 k2 s) (hR : vk_R RX12 is tx sa s) (hW : WB G S s H locs)
    (d0 : decode cX12_rests pc = .ok (.new 321, 3)) (d3 : decode cX12_rests (pc + 3) = .ok (.dup, 1)) (d4 : decode cX12_rests (pc + 4) = .ok (.ldc_w is, 3)) (d7 : decode cX12_rests (pc + 7) = .ok (.invokespecial 325, 3)) (d10 : decode cX12_rests (pc + 10) = .ok (.athrow, 1)) : W p l e RM_X12_rests s m args below meth c H locs 0 0 (vx_MQ below (Qr G none S) (XCr G none S) args s 1 6 (OU G)) (F0 m pc ls []) := by
  refine nx_throw hM.1 hM.2.1 hst hM.2.2.1 (hw _ (List.mem_append_left _ kc_RX12_321)) (hw _ (List.mem_append_left _ nse_ini)) hR (fun w h => (xw_or h).elim (fun g => hw w (List.mem_append_right _ (List.mem_filter.mpr ⟨h, g⟩))) (fun g => hX.2.2.2.2.use g)) ?_ hX.2.2.1 hX.2.2.2.1 hW.2 (hls.trans hml.symm) d0 d3 d4 d7 d10 (fun x hx => absurd (hout x hx) id) (by decide) (by decide) (by decide) (by decide) hlk ?_ hW.2.2.2 (by decide) (by decide)
  · intro w h
    have hg : goodWord w = true ∨ w ∈ xb := by
      rcases List.mem_cons.mp h with rfl | h
      · exact Or.inl (WX_good (List.mem_append_left _ kc_RX12_321))
      · rcases List.mem_cons.mp h with rfl | h
        · exact Or.inl (WX_good (List.mem_append_left _ nse_ini))
        · exact xw_or h
    rcases hg with hg | hg
    · unfold vx_ot
      rw [hg, Bool.or_true]
    · exact xb_ot hg
  · intro t hv hz hq
    exact ⟨rfl, rfl, hW.1.kept hq, Nat.le_trans hW.2.1 hz, fun q h1 h2 => by rw [hq q (Nat.lt_of_lt_of_le h1 hW.2.1)]; exact hW.2.2.1 q h1 h2⟩
theorem rx_ret {H : Heap} {locs : List Loc} {ls : Array Slot} {pc : Nat} {z : Int32} (hM : MC G p s m args c cX12_rests v_X12_rests RX12) (hr : meth.sig.returnType = some .int) (hlk : meth.locks = false) (hW : WB G S s H locs) (hdg : decode cX12_rests pc = .ok (.ireturn, 1)) : W p l e RM_X12_rests s m args below meth c H locs 0 0 (vx_MQ below (Qr G (some z) S) (XCr G (some z) S) args s 1 6 (OU G)) (F0 m pc ls [.int z]) := by
  refine W.widen (k := 1) (n := 6) (Nat.zero_le _) (Nat.zero_le _) (vx_ret ?_)
  exact W.iret hM.1 hM.2.1 hr (fun t ht _ => ⟨z, rfl, rfl, by rw [ht]; exact hW.1, hW.2.F ht⟩) hW.2.2.2 hdg hlk
set_option maxHeartbeats 4000000 in
set_option maxRecDepth 100000 in
theorem t_X12_rests_43 (hM : MC G p s m args c cX12_rests v_X12_rests RX12) (hml : c.maxLocals = 7) (hr : meth.sig.returnType = some .int) (hlk : meth.locks = false) (hout : ∀ x ∈ c.exceptionTable.toList, False) (hst : l.stackTraces = false) (hw : ∀ w ∈ WX, w.before args s = true) (hX : XZ G k1 k2 s) (n : Nat) : ∀ (x5 x6 : Int32) (o : Option Int32), f_X12_rests_43 fu n x1 x2 x3 x4 x5 x6 = some o → ∀ (H : Heap) (locs : List Loc), WB G S s H locs → ∀ (ls : Array Slot), lv_has ls 7 [(0, .ref a), (1, .int x1), (2, .int x2), (3, .int x3), (4, .int x4), (5, .int x5), (6, .int x6)] → W p l e RM_X12_rests s m args below meth c H locs 0 0 (vx_MQ below (Qr G o S) (XCr G o S) args s 1 6 (OU G)) (F0 m 43 ls []) := by
  have hx := hM.1
  have hb := hM.2.1
  induction n with
  | zero => intro x5 x6 o hf; cases hf
  | succ n ih =>
    intro x5 x6 o hf H locs hW ls hl
    have hf : f_X12_rests_43s fu (f_X12_rests_43 fu n x1 x2 x3 x4) x1 x2 x3 x4 x5 x6 = some o := hf
    unfold f_X12_rests_43s at hf
    refine lv_iload hx hb dX12_rests_43 (lv_at hl 6 rfl) ?_
    refine lv_bipush (v := (100 : Int32)) hx hb dX12_rests_45 (by decide) ?_
    refine lv_icmp_ge (tgt := 88) hx hb dX12_rests_47 (by decide) (fun c1 => ?_) (fun c1 => ?_)
    · have hf := if_t c1 hf
      refine lv_iload hx hb dX12_rests_88 (lv_at hl 4 rfl) ?_
      refine lv_iconst (v := (-1 : Int32)) hx hb dX12_rests_90 (by decide) ?_
      refine lv_icmp_eq (tgt := 105) hx hb dX12_rests_91 (by decide) (fun c2 => ?_) (fun c2 => ?_)
      · have hf := if_t c2 hf
        refine lv_iload hx hb dX12_rests_105 (lv_at hl 5 rfl) ?_
        cases hf
        exact rx_ret hM hr hlk hW dX12_rests_107
      · have hf := if_f c2 hf
        cases hf
        exact rx_throw hM hml hl.1 hlk hout hst hw hX hX.2.1 hW dX12_rests_94 dX12_rests_97 dX12_rests_98 dX12_rests_101 dX12_rests_104
    · have hf := if_f c1 hf
      refine lv_iload_n hx hb dX12_rests_50 rfl (lv_at hl 1 rfl) ?_
      refine lv_iload_n hx hb dX12_rests_51 rfl (lv_at hl 2 rfl) ?_
      refine lv_iload_n hx hb dX12_rests_52 rfl (lv_at hl 3 rfl) ?_
      refine lv_iload hx hb dX12_rests_53 (lv_at hl 6 rfl) ?_
      refine lv_bipush (v := (10 : Int32)) hx hb dX12_rests_55 (by decide) ?_
      refine lv_idiv hx hb dX12_rests_57 (by decide) ?_
      refine lv_iload hx hb dX12_rests_58 (lv_at hl 6 rfl) ?_
      refine lv_bipush (v := (10 : Int32)) hx hb dX12_rests_60 (by decide) ?_
      refine lv_irem hx hb dX12_rests_62 (by decide) ?_
      obtain ⟨r3, hr3, hf⟩ := bd_elim hf
      refine s_callSi [.int x1, .int x2, .int x3, .int (x6 / (10 : Int32)), .int (x6 - x6 / (10 : Int32) * (10 : Int32))] [] hM hml hl.1 hW (c_X12_isRest l G fu _ _ _ _ _ _ hr3) (va_cwS 5 hM.2.2.2.1 (gS mk_RX12_328 sm_X12_isRest it_RX12 cd_X12_isRest) rfl rfl rfl (by decide +kernel) ⟨Nat.le_of_ble_eq_true rfl, Nat.le_of_ble_eq_true rfl⟩) rfl rfl (Nat.le_of_ble_eq_true rfl) ⟨Nat.zero_le _, Nat.zero_le _⟩ dX12_rests_63 (fun H locs hW hk => ?_)
      refine lv_if_eq (tgt := 82) hx hb dX12_rests_66 (by decide) (fun c4 => ?_) (fun c4 => ?_)
      · have hf := if_t c4 hf
        obtain ⟨y6, ey6⟩ : ∃ y : Int32, y = x6 + (1 : Int32) := ⟨_, rfl⟩
        have hf := nm_at ey6 hf
        refine lv_iinc (v := y6) (lv' := [(6, .int y6), (0, .ref a), (1, .int x1), (2, .int x2), (3, .int x3), (4, .int x4), (5, .int x5)]) hx hb dX12_rests_82 hl (k := 6) rfl (by rw [ey6]; rfl) (by decide) rfl (fun ls hl => ?_)
        refine lv_goto (tgt := 43) hx hb dX12_rests_85 (by decide) ?_
        exact ih x5 y6 o hf H locs hW ls (lv_sub hl [1, 2, 3, 4, 5, 6, 0] rfl)
      · have hf := if_f c4 hf
        refine lv_iload hx hb dX12_rests_69 (lv_at hl 5 rfl) ?_
        refine lv_iload hx hb dX12_rests_71 (lv_at hl 4 rfl) ?_
        refine lv_icmp_ne (tgt := 79) hx hb dX12_rests_73 (by decide) (fun c5 => ?_) (fun c5 => ?_)
        · have hf := if_f c5 hf
          obtain ⟨y5, ey5⟩ : ∃ y : Int32, y = x5 + (1 : Int32) := ⟨_, rfl⟩
          have hf := nm_at ey5 hf
          obtain ⟨y6, ey6⟩ : ∃ y : Int32, y = x6 + (1 : Int32) := ⟨_, rfl⟩
          have hf := nm_at ey6 hf
          refine lv_iinc (v := y5) (lv' := [(5, .int y5), (0, .ref a), (1, .int x1), (2, .int x2), (3, .int x3), (4, .int x4), (6, .int x6)]) hx hb dX12_rests_79 hl (k := 5) rfl (by rw [ey5]; rfl) (by decide) rfl (fun ls hl => ?_)
          refine lv_iinc (v := y6) (lv' := [(6, .int y6), (5, .int y5), (0, .ref a), (1, .int x1), (2, .int x2), (3, .int x3), (4, .int x4)]) hx hb dX12_rests_82 hl (k := 6) rfl (by rw [ey6]; rfl) (by decide) rfl (fun ls hl => ?_)
          refine lv_goto (tgt := 43) hx hb dX12_rests_85 (by decide) ?_
          exact ih y5 y6 o hf H locs hW ls (lv_sub hl [2, 3, 4, 5, 6, 1, 0] rfl)
        · have hf := if_t c5 hf
          refine lv_iload hx hb dX12_rests_76 (lv_at hl 6 rfl) ?_
          cases hf
          exact rx_ret hM hr hlk hW dX12_rests_78
set_option maxHeartbeats 4000000 in
set_option maxRecDepth 100000 in
theorem c_X12_rests (l : Launch) (hst : l.stackTraces = false) (G : GG) (fu : Nat) (S : ST) (a k1 k2 : Nat) (x1 x2 x3 x4 : Int32) {o : Option Int32} (hf : f_X12_rests fu x1 x2 x3 x4 = some o) : vx_Met l yX12_rests w_X12_rests RM_X12_rests (Px G S k1 k2 [.ref a, .int x1, .int x2, .int x3, .int x4]) (Qr G o S) (XCr G o S) 1 6 (OU G) := by
  refine vx_ofW (cc := cX12_rests) (maxL := 7) (ret := (some .int)) (by decide) rfl ?_
  intro p e s m args below meth c s₁ B hml hout hv
  obtain ⟨rfl, ⟨hB, hK, hz⟩, hX⟩ := hv
  have hw0 : ∀ w ∈ w_X12_rests, w.before _ s = true := atoms_spec (ws := w_X12_rests) B.pre
  have hM : MC G p s m _ c cX12_rests v_X12_rests RX12 := ⟨B.exec, B.bytes, findClass_of_methodNamed B.named, fun w h => hw0 w ((List.mem_cons.mp h).elim (fun q => by rw [q]; exact List.mem_cons_self) (fun q => List.mem_cons_of_mem _ (List.mem_append_left _ q))), hK, hz⟩
  have hw : ∀ w ∈ WX, w.before _ s = true := fun w h => hw0 w (List.mem_cons_of_mem _ h)
  have hW : WB G S s s.heap [] := ⟨hB, va_S.rf⟩
  have hl := lv_entry ([.ref a, .int x1, .int x2, .int x3, .int x4]) (n := 7) (Nat.le_of_ble_eq_true rfl)
  rw [lg_entry_eq]
  generalize (lg_sl ([.ref a, .int x1, .int x2, .int x3, .int x4]) ++ List.replicate (7 - (lg_sl ([.ref a, .int x1, .int x2, .int x3, .int x4])).length) Slot.unset).toArray = ls at hl ⊢
  have hl : lv_has ls 7 [(0, .ref a), (1, .int x1), (2, .int x2), (3, .int x3), (4, .int x4)] := hl
  have hx := hM.1
  have hb := hM.2.1
  have hlk := B.notSynchronized
  have hno : o = none → W p l e RM_X12_rests s m _ below meth c s.heap [] 0 0 (vx_MQ below (Qr G o S) (XCr G o S) _ s 1 6 (OU G)) (F0 m 26 ls []) := fun q => by
    rw [q]
    exact rx_throw hM hml hl.1 hlk hout hst hw hX hX.1 hW dX12_rests_26 dX12_rests_29 dX12_rests_30 dX12_rests_33 dX12_rests_36
  unfold f_X12_rests at hf
  refine lv_iload_n hx hb dX12_rests_0 rfl (lv_at hl 1 rfl) ?_
  refine lv_if_lt (tgt := 26) hx hb dX12_rests_1 (by decide) (fun c1 => ?_) (fun c1 => ?_)
  · have hf := if_t c1 hf
    cases hf
    exact hno rfl
  have hf := if_f c1 hf
  refine lv_iload_n hx hb dX12_rests_4 rfl (lv_at hl 1 rfl) ?_
  refine lv_bipush (v := (10 : Int32)) hx hb dX12_rests_5 (by decide) ?_
  refine lv_icmp_ge (tgt := 26) hx hb dX12_rests_7 (by decide) (fun c2 => ?_) (fun c2 => ?_)
  · have hf := if_t c2 hf
    cases hf
    exact hno rfl
  have hf := if_f c2 hf
  refine lv_iload_n hx hb dX12_rests_10 rfl (lv_at hl 2 rfl) ?_
  refine lv_if_lt (tgt := 26) hx hb dX12_rests_11 (by decide) (fun c3 => ?_) (fun c3 => ?_)
  · have hf := if_t c3 hf
    cases hf
    exact hno rfl
  have hf := if_f c3 hf
  refine lv_iload_n hx hb dX12_rests_14 rfl (lv_at hl 2 rfl) ?_
  refine lv_bipush (v := (10 : Int32)) hx hb dX12_rests_15 (by decide) ?_
  refine lv_icmp_ge (tgt := 26) hx hb dX12_rests_17 (by decide) (fun c4 => ?_) (fun c4 => ?_)
  · have hf := if_t c4 hf
    cases hf
    exact hno rfl
  have hf := if_f c4 hf
  refine lv_iload hx hb dX12_rests_20 (lv_at hl 4 rfl) ?_
  refine lv_iconst (v := (-1 : Int32)) hx hb dX12_rests_22 (by decide) ?_
  refine lv_icmp_ge (tgt := 37) hx hb dX12_rests_23 (by decide) (fun c5 => ?_) (fun c5 => ?_)
  · have hf := if_t c5 hf
    refine lv_iconst (v := (0 : Int32)) hx hb dX12_rests_37 (by decide) ?_
    refine lv_istore (lv' := [(5, .int (0 : Int32)), (0, .ref a), (1, .int x1), (2, .int x2), (3, .int x3), (4, .int x4)]) hx hb dX12_rests_38 hl (by decide) rfl (fun ls hl => ?_)
    refine lv_iconst (v := (0 : Int32)) hx hb dX12_rests_40 (by decide) ?_
    refine lv_istore (lv' := [(6, .int (0 : Int32)), (5, .int (0 : Int32)), (0, .ref a), (1, .int x1), (2, .int x2), (3, .int x3), (4, .int x4)]) hx hb dX12_rests_41 hl (by decide) rfl (fun ls hl => ?_)
    exact t_X12_rests_43 hM hml B.returns hlk hout hst hw hX fu _ _ _ hf _ _ hW _ (lv_sub hl [2, 3, 4, 5, 6, 1, 0] rfl)
  · have hf := if_f c5 hf
    cases hf
    exact hno rfl
end RX
