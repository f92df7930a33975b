abbrev RM_X2_takeNewName : Room := { frames := 2, cells := 0, slots := 0, locals := 46 }
abbrev w_X2_takeNewName : List Cond := Cond.code yX2_takeNewName cX2_takeNewName 4 (some .long) :: wsL_law0
noncomputable def f_X2_takeNewName_50 (fu : Nat)  (S : ST) (a : Nat) (g1 : Nat) (x2 : Int64) : Option (Int64 × ST) :=
  some (x2, S)
set_option maxHeartbeats 4000000 in
set_option maxRecDepth 100000 in
theorem t_X2_takeNewName_50 {G : GG} {p : Program} {l : Launch} {e : Env} {s : State} {m : MethodId} {args : Array Value} {below : List Frame} {meth : Method} {c : Code} {S0 : ST} {fu : Nat} {z : Int64 × ST} {a : Nat} {g1 : Nat}  {S : ST} {x2 : Int64} (hM : MC G p s m args c cX2_takeNewName w_X2_takeNewName RX2) (hml : c.maxLocals = 4) (hr : meth.sig.returnType = (some .long)) (hlk : meth.locks = false)   (hf : f_X2_takeNewName_50 fu  S a g1 x2 = some z) : (gC (S a) = 2) → (gC (S g1) = 1) → (∀ b, gC (S0 b) ≠ 0 → gC (S b) = gC (S0 b)) → ∀ (H : Heap) (locs : List Loc), WB G S s H locs → ∀ (ls : Array Slot), lv_has ls 4 [(2, .long x2)] → W p l e RM_X2_takeNewName s m args below meth c H locs 0 0 (QR G below args s (some (.long z.1)) S0 z.2) (F0 m 50 ls []) := by
  intro ha hg1 hK0 H locs hW ls hl
  have hx := hM.1
  have hb := hM.2.1
  refine lv_lload_n hx hb dX2_takeNewName_50 rfl (lv_at hl 0 rfl) ?_
  cases hf
  exact W.lret hx hb hr (b_ret0 hW hK0 _) hW.2.2.2 dX2_takeNewName_51 hlk
noncomputable def f_X2_takeNewName_46 (fu : Nat)  (S : ST) (a : Nat) (g1 : Nat) (x2 : Int64) (t0 : Nat) (t1 : Int32) : Option (Int64 × ST) :=
  bd (f_X8_stepOrFail fu (S t0) t1 (3 : Int32)) fun v2 =>
  nm (st S t0 v2) fun Sv2 =>
  f_X2_takeNewName_50 fu Sv2 a g1 x2
set_option maxHeartbeats 4000000 in
set_option maxRecDepth 100000 in
theorem t_X2_takeNewName_46 {G : GG} {p : Program} {l : Launch} {e : Env} {s : State} {m : MethodId} {args : Array Value} {below : List Frame} {meth : Method} {c : Code} {S0 : ST} {fu : Nat} {z : Int64 × ST} {a : Nat} {g1 : Nat}  {S : ST} {x2 : Int64} {t0 : Nat} {t1 : Int32} (hM : MC G p s m args c cX2_takeNewName w_X2_takeNewName RX2) (hml : c.maxLocals = 4) (hr : meth.sig.returnType = (some .long)) (hlk : meth.locks = false)   (hf : f_X2_takeNewName_46 fu  S a g1 x2 t0 t1 = some z) : (gC (S a) = 2) → (gC (S g1) = 1) → (∀ b, gC (S0 b) ≠ 0 → gC (S b) = gC (S0 b)) → (gC (S t0) = 8) → ∀ (H : Heap) (locs : List Loc), WB G S s H locs → ∀ (ls : Array Slot), lv_has ls 4 [(2, .long x2)] → W p l e RM_X2_takeNewName s m args below meth c H locs 0 0 (QR G below args s (some (.long z.1)) S0 z.2) (F0 m 46 ls [.int t1, .ref t0]) := by
  intro ha hg1 hK0 ht0 H locs hW ls hl
  have hx := hM.1
  have hb := hM.2.1
  refine lv_iconst (v := (3 : Int32)) hx hb dX2_takeNewName_46 (by decide) ?_
  obtain ⟨v2, hr1, hf⟩ := bd_elim hf
  refine s_callNv [.int t1, .int (3 : Int32)] [] hM hml hl.1 hW ht0 rfl (by decide) (Ct_self (c_X8_stepOrFail l G fu _ t0 (S t0) _ _ ht0 hr1)) (cwV 2 hM.2.2.2.1 (gV mk_RX2_91 im_X8_stepOrFail se_X8_stepOrFail it_RX8 cd_X8_stepOrFail) rfl rfl rfl (by decide +kernel) ⟨Nat.le_of_ble_eq_true rfl, Nat.le_of_ble_eq_true rfl⟩) rfl rfl (Nat.le_of_ble_eq_true rfl) ⟨Nat.zero_le _, Nat.zero_le _⟩ dX2_takeNewName_47 (fun Sv2 ev2 hk H locs hW => ?_)
  have hf := nm_at ev2 hf
  have ha := keep1 hk ha
  have hg1 := keep1 hk hg1
  have ht0 := keep1 hk ht0
  have hK0 := keep_tr hK0 hk
  exact t_X2_takeNewName_50 (fu := fu) hM hml hr hlk hf ha hg1 hK0 _ _ hW _ (lv_sub hl [0] rfl)
noncomputable def f_X2_takeNewName_0 (fu : Nat)  (S : ST) (a : Nat) (g1 : Nat) : Option (Int64 × ST) :=
  bd (gR (S a) 0) fun q1 =>
  ck (decide (gC (S q1) = 8)) <|
  bd (f_X8_packed fu (S q1)) fun r3 =>
  bd (gR (S a) 0) fun q4 =>
  ck (decide (gC (S q4) = 8)) <|
  bd (f_X8_isName fu (S q4)) fun r6 =>
  if r6 = 0 then
    (bd (gR (S a) 0) fun q12 =>
    ck (decide (gC (S q12) = 8)) <|
    bd (f_X8_fail fu (S q12) (1 : Int32)) fun v15 =>
    nm (st S q12 v15) fun Sv15 =>
    f_X2_takeNewName_50 fu Sv15 a g1 r3)
  else
    (bd (gR (S a) 0) fun q8 =>
    ck (decide (gC (S q8) = 8)) <|
    bd (f_X1_isTold fu S g1 r3) fun r10 =>
    if r10 = 0 then
      (f_X2_takeNewName_46 fu S a g1 r3 q8 (1 : Int32))
    else
      (f_X2_takeNewName_46 fu S a g1 r3 q8 (0 : Int32)))
set_option maxHeartbeats 4000000 in
set_option maxRecDepth 100000 in
theorem t_X2_takeNewName_0 {G : GG} {p : Program} {l : Launch} {e : Env} {s : State} {m : MethodId} {args : Array Value} {below : List Frame} {meth : Method} {c : Code} {S0 : ST} {fu : Nat} {z : Int64 × ST} {a : Nat} {g1 : Nat}  {S : ST} (hM : MC G p s m args c cX2_takeNewName w_X2_takeNewName RX2) (hml : c.maxLocals = 4) (hr : meth.sig.returnType = (some .long)) (hlk : meth.locks = false)   (hf : f_X2_takeNewName_0 fu  S a g1  = some z) : (gC (S a) = 2) → (gC (S g1) = 1) → (∀ b, gC (S0 b) ≠ 0 → gC (S b) = gC (S0 b)) → ∀ (H : Heap) (locs : List Loc), WB G S s H locs → ∀ (ls : Array Slot), lv_has ls 4 [(0, .ref a), (1, .ref g1)] → W p l e RM_X2_takeNewName s m args below meth c H locs 0 0 (QR G below args s (some (.long z.1)) S0 z.2) (F0 m 0 ls []) := by
  intro ha hg1 hK0 H locs hW ls hl
  have hx := hM.1
  have hb := hM.2.1
  refine lv_aload_n hx hb dX2_takeNewName_0 rfl (lv_at hl 0 rfl) ?_
  obtain ⟨q1, hq1, hf⟩ := bd_elim hf
  refine b_get hM (hW.at_ a) 1 0 ha rfl rfl (by decide) wi_X2 (wgm fk_RX2_9) (x := .ref q1) (by show va_rf _ = _; rw [hq1]; rfl) dX2_takeNewName_1 ?_
  obtain ⟨h2, hf⟩ := ck_elim hf
  have h2 := of_decide_eq_true h2
  obtain ⟨r3, hr3, hf⟩ := bd_elim hf
  refine s_callVl [] [] hM hml hl.1 hW h2 rfl (by decide) (Ct_rd (c_X8_packed l G fu _ q1 (S q1) h2 hr3)) (cwV 0 hM.2.2.2.1 (gV mk_RX2_80 im_X8_packed se_X8_packed it_RX8 cd_X8_packed) rfl rfl rfl (by decide +kernel) ⟨Nat.le_of_ble_eq_true rfl, Nat.le_of_ble_eq_true rfl⟩) rfl rfl (Nat.le_of_ble_eq_true rfl) ⟨Nat.zero_le _, Nat.zero_le _⟩ dX2_takeNewName_4 (fun H locs hW hk => ?_)
  refine lv_lstore_n (lv' := [(2, .long r3), (0, .ref a), (1, .ref g1)]) hx hb dX2_takeNewName_7 rfl hl (by decide) rfl (fun ls hl => ?_)
  refine lv_aload_n hx hb dX2_takeNewName_8 rfl (lv_at hl 1 rfl) ?_
  obtain ⟨q4, hq4, hf⟩ := bd_elim hf
  refine b_get hM (hW.at_ a) 1 0 ha rfl rfl (by decide) wi_X2 (wgm fk_RX2_9) (x := .ref q4) (by show va_rf _ = _; rw [hq4]; rfl) dX2_takeNewName_9 ?_
  obtain ⟨h5, hf⟩ := ck_elim hf
  have h5 := of_decide_eq_true h5
  obtain ⟨r6, hr6, hf⟩ := bd_elim hf
  refine s_callVi [] [] hM hml hl.1 hW h5 rfl (by decide) (Ct_rd (c_X8_isName l G fu _ q4 (S q4) h5 hr6)) (cwV 0 hM.2.2.2.1 (gV mk_RX2_84 im_X8_isName se_X8_isName it_RX8 cd_X8_isName) rfl rfl rfl (by decide +kernel) ⟨Nat.le_of_ble_eq_true rfl, Nat.le_of_ble_eq_true rfl⟩) rfl rfl (Nat.le_of_ble_eq_true rfl) ⟨Nat.zero_le _, Nat.zero_le _⟩ dX2_takeNewName_12 (fun H locs hW hk => ?_)
  refine lv_if_ne (tgt := 29) hx hb dX2_takeNewName_15 (by decide) (fun c7 => ?_) (fun c7 => ?_)
  · have hf := if_f c7 hf
    refine lv_aload_n hx hb dX2_takeNewName_29 rfl (lv_at hl 1 rfl) ?_
    obtain ⟨q8, hq8, hf⟩ := bd_elim hf
    refine b_get hM (hW.at_ a) 1 0 ha rfl rfl (by decide) wi_X2 (wgm fk_RX2_9) (x := .ref q8) (by show va_rf _ = _; rw [hq8]; rfl) dX2_takeNewName_30 ?_
    obtain ⟨h9, hf⟩ := ck_elim hf
    have h9 := of_decide_eq_true h9
    refine lv_aload_n hx hb dX2_takeNewName_33 rfl (lv_at hl 2 rfl) ?_
    refine lv_lload_n hx hb dX2_takeNewName_34 rfl (lv_at hl 0 rfl) ?_
    obtain ⟨r10, hr10, hf⟩ := bd_elim hf
    refine s_callVi [.long r3] [.ref q8] hM hml hl.1 hW hg1 rfl (by decide) (c_X1_isTold l G fu _ g1 _ hg1 hr10) (cwV 1 hM.2.2.2.1 (gV mk_RX2_87 im_X1_isTold se_X1_isTold it_RX1 cd_X1_isTold) rfl rfl rfl (by decide +kernel) ⟨Nat.le_of_ble_eq_true rfl, Nat.le_of_ble_eq_true rfl⟩) rfl rfl (Nat.le_of_ble_eq_true rfl) ⟨Nat.zero_le _, Nat.zero_le _⟩ dX2_takeNewName_35 (fun H locs hW hk => ?_)
    refine lv_if_ne (tgt := 45) hx hb dX2_takeNewName_38 (by decide) (fun c11 => ?_) (fun c11 => ?_)
    · have hf := if_f c11 hf
      refine lv_iconst (v := (0 : Int32)) hx hb dX2_takeNewName_45 (by decide) ?_
      exact t_X2_takeNewName_46 (fu := fu) hM hml hr hlk hf ha hg1 hK0 h9 _ _ hW _ (lv_sub hl [0] rfl)
    · have hf := if_t c11 hf
      refine lv_iconst (v := (1 : Int32)) hx hb dX2_takeNewName_41 (by decide) ?_
      refine lv_goto (tgt := 46) hx hb dX2_takeNewName_42 (by decide) ?_
      exact t_X2_takeNewName_46 (fu := fu) hM hml hr hlk hf ha hg1 hK0 h9 _ _ hW _ (lv_sub hl [0] rfl)
  · have hf := if_t c7 hf
    refine lv_aload_n hx hb dX2_takeNewName_18 rfl (lv_at hl 1 rfl) ?_
    obtain ⟨q12, hq12, hf⟩ := bd_elim hf
    refine b_get hM (hW.at_ a) 1 0 ha rfl rfl (by decide) wi_X2 (wgm fk_RX2_9) (x := .ref q12) (by show va_rf _ = _; rw [hq12]; rfl) dX2_takeNewName_19 ?_
    obtain ⟨h13, hf⟩ := ck_elim hf
    have h13 := of_decide_eq_true h13
    refine lv_iconst (v := (1 : Int32)) hx hb dX2_takeNewName_22 (by decide) ?_
    obtain ⟨v15, hr14, hf⟩ := bd_elim hf
    refine s_callNv [.int (1 : Int32)] [] hM hml hl.1 hW h13 rfl (by decide) (Ct_self (c_X8_fail l G fu _ q12 (S q12) _ h13 hr14)) (cwV 1 hM.2.2.2.1 (gV mk_RX2_73 im_X8_fail se_X8_fail it_RX8 cd_X8_fail) rfl rfl rfl (by decide +kernel) ⟨Nat.le_of_ble_eq_true rfl, Nat.le_of_ble_eq_true rfl⟩) rfl rfl (Nat.le_of_ble_eq_true rfl) ⟨Nat.zero_le _, Nat.zero_le _⟩ dX2_takeNewName_23 (fun Sv15 ev15 hk H locs hW => ?_)
    have hf := nm_at ev15 hf
    have ha := keep1 hk ha
    have hg1 := keep1 hk hg1
    have h2 := keep1 hk h2
    have h5 := keep1 hk h5
    have h13 := keep1 hk h13
    have hK0 := keep_tr hK0 hk
    refine lv_goto (tgt := 50) hx hb dX2_takeNewName_26 (by decide) ?_
    exact t_X2_takeNewName_50 (fu := fu) hM hml hr hlk hf ha hg1 hK0 _ _ hW _ (lv_sub hl [0] rfl)
noncomputable def f_X2_takeNewName (fu : Nat) (S : ST) (a : Nat) (g1 : Nat) : Option (Int64 × ST) := f_X2_takeNewName_0 fu S a g1
set_option maxHeartbeats 4000000 in
set_option maxRecDepth 100000 in
theorem c_X2_takeNewName (l : Launch) (G : GG) (fu : Nat) (S : ST) (a : Nat) (g1 : Nat) {z : Int64} {w : ST} (ha : gC (S a) = 2) (hg1 : gC (S g1) = 1) (hf : f_X2_takeNewName fu S a g1 = some (z, w)) : Ct l yX2_takeNewName w_X2_takeNewName RM_X2_takeNewName G S [.ref a, .ref g1] (some (.long z)) w 0 0 := by
  refine Met.ofW (cc := cX2_takeNewName) (maxL := 4) (ret := (some .long)) (by decide) rfl ?_
  intro p e s m args below meth c s₁ B hml hv
  obtain ⟨rfl, hB, hK, hz⟩ := hv
  have hM : MC G p s m _ c cX2_takeNewName w_X2_takeNewName RX2 := ⟨B.exec, B.bytes, findClass_of_methodNamed B.named, atoms_spec (ws := w_X2_takeNewName) B.pre, hK, hz⟩
  have hW : WB G S s s.heap [] := ⟨hB, va_S.rf⟩
  have hl := lv_entry ([.ref a, .ref g1]) (n := 4) (Nat.le_of_ble_eq_true rfl)
  rw [lg_entry_eq]
  generalize (lg_sl ([.ref a, .ref g1]) ++ List.replicate (4 - (lg_sl ([.ref a, .ref g1])).length) Slot.unset).toArray = ls at hl ⊢
  have hl : lv_has ls 4 [(0, .ref a), (1, .ref g1)] := hl
  exact t_X2_takeNewName_0 (fu := fu) hM hml B.returns B.notSynchronized hf ha hg1 (fun _ _ => rfl) _ _ hW _ (lv_sub hl [0, 1] rfl)
abbrev RM_X8_isAt : Room := { frames := 0, cells := 0, slots := 0, locals := 0 }
abbrev w_X8_isAt : List Cond := Cond.code yX8_isAt cX8_isAt 2 (some .boolean) :: wsL_law0
noncomputable def f_X8_isAt_39 (fu : Nat)  (v : GV) : Option (Int32) :=
  some ((0 : Int32))
set_option maxHeartbeats 4000000 in
set_option maxRecDepth 100000 in
theorem t_X8_isAt_39 {G : GG} {p : Program} {l : Launch} {e : Env} {s : State} {m : MethodId} {args : Array Value} {below : List Frame} {meth : Method} {c : Code} {S : ST} {fu : Nat} {z : Int32} {a : Nat} {v : GV}  (hM : MC G p s m args c cX8_isAt w_X8_isAt RX8) (hml : c.maxLocals = 2) (hr : meth.sig.returnType = (some .boolean)) (hlk : meth.locks = false) (hc0 : gC v = 8)  (hf : f_X8_isAt_39 fu  v   = some z) : ∀ (H : Heap) (locs : List Loc), WB G (st S a v) s H locs → ∀ (ls : Array Slot), lv_has ls 2 [] → W p l e RM_X8_isAt s m args below meth c H locs 0 0 (QR G below args s (some (.int z)) (st S a v) (st S a v)) (F0 m 39 ls []) := by
  intro  H locs hW ls hl
  have hx := hM.1
  have hb := hM.2.1
  have hc := hc0
  refine lv_iconst (v := (0 : Int32)) hx hb dX8_isAt_39 (by decide) ?_
  cases hf
  exact W.zret (v := (0 : Int32)) hx hb hr (by decide) (b_ret0 hW (fun _ _ => rfl) _) hW.2.2.2 dX8_isAt_40 hlk
noncomputable def f_X8_isAt_0 (fu : Nat)  (v : GV) (x1 : Int32) : Option (Int32) :=
  if (gI v 7) = 0 then
    (nm ((gI v 5)) fun y2 =>
    ck (inb y2 1001) <|
    if (gA v 1 y2.toNatClampNeg) = (5 : Int32) then
      (nm ((gI v 5)) fun y5 =>
      ck (inb y5 1001) <|
      if (lg_cmp (gL v 3 y5.toNatClampNeg) (x1).toInt64) = 0 then
        (some ((1 : Int32)))
      else
        (f_X8_isAt_39 fu v))
    else
      (f_X8_isAt_39 fu v))
  else
    (f_X8_isAt_39 fu v)
set_option maxHeartbeats 4000000 in
set_option maxRecDepth 100000 in
theorem t_X8_isAt_0 {G : GG} {p : Program} {l : Launch} {e : Env} {s : State} {m : MethodId} {args : Array Value} {below : List Frame} {meth : Method} {c : Code} {S : ST} {fu : Nat} {z : Int32} {a : Nat} {v : GV}  {x1 : Int32} (hM : MC G p s m args c cX8_isAt w_X8_isAt RX8) (hml : c.maxLocals = 2) (hr : meth.sig.returnType = (some .boolean)) (hlk : meth.locks = false) (hc0 : gC v = 8)  (hf : f_X8_isAt_0 fu  v  x1 = some z) : ∀ (H : Heap) (locs : List Loc), WB G (st S a v) s H locs → ∀ (ls : Array Slot), lv_has ls 2 [(0, .ref a), (1, .int x1)] → W p l e RM_X8_isAt s m args below meth c H locs 0 0 (QR G below args s (some (.int z)) (st S a v) (st S a v)) (F0 m 0 ls []) := by
  intro  H locs hW ls hl
  have hx := hM.1
  have hb := hM.2.1
  have hc := hc0
  refine lv_aload_n hx hb dX8_isAt_0 rfl (lv_at hl 0 rfl) ?_
  refine b_get hM hW 7 7 hc rfl rfl (by decide) wi_X8 (wgm fk_RX8_36) (x := .int (gI v 7)) rfl dX8_isAt_1 ?_
  refine lv_if_ne (tgt := 39) hx hb dX8_isAt_4 (by decide) (fun c1 => ?_) (fun c1 => ?_)
  · have hf := if_f c1 hf
    exact t_X8_isAt_39 (fu := fu) hM hml hr hlk hc0 hf _ _ hW _ (lv_sub hl [] rfl)
  · have hf := if_t c1 hf
    refine lv_aload_n hx hb dX8_isAt_7 rfl (lv_at hl 0 rfl) ?_
    refine b_get hM hW 7 1 hc rfl rfl (by decide) wi_X8 (wgm fk_RX8_15) (x := .ref (a + 2)) rfl dX8_isAt_8 ?_
    refine lv_aload_n hx hb dX8_isAt_11 rfl (lv_at hl 0 rfl) ?_
    refine b_get hM hW 7 5 hc rfl rfl (by decide) wi_X8 (wgm fk_RX8_30) (x := .int (gI v 5)) rfl dX8_isAt_12 ?_
    refine lv_topi (fun y2 ey2 => ?_)
    have hf := nm_at ey2 hf
    obtain ⟨h3, hf⟩ := ck_elim hf
    refine b_iald (n := 1001) hM hW 7 1 hc (by decide) rfl rfl rfl rfl h3 dX8_isAt_15 ?_
    refine lv_iconst (v := (5 : Int32)) hx hb dX8_isAt_16 (by decide) ?_
    refine lv_icmp_ne (tgt := 39) hx hb dX8_isAt_17 (by decide) (fun c4 => ?_) (fun c4 => ?_)
    · have hf := if_f c4 hf
      exact t_X8_isAt_39 (fu := fu) hM hml hr hlk hc0 hf _ _ hW _ (lv_sub hl [] rfl)
    · have hf := if_t c4 hf
      refine lv_aload_n hx hb dX8_isAt_20 rfl (lv_at hl 0 rfl) ?_
      refine b_get hM hW 7 3 hc rfl rfl (by decide) wi_X8 (wgm fk_RX8_22) (x := .ref (a + 4)) rfl dX8_isAt_21 ?_
      refine lv_aload_n hx hb dX8_isAt_24 rfl (lv_at hl 0 rfl) ?_
      refine b_get hM hW 7 5 hc rfl rfl (by decide) wi_X8 (wgm fk_RX8_30) (x := .int (gI v 5)) rfl dX8_isAt_25 ?_
      refine lv_topi (fun y5 ey5 => ?_)
      have hf := nm_at ey5 hf
      obtain ⟨h6, hf⟩ := ck_elim hf
      refine b_lald (n := 1001) hM hW 7 3 hc (by decide) rfl rfl rfl rfl h6 dX8_isAt_28 ?_
      refine lv_iload_n hx hb dX8_isAt_29 rfl (lv_at hl 1 rfl) ?_
      refine lv_i2l hx hb dX8_isAt_30 rfl ?_
      refine W.lcmp hx hb dX8_isAt_31 ?_
      refine lv_if_ne (tgt := 39) hx hb dX8_isAt_32 (by decide) (fun c7 => ?_) (fun c7 => ?_)
      · have hf := if_f c7 hf
        exact t_X8_isAt_39 (fu := fu) hM hml hr hlk hc0 hf _ _ hW _ (lv_sub hl [] rfl)
      · have hf := if_t c7 hf
        refine lv_iconst (v := (1 : Int32)) hx hb dX8_isAt_35 (by decide) ?_
        refine lv_goto (tgt := 40) hx hb dX8_isAt_36 (by decide) ?_
        cases hf
        exact W.zret (v := (1 : Int32)) hx hb hr (by decide) (b_ret0 hW (fun _ _ => rfl) _) hW.2.2.2 dX8_isAt_40 hlk
noncomputable def f_X8_isAt (fu : Nat) (v : GV) (x1 : Int32) : Option (Int32) := f_X8_isAt_0 fu v x1
set_option maxHeartbeats 4000000 in
set_option maxRecDepth 100000 in
theorem c_X8_isAt (l : Launch) (G : GG) (fu : Nat) (S : ST) (a : Nat) (v : GV) (x1 : Int32) {z : Int32} (hc : gC v = 8) (hf : f_X8_isAt fu v x1 = some z) : Ct l yX8_isAt w_X8_isAt RM_X8_isAt G (st S a v) [.ref a, .int x1] (some (.int z)) (st S a v) 0 0 := by
  refine Met.ofW (cc := cX8_isAt) (maxL := 2) (ret := (some .boolean)) (by decide) rfl ?_
  intro p e s m args below meth c s₁ B hml hv
  obtain ⟨rfl, hB, hK, hz⟩ := hv
  have hM : MC G p s m _ c cX8_isAt w_X8_isAt RX8 := ⟨B.exec, B.bytes, findClass_of_methodNamed B.named, atoms_spec (ws := w_X8_isAt) B.pre, hK, hz⟩
  have hW : WB G (st S a v) s s.heap [] := ⟨hB, va_S.rf⟩
  have hl := lv_entry ([.ref a, .int x1]) (n := 2) (Nat.le_of_ble_eq_true rfl)
  rw [lg_entry_eq]
  generalize (lg_sl ([.ref a, .int x1]) ++ List.replicate (2 - (lg_sl ([.ref a, .int x1])).length) Slot.unset).toArray = ls at hl ⊢
  have hl : lv_has ls 2 [(0, .ref a), (1, .int x1)] := hl
  exact t_X8_isAt_0 (fu := fu) hM hml B.returns B.notSynchronized hc hf _ _ hW _ (lv_sub hl [0, 1] rfl)
abbrev RM_X8_need : Room := { frames := 1, cells := 0, slots := 0, locals := 21 }
abbrev w_X8_need : List Cond := Cond.code yX8_need cX8_need 2 none :: wsL_law0
noncomputable def f_X8_need_0 (fu : Nat)  (v : GV) (x1 : Int32) : Option (GV) :=
  bd (f_X8_isAt fu v x1) fun r1 =>
  if r1 = 0 then
    (bd (f_X8_fail fu v (1 : Int32)) fun v4 =>
    some v4)
  else
    (bd (f_X8_step fu v) fun v6 =>
    some v6)
set_option maxHeartbeats 4000000 in
set_option maxRecDepth 100000 in
theorem t_X8_need_0 {G : GG} {p : Program} {l : Launch} {e : Env} {s : State} {m : MethodId} {args : Array Value} {below : List Frame} {meth : Method} {c : Code} {S : ST} {fu : Nat} {z : GV} {a : Nat} {v0 : GV}  {v : GV} {x1 : Int32} (hM : MC G p s m args c cX8_need w_X8_need RX8) (hml : c.maxLocals = 2) (hr : meth.sig.returnType = none) (hlk : meth.locks = false) (hc0 : gC v0 = 8)  (hf : f_X8_need_0 fu  v  x1 = some z) : (gC v = 8) → ∀ (H : Heap) (locs : List Loc), WB G (st S a v) s H locs → ∀ (ls : Array Slot), lv_has ls 2 [(0, .ref a), (1, .int x1)] → W p l e RM_X8_need s m args below meth c H locs 0 0 (QR G below args s none (st S a v0) (st S a z)) (F0 m 0 ls []) := by
  intro hc H locs hW ls hl
  have hx := hM.1
  have hb := hM.2.1
  refine lv_aload_n hx hb dX8_need_0 rfl (lv_at hl 0 rfl) ?_
  refine lv_iload_n hx hb dX8_need_1 rfl (lv_at hl 1 rfl) ?_
  obtain ⟨r1, hr1, hf⟩ := bd_elim hf
  refine b_callVi [.int x1] [] hM hml hl.1 hW hc rfl (by decide) (c_X8_isAt l G fu _ a v _ hc hr1) (cwV 1 hM.2.2.2.1 (gV mk_RX8_96 im_X8_isAt se_X8_isAt it_RX8 cd_X8_isAt) rfl rfl rfl (by decide +kernel) ⟨Nat.le_of_ble_eq_true rfl, Nat.le_of_ble_eq_true rfl⟩) rfl rfl (Nat.le_of_ble_eq_true rfl) ⟨Nat.zero_le _, Nat.zero_le _⟩ dX8_need_2 (fun H locs hW hk => ?_)
  refine lv_if_eq (tgt := 15) hx hb dX8_need_5 (by decide) (fun c2 => ?_) (fun c2 => ?_)
  · have hf := if_t c2 hf
    refine lv_aload_n hx hb dX8_need_15 rfl (lv_at hl 0 rfl) ?_
    refine lv_iconst (v := (1 : Int32)) hx hb dX8_need_16 (by decide) ?_
    obtain ⟨v4, hr3, hf⟩ := bd_elim hf
    refine b_callVv [.int (1 : Int32)] [] hM hml hl.1 hW hc rfl (by decide) (c_X8_fail l G fu _ a v _ hc hr3) (cwV 1 hM.2.2.2.1 (gV mk_RX8_102 im_X8_fail se_X8_fail it_RX8 cd_X8_fail) rfl rfl rfl (by decide +kernel) ⟨Nat.le_of_ble_eq_true rfl, Nat.le_of_ble_eq_true rfl⟩) rfl rfl (Nat.le_of_ble_eq_true rfl) ⟨Nat.zero_le _, Nat.zero_le _⟩ dX8_need_17 (fun H locs hW hk => ?_)
    have hc := keep_at hc hk
    cases hf
    exact W.vret hx hb hr (b_ret0 hW (keep_s2 hc0 hc) _) hW.2.2.2 dX8_need_20 hlk
  · have hf := if_f c2 hf
    refine lv_aload_n hx hb dX8_need_8 rfl (lv_at hl 0 rfl) ?_
    obtain ⟨v6, hr5, hf⟩ := bd_elim hf
    refine b_callVv [] [] hM hml hl.1 hW hc rfl (by decide) (c_X8_step l G fu _ a v hc hr5) (cwV 0 hM.2.2.2.1 (gV mk_RX8_99 im_X8_step se_X8_step it_RX8 cd_X8_step) rfl rfl rfl (by decide +kernel) ⟨Nat.le_of_ble_eq_true rfl, Nat.le_of_ble_eq_true rfl⟩) rfl rfl (Nat.le_of_ble_eq_true rfl) ⟨Nat.zero_le _, Nat.zero_le _⟩ dX8_need_9 (fun H locs hW hk => ?_)
    have hc := keep_at hc hk
    refine lv_goto (tgt := 20) hx hb dX8_need_12 (by decide) ?_
    cases hf
    exact W.vret hx hb hr (b_ret0 hW (keep_s2 hc0 hc) _) hW.2.2.2 dX8_need_20 hlk
noncomputable def f_X8_need (fu : Nat) (v : GV) (x1 : Int32) : Option (GV) := f_X8_need_0 fu v x1
set_option maxHeartbeats 4000000 in
set_option maxRecDepth 100000 in
theorem c_X8_need (l : Launch) (G : GG) (fu : Nat) (S : ST) (a : Nat) (v : GV) (x1 : Int32) {z : GV} (hc : gC v = 8) (hf : f_X8_need fu v x1 = some z) : Ct l yX8_need w_X8_need RM_X8_need G (st S a v) [.ref a, .int x1] none (st S a z) 0 0 := by
  refine Met.ofW (cc := cX8_need) (maxL := 2) (ret := none) (by decide) rfl ?_
  intro p e s m args below meth c s₁ B hml hv
  obtain ⟨rfl, hB, hK, hz⟩ := hv
  have hM : MC G p s m _ c cX8_need w_X8_need RX8 := ⟨B.exec, B.bytes, findClass_of_methodNamed B.named, atoms_spec (ws := w_X8_need) B.pre, hK, hz⟩
  have hW : WB G (st S a v) s s.heap [] := ⟨hB, va_S.rf⟩
  have hl := lv_entry ([.ref a, .int x1]) (n := 2) (Nat.le_of_ble_eq_true rfl)
  rw [lg_entry_eq]
  generalize (lg_sl ([.ref a, .int x1]) ++ List.replicate (2 - (lg_sl ([.ref a, .int x1])).length) Slot.unset).toArray = ls at hl ⊢
  have hl : lv_has ls 2 [(0, .ref a), (1, .int x1)] := hl
  exact t_X8_need_0 (fu := fu) hM hml B.returns B.notSynchronized hc hf hc _ _ hW _ (lv_sub hl [0, 1] rfl)
abbrev RM_X2_readSpot : Room := { frames := 3, cells := 0, slots := 0, locals := 69 }
abbrev w_X2_readSpot : List Cond := Cond.code yX2_readSpot cX2_readSpot 4 none :: wsL_law0
noncomputable def f_X2_readSpot_18 (fu : Nat)  (S : ST) (a : Nat) (g1 : Nat) (t0 : Nat) (t1 : Int32) : Option (ST) :=
  bd (f_X8_stepOrFail fu (S t0) t1 (5 : Int32)) fun v2 =>
  nm (st S t0 v2) fun Sv2 =>
  bd2 (f_X2_takeNewName fu Sv2 a g1) fun r3 S4 =>
  bd (gR (S4 a) 0) fun q5 =>
  ck (decide (gC (S4 q5) = 8)) <|
  bd (f_X8_need fu (S4 q5) (59 : Int32)) fun v8 =>
  nm (st S4 q5 v8) fun Sv8 =>
  bd (gR (Sv8 a) 0) fun q9 =>
  ck (decide (gC (Sv8 q9) = 8)) <|
  if (gI (Sv8 q9) 7) = 0 then
    (bd (f_X1_addSpot fu (Sv8 g1) r3) fun v13 =>
    nm (st Sv8 g1 v13) fun Sv13 =>
    some Sv13)
  else
    (some Sv8)
set_option maxHeartbeats 4000000 in
set_option maxRecDepth 100000 in
theorem t_X2_readSpot_18 {G : GG} {p : Program} {l : Launch} {e : Env} {s : State} {m : MethodId} {args : Array Value} {below : List Frame} {meth : Method} {c : Code} {S0 : ST} {fu : Nat} {z : ST} {a : Nat} {g1 : Nat}  {S : ST} {t0 : Nat} {t1 : Int32} (hM : MC G p s m args c cX2_readSpot w_X2_readSpot RX2) (hml : c.maxLocals = 4) (hr : meth.sig.returnType = none) (hlk : meth.locks = false)   (hf : f_X2_readSpot_18 fu  S a g1 t0 t1 = some z) : (gC (S a) = 2) → (gC (S g1) = 1) → (∀ b, gC (S0 b) ≠ 0 → gC (S b) = gC (S0 b)) → (gC (S t0) = 8) → ∀ (H : Heap) (locs : List Loc), WB G S s H locs → ∀ (ls : Array Slot), lv_has ls 4 [(0, .ref a), (1, .ref g1)] → W p l e RM_X2_readSpot s m args below meth c H locs 0 0 (QR G below args s none S0 z) (F0 m 18 ls [.int t1, .ref t0]) := by
  intro ha hg1 hK0 ht0 H locs hW ls hl
  have hx := hM.1
  have hb := hM.2.1
  refine lv_iconst (v := (5 : Int32)) hx hb dX2_readSpot_18 (by decide) ?_
  obtain ⟨v2, hr1, hf⟩ := bd_elim hf
  refine s_callNv [.int t1, .int (5 : Int32)] [] hM hml hl.1 hW ht0 rfl (by decide) (Ct_self (c_X8_stepOrFail l G fu _ t0 (S t0) _ _ ht0 hr1)) (cwV 2 hM.2.2.2.1 (gV mk_RX2_91 im_X8_stepOrFail se_X8_stepOrFail it_RX8 cd_X8_stepOrFail) rfl rfl rfl (by decide +kernel) ⟨Nat.le_of_ble_eq_true rfl, Nat.le_of_ble_eq_true rfl⟩) rfl rfl (Nat.le_of_ble_eq_true rfl) ⟨Nat.zero_le _, Nat.zero_le _⟩ dX2_readSpot_19 (fun Sv2 ev2 hk H locs hW => ?_)
  have hf := nm_at ev2 hf
  have ha := keep1 hk ha
  have hg1 := keep1 hk hg1
  have ht0 := keep1 hk ht0
  have hK0 := keep_tr hK0 hk
  refine lv_aload_n hx hb dX2_readSpot_22 rfl (lv_at hl 0 rfl) ?_
  refine lv_aload_n hx hb dX2_readSpot_23 rfl (lv_at hl 1 rfl) ?_
  obtain ⟨r3, S4, hr3, hf⟩ := bd2_elim hf
  refine s_callVl [.ref g1] [] hM hml hl.1 hW ha rfl (by decide) (c_X2_takeNewName l G fu _ a _ ha hg1 hr3) (cwV 1 hM.2.2.2.1 (gV mk_RX2_99 im_X2_takeNewName se_X2_takeNewName it_RX2 cd_X2_takeNewName) rfl rfl rfl (by decide +kernel) ⟨Nat.le_of_ble_eq_true rfl, Nat.le_of_ble_eq_true rfl⟩) rfl rfl (Nat.le_of_ble_eq_true rfl) ⟨Nat.zero_le _, Nat.zero_le _⟩ dX2_readSpot_24 (fun H locs hW hk => ?_)
  have ha := keep1 hk ha
  have hg1 := keep1 hk hg1
  have ht0 := keep1 hk ht0
  have hK0 := keep_tr hK0 hk
  refine lv_lstore_n (lv' := [(2, .long r3), (0, .ref a), (1, .ref g1)]) hx hb dX2_readSpot_27 rfl hl (by decide) rfl (fun ls hl => ?_)
  refine lv_aload_n hx hb dX2_readSpot_28 rfl (lv_at hl 1 rfl) ?_
  obtain ⟨q5, hq5, hf⟩ := bd_elim hf
  refine b_get hM (hW.at_ a) 1 0 ha rfl rfl (by decide) wi_X2 (wgm fk_RX2_9) (x := .ref q5) (by show va_rf _ = _; rw [hq5]; rfl) dX2_readSpot_29 ?_
  obtain ⟨h6, hf⟩ := ck_elim hf
  have h6 := of_decide_eq_true h6
  refine lv_bipush (v := (59 : Int32)) hx hb dX2_readSpot_32 (by decide) ?_
  obtain ⟨v8, hr7, hf⟩ := bd_elim hf
  refine s_callNv [.int (59 : Int32)] [] hM hml hl.1 hW h6 rfl (by decide) (Ct_self (c_X8_need l G fu _ q5 (S4 q5) _ h6 hr7)) (cwV 1 hM.2.2.2.1 (gV mk_RX2_103 im_X8_need se_X8_need it_RX8 cd_X8_need) rfl rfl rfl (by decide +kernel) ⟨Nat.le_of_ble_eq_true rfl, Nat.le_of_ble_eq_true rfl⟩) rfl rfl (Nat.le_of_ble_eq_true rfl) ⟨Nat.zero_le _, Nat.zero_le _⟩ dX2_readSpot_34 (fun Sv8 ev8 hk H locs hW => ?_)
  have hf := nm_at ev8 hf
  have ha := keep1 hk ha
  have hg1 := keep1 hk hg1
  have ht0 := keep1 hk ht0
  have h6 := keep1 hk h6
  have hK0 := keep_tr hK0 hk
  refine lv_aload_n hx hb dX2_readSpot_37 rfl (lv_at hl 1 rfl) ?_
  obtain ⟨q9, hq9, hf⟩ := bd_elim hf
  refine b_get hM (hW.at_ a) 1 0 ha rfl rfl (by decide) wi_X2 (wgm fk_RX2_9) (x := .ref q9) (by show va_rf _ = _; rw [hq9]; rfl) dX2_readSpot_38 ?_
  obtain ⟨h10, hf⟩ := ck_elim hf
  have h10 := of_decide_eq_true h10
  refine b_get hM (hW.at_ q9) 7 7 h10 rfl rfl (by decide) wi_X8 (wgm fk_RX2_107) (x := .int (gI (Sv8 q9) 7)) rfl dX2_readSpot_41 ?_
  refine lv_if_ne (tgt := 52) hx hb dX2_readSpot_44 (by decide) (fun c11 => ?_) (fun c11 => ?_)
  · have hf := if_f c11 hf
    cases hf
    exact W.vret hx hb hr (b_ret0 hW hK0 _) hW.2.2.2 dX2_readSpot_52 hlk
  · have hf := if_t c11 hf
    refine lv_aload_n hx hb dX2_readSpot_47 rfl (lv_at hl 2 rfl) ?_
    refine lv_lload_n hx hb dX2_readSpot_48 rfl (lv_at hl 0 rfl) ?_
    obtain ⟨v13, hr12, hf⟩ := bd_elim hf
    refine s_callNv [.long r3] [] hM hml hl.1 hW hg1 rfl (by decide) (Ct_self (c_X1_addSpot l G fu _ g1 (Sv8 g1) _ hg1 hr12)) (cwV 1 hM.2.2.2.1 (gV mk_RX2_110 im_X1_addSpot se_X1_addSpot it_RX1 cd_X1_addSpot) rfl rfl rfl (by decide +kernel) ⟨Nat.le_of_ble_eq_true rfl, Nat.le_of_ble_eq_true rfl⟩) rfl rfl (Nat.le_of_ble_eq_true rfl) ⟨Nat.zero_le _, Nat.zero_le _⟩ dX2_readSpot_49 (fun Sv13 ev13 hk H locs hW => ?_)
    have hf := nm_at ev13 hf
    have ha := keep1 hk ha
    have hg1 := keep1 hk hg1
    have ht0 := keep1 hk ht0
    have h6 := keep1 hk h6
    have h10 := keep1 hk h10
    have hK0 := keep_tr hK0 hk
    cases hf
    exact W.vret hx hb hr (b_ret0 hW hK0 _) hW.2.2.2 dX2_readSpot_52 hlk
noncomputable def f_X2_readSpot_0 (fu : Nat)  (S : ST) (a : Nat) (g1 : Nat) : Option (ST) :=
  bd (gR (S a) 0) fun q1 =>
  ck (decide (gC (S q1) = 8)) <|
  if (8 : Int32) ≤ (gI (S g1) 8) then
    (f_X2_readSpot_18 fu S a g1 q1 (0 : Int32))
  else
    (f_X2_readSpot_18 fu S a g1 q1 (1 : Int32))
set_option maxHeartbeats 4000000 in
set_option maxRecDepth 100000 in
theorem t_X2_readSpot_0 {G : GG} {p : Program} {l : Launch} {e : Env} {s : State} {m : MethodId} {args : Array Value} {below : List Frame} {meth : Method} {c : Code} {S0 : ST} {fu : Nat} {z : ST} {a : Nat} {g1 : Nat}  {S : ST} (hM : MC G p s m args c cX2_readSpot w_X2_readSpot RX2) (hml : c.maxLocals = 4) (hr : meth.sig.returnType = none) (hlk : meth.locks = false)   (hf : f_X2_readSpot_0 fu  S a g1  = some z) : (gC (S a) = 2) → (gC (S g1) = 1) → (∀ b, gC (S0 b) ≠ 0 → gC (S b) = gC (S0 b)) → ∀ (H : Heap) (locs : List Loc), WB G S s H locs → ∀ (ls : Array Slot), lv_has ls 4 [(0, .ref a), (1, .ref g1)] → W p l e RM_X2_readSpot s m args below meth c H locs 0 0 (QR G below args s none S0 z) (F0 m 0 ls []) := by
  intro ha hg1 hK0 H locs hW ls hl
  have hx := hM.1
  have hb := hM.2.1
  refine lv_aload_n hx hb dX2_readSpot_0 rfl (lv_at hl 0 rfl) ?_
  obtain ⟨q1, hq1, hf⟩ := bd_elim hf
  refine b_get hM (hW.at_ a) 1 0 ha rfl rfl (by decide) wi_X2 (wgm fk_RX2_9) (x := .ref q1) (by show va_rf _ = _; rw [hq1]; rfl) dX2_readSpot_1 ?_
  obtain ⟨h2, hf⟩ := ck_elim hf
  have h2 := of_decide_eq_true h2
  refine lv_aload_n hx hb dX2_readSpot_4 rfl (lv_at hl 1 rfl) ?_
  refine b_get hM (hW.at_ g1) 0 8 hg1 rfl rfl (by decide) wi_X1 (wgm fk_RX2_95) (x := .int (gI (S g1) 8)) rfl dX2_readSpot_5 ?_
  refine lv_bipush (v := (8 : Int32)) hx hb dX2_readSpot_8 (by decide) ?_
  refine lv_icmp_ge (tgt := 17) hx hb dX2_readSpot_10 (by decide) (fun c3 => ?_) (fun c3 => ?_)
  · have hf := if_t c3 hf
    refine lv_iconst (v := (0 : Int32)) hx hb dX2_readSpot_17 (by decide) ?_
    exact t_X2_readSpot_18 (fu := fu) hM hml hr hlk hf ha hg1 hK0 h2 _ _ hW _ (lv_sub hl [0, 1] rfl)
  · have hf := if_f c3 hf
    refine lv_iconst (v := (1 : Int32)) hx hb dX2_readSpot_13 (by decide) ?_
    refine lv_goto (tgt := 18) hx hb dX2_readSpot_14 (by decide) ?_
    exact t_X2_readSpot_18 (fu := fu) hM hml hr hlk hf ha hg1 hK0 h2 _ _ hW _ (lv_sub hl [0, 1] rfl)
noncomputable def f_X2_readSpot (fu : Nat) (S : ST) (a : Nat) (g1 : Nat) : Option (ST) := f_X2_readSpot_0 fu S a g1
set_option maxHeartbeats 4000000 in
set_option maxRecDepth 100000 in
theorem c_X2_readSpot (l : Launch) (G : GG) (fu : Nat) (S : ST) (a : Nat) (g1 : Nat) {z : ST} (ha : gC (S a) = 2) (hg1 : gC (S g1) = 1) (hf : f_X2_readSpot fu S a g1 = some z) : Ct l yX2_readSpot w_X2_readSpot RM_X2_readSpot G S [.ref a, .ref g1] none z 0 0 := by
  refine Met.ofW (cc := cX2_readSpot) (maxL := 4) (ret := none) (by decide) rfl ?_
  intro p e s m args below meth c s₁ B hml hv
  obtain ⟨rfl, hB, hK, hz⟩ := hv
  have hM : MC G p s m _ c cX2_readSpot w_X2_readSpot RX2 := ⟨B.exec, B.bytes, findClass_of_methodNamed B.named, atoms_spec (ws := w_X2_readSpot) B.pre, hK, hz⟩
  have hW : WB G S s s.heap [] := ⟨hB, va_S.rf⟩
  have hl := lv_entry ([.ref a, .ref g1]) (n := 4) (Nat.le_of_ble_eq_true rfl)
  rw [lg_entry_eq]
  generalize (lg_sl ([.ref a, .ref g1]) ++ List.replicate (4 - (lg_sl ([.ref a, .ref g1])).length) Slot.unset).toArray = ls at hl ⊢
  have hl : lv_has ls 4 [(0, .ref a), (1, .ref g1)] := hl
  exact t_X2_readSpot_0 (fu := fu) hM hml B.returns B.notSynchronized hf ha hg1 (fun _ _ => rfl) _ _ hW _ (lv_sub hl [0, 1] rfl)
abbrev RM_X10_of : Room := { frames := 0, cells := 0, slots := 0, locals := 0 }
abbrev w_X10_of : List Cond := Cond.code yX10_of cX10_of 3 (some (.object "PanelCopies$Word")) :: wsL_law0
noncomputable def f_X10_of_2s (fu : Nat)  (k2 : Int32 → Option (Nat)) (x0 : Int64) (x2 : Int32) : Option (Nat) :=
  if (30 : Int32) ≤ x2 then
    (some (0))
  else
    (ck (inb x2 30) <|
    if (lg_cmp (wpk.getD x2.toNatClampNeg 0) x0) = 0 then
      (ck (inb x2 30) <|
      some (x2.toNatClampNeg))
    else
      (nm (x2 + (1 : Int32)) fun y4 =>
      k2 y4))
noncomputable def f_X10_of_2 (fu n : Nat)  (x0 : Int64) : Int32 → Option (Nat) :=
  lq_1 (fun k2 => f_X10_of_2s fu  k2   x0) n
set_option maxHeartbeats 4000000 in
set_option maxRecDepth 100000 in
theorem t_X10_of_2s {G : GG} {p : Program} {l : Launch} {e : Env} {s : State} {m : MethodId} {args : Array Value} {below : List Frame} {meth : Method} {c : Code} {S : ST} {fu : Nat} {z : Nat}  {k2 : Int32 → Option (Nat)} {x0 : Int64} (hM : MC G p s m args c cX10_of w_X10_of RX10) (hml : c.maxLocals = 3) (hr : meth.sig.returnType = (some (.object "PanelCopies$Word"))) (hlk : meth.locks = false)   (hk2 : ∀ (x2 : Int32), k2 x2 = some z → ∀ (H : Heap) (locs : List Loc), WB G S s H locs → ∀ (ls : Array Slot), lv_has ls 3 [(0, .long x0), (2, .int x2)] → W p l e RM_X10_of s m args below meth c H locs 0 0 (QR G below args s (some (.ref (kAd G z))) S S) (F0 m 2 ls [])) : ∀ (x2 : Int32), f_X10_of_2s fu  k2   x0 x2 = some z → ∀ (H : Heap) (locs : List Loc), WB G S s H locs → ∀ (ls : Array Slot), lv_has ls 3 [(0, .long x0), (2, .int x2)] → W p l e RM_X10_of s m args below meth c H locs 0 0 (QR G below args s (some (.ref (kAd G z))) S S) (F0 m 2 ls []) := by
  intro x2 hf  H locs hW ls hl
  have hx := hM.1
  have hb := hM.2.1
  refine lv_iload_n hx hb dX10_of_2 rfl (lv_at hl 1 rfl) ?_
  refine k_all hM hW (wgm fk_RX10_137) dX10_of_3 ?_
  refine k_alen hM hW dX10_of_6 ?_
  refine lv_icmp_ge (tgt := 35) hx hb dX10_of_7 (by decide) (fun c1 => ?_) (fun c1 => ?_)
  · have hf := if_t c1 hf
    refine k_word hM hW 0 (by decide) (wgm fk_RX10_3) dX10_of_35 ?_
    cases hf
    exact W.aret hx hb hr (Or.inl ⟨_, rfl⟩) (Or.inr ⟨_, rfl⟩) (b_ret0 hW (fun _ _ => rfl) _) hW.2.2.2 dX10_of_38 hlk
  · have hf := if_f c1 hf
    refine k_all hM hW (wgm fk_RX10_137) dX10_of_10 ?_
    refine lv_iload_n hx hb dX10_of_13 rfl (lv_at hl 1 rfl) ?_
    obtain ⟨h2, hf⟩ := ck_elim hf
    refine k_aall hM hW h2 dX10_of_14 ?_
    have h29 := inb_lt h2
    refine k_pk hM hW h29 (wgm fk_RX10_127) dX10_of_15 ?_
    refine lv_lload_n hx hb dX10_of_18 rfl (lv_at hl 0 rfl) ?_
    refine W.lcmp hx hb dX10_of_19 ?_
    refine lv_if_ne (tgt := 29) hx hb dX10_of_20 (by decide) (fun c3 => ?_) (fun c3 => ?_)
    · have hf := if_f c3 hf
      obtain ⟨y4, ey4⟩ : ∃ y : Int32, y = x2 + (1 : Int32) := ⟨_, rfl⟩
      have hf := nm_at ey4 hf
      refine lv_iinc (v := y4) (lv' := [(2, .int y4), (0, .long x0)]) hx hb dX10_of_29 hl (k := 1) rfl (by rw [ey4]; rfl) (by decide) rfl (fun ls hl => ?_)
      refine lv_goto (tgt := 2) hx hb dX10_of_32 (by decide) ?_
      exact hk2 _ hf _ _ hW _ (lv_sub hl [1, 0] rfl)
    · have hf := if_t c3 hf
      refine k_all hM hW (wgm fk_RX10_137) dX10_of_23 ?_
      refine lv_iload_n hx hb dX10_of_26 rfl (lv_at hl 1 rfl) ?_
      obtain ⟨h5, hf⟩ := ck_elim hf
      refine k_aall hM hW h5 dX10_of_27 ?_
      cases hf
      exact W.aret hx hb hr (Or.inl ⟨_, rfl⟩) (Or.inr ⟨_, rfl⟩) (b_ret0 hW (fun _ _ => rfl) _) hW.2.2.2 dX10_of_28 hlk
theorem t_X10_of_2 {G : GG} {p : Program} {l : Launch} {e : Env} {s : State} {m : MethodId} {args : Array Value} {below : List Frame} {meth : Method} {c : Code} {S : ST} {fu : Nat} {z : Nat}  {x0 : Int64} (hM : MC G p s m args c cX10_of w_X10_of RX10) (hml : c.maxLocals = 3) (hr : meth.sig.returnType = (some (.object "PanelCopies$Word"))) (hlk : meth.locks = false)   : ∀ {n : Nat} (x2 : Int32), f_X10_of_2 fu n    x0 x2 = some z → ∀ (H : Heap) (locs : List Loc), WB G S s H locs → ∀ (ls : Array Slot), lv_has ls 3 [(0, .long x0), (2, .int x2)] → W p l e RM_X10_of s m args below meth c H locs 0 0 (QR G below args s (some (.ref (kAd G z))) S S) (F0 m 2 ls []) := by
  intro n
  induction n with
  | zero => intro x2 hf; cases hf
  | succ n ih => intro x2 hf; exact t_X10_of_2s (fu := fu) hM hml hr hlk (k2 := f_X10_of_2 fu n    x0) ih _ hf
noncomputable def f_X10_of_0 (fu : Nat)  (x0 : Int64) : Option (Nat) :=
  f_X10_of_2 fu fu x0 (0 : Int32)
set_option maxHeartbeats 4000000 in
set_option maxRecDepth 100000 in
theorem t_X10_of_0 {G : GG} {p : Program} {l : Launch} {e : Env} {s : State} {m : MethodId} {args : Array Value} {below : List Frame} {meth : Method} {c : Code} {S : ST} {fu : Nat} {z : Nat}  {x0 : Int64} (hM : MC G p s m args c cX10_of w_X10_of RX10) (hml : c.maxLocals = 3) (hr : meth.sig.returnType = (some (.object "PanelCopies$Word"))) (hlk : meth.locks = false)   (hf : f_X10_of_0 fu    x0 = some z) : ∀ (H : Heap) (locs : List Loc), WB G S s H locs → ∀ (ls : Array Slot), lv_has ls 3 [(0, .long x0)] → W p l e RM_X10_of s m args below meth c H locs 0 0 (QR G below args s (some (.ref (kAd G z))) S S) (F0 m 0 ls []) := by
  intro  H locs hW ls hl
  have hx := hM.1
  have hb := hM.2.1
  refine lv_iconst (v := (0 : Int32)) hx hb dX10_of_0 (by decide) ?_
  refine lv_istore_n (lv' := [(2, .int (0 : Int32)), (0, .long x0)]) hx hb dX10_of_1 rfl hl (by decide) rfl (fun ls hl => ?_)
  exact t_X10_of_2 (fu := fu) hM hml hr hlk _ hf _ _ hW _ (lv_sub hl [1, 0] rfl)
noncomputable def f_X10_of (fu : Nat) (x0 : Int64) : Option (Nat) := f_X10_of_0 fu x0
set_option maxHeartbeats 4000000 in
set_option maxRecDepth 100000 in
theorem c_X10_of (l : Launch) (G : GG) (fu : Nat) (S : ST) (x0 : Int64) {z : Nat} (hf : f_X10_of fu x0 = some z) : Ct l yX10_of w_X10_of RM_X10_of G S [.long x0] (some (.ref (kAd G z))) S 0 0 := by
  refine Met.ofW (cc := cX10_of) (maxL := 3) (ret := (some (.object "PanelCopies$Word"))) (by decide) rfl ?_
  intro p e s m args below meth c s₁ B hml hv
  obtain ⟨rfl, hB, hK, hz⟩ := hv
  have hM : MC G p s m _ c cX10_of w_X10_of RX10 := ⟨B.exec, B.bytes, findClass_of_methodNamed B.named, atoms_spec (ws := w_X10_of) B.pre, hK, hz⟩
  have hW : WB G S s s.heap [] := ⟨hB, va_S.rf⟩
  have hl := lv_entry ([.long x0]) (n := 3) (Nat.le_of_ble_eq_true rfl)
  rw [lg_entry_eq]
  generalize (lg_sl ([.long x0]) ++ List.replicate (3 - (lg_sl ([.long x0])).length) Slot.unset).toArray = ls at hl ⊢
  have hl : lv_has ls 3 [(0, .long x0)] := hl
  exact t_X10_of_0 (fu := fu) hM hml B.returns B.notSynchronized hf _ _ hW _ (lv_sub hl [0] rfl)
abbrev RM_X8_word : Room := { frames := 1, cells := 0, slots := 0, locals := 22 }
abbrev w_X8_word : List Cond := Cond.code yX8_word cX8_word 1 (some (.object "PanelCopies$Word")) :: wsL_law0
noncomputable def f_X8_word_35 (fu : Nat)  (v : GV) : Option (Nat) :=
  some (0)
set_option maxHeartbeats 4000000 in
set_option maxRecDepth 100000 in
theorem t_X8_word_35 {G : GG} {p : Program} {l : Launch} {e : Env} {s : State} {m : MethodId} {args : Array Value} {below : List Frame} {meth : Method} {c : Code} {S : ST} {fu : Nat} {z : Nat} {a : Nat} {v : GV}  (hM : MC G p s m args c cX8_word w_X8_word RX8) (hml : c.maxLocals = 1) (hr : meth.sig.returnType = (some (.object "PanelCopies$Word"))) (hlk : meth.locks = false) (hc0 : gC v = 8)  (hf : f_X8_word_35 fu  v   = some z) : ∀ (H : Heap) (locs : List Loc), WB G (st S a v) s H locs → ∀ (ls : Array Slot), lv_has ls 1 [] → W p l e RM_X8_word s m args below meth c H locs 0 0 (QR G below args s (some (.ref (kAd G z))) (st S a v) (st S a v)) (F0 m 35 ls []) := by
  intro  H locs hW ls hl
  have hx := hM.1
  have hb := hM.2.1
  have hc := hc0
  refine k_word hM hW 0 (by decide) (wgm fk_RX8_92) dX8_word_35 ?_
  cases hf
  exact W.aret hx hb hr (Or.inl ⟨_, rfl⟩) (Or.inr ⟨_, rfl⟩) (b_ret0 hW (fun _ _ => rfl) _) hW.2.2.2 dX8_word_38 hlk
noncomputable def f_X8_word_0 (fu : Nat)  (v : GV) : Option (Nat) :=
  if (gI v 7) = 0 then
    (nm ((gI v 5)) fun y2 =>
    ck (inb y2 1001) <|
    if (gA v 1 y2.toNatClampNeg) = (3 : Int32) then
      (nm ((gI v 5)) fun y5 =>
      ck (inb y5 1001) <|
      bd (f_X10_of fu (gL v 3 y5.toNatClampNeg)) fun r7 =>
      ck (decide (r7 < 30)) <|
      some (r7))
    else
      (f_X8_word_35 fu v))
  else
    (f_X8_word_35 fu v)
set_option maxHeartbeats 4000000 in
set_option maxRecDepth 100000 in
theorem t_X8_word_0 {G : GG} {p : Program} {l : Launch} {e : Env} {s : State} {m : MethodId} {args : Array Value} {below : List Frame} {meth : Method} {c : Code} {S : ST} {fu : Nat} {z : Nat} {a : Nat} {v : GV}  (hM : MC G p s m args c cX8_word w_X8_word RX8) (hml : c.maxLocals = 1) (hr : meth.sig.returnType = (some (.object "PanelCopies$Word"))) (hlk : meth.locks = false) (hc0 : gC v = 8)  (hf : f_X8_word_0 fu  v   = some z) : ∀ (H : Heap) (locs : List Loc), WB G (st S a v) s H locs → ∀ (ls : Array Slot), lv_has ls 1 [(0, .ref a)] → W p l e RM_X8_word s m args below meth c H locs 0 0 (QR G below args s (some (.ref (kAd G z))) (st S a v) (st S a v)) (F0 m 0 ls []) := by
  intro  H locs hW ls hl
  have hx := hM.1
  have hb := hM.2.1
  have hc := hc0
  refine lv_aload_n hx hb dX8_word_0 rfl (lv_at hl 0 rfl) ?_
  refine b_get hM hW 7 7 hc rfl rfl (by decide) wi_X8 (wgm fk_RX8_36) (x := .int (gI v 7)) rfl dX8_word_1 ?_
  refine lv_if_ne (tgt := 35) hx hb dX8_word_4 (by decide) (fun c1 => ?_) (fun c1 => ?_)
  · have hf := if_f c1 hf
    exact t_X8_word_35 (fu := fu) hM hml hr hlk hc0 hf _ _ hW _ (lv_sub hl [] rfl)
  · have hf := if_t c1 hf
    refine lv_aload_n hx hb dX8_word_7 rfl (lv_at hl 0 rfl) ?_
    refine b_get hM hW 7 1 hc rfl rfl (by decide) wi_X8 (wgm fk_RX8_15) (x := .ref (a + 2)) rfl dX8_word_8 ?_
    refine lv_aload_n hx hb dX8_word_11 rfl (lv_at hl 0 rfl) ?_
    refine b_get hM hW 7 5 hc rfl rfl (by decide) wi_X8 (wgm fk_RX8_30) (x := .int (gI v 5)) rfl dX8_word_12 ?_
    refine lv_topi (fun y2 ey2 => ?_)
    have hf := nm_at ey2 hf
    obtain ⟨h3, hf⟩ := ck_elim hf
    refine b_iald (n := 1001) hM hW 7 1 hc (by decide) rfl rfl rfl rfl h3 dX8_word_15 ?_
    refine lv_iconst (v := (3 : Int32)) hx hb dX8_word_16 (by decide) ?_
    refine lv_icmp_ne (tgt := 35) hx hb dX8_word_17 (by decide) (fun c4 => ?_) (fun c4 => ?_)
    · have hf := if_f c4 hf
      exact t_X8_word_35 (fu := fu) hM hml hr hlk hc0 hf _ _ hW _ (lv_sub hl [] rfl)
    · have hf := if_t c4 hf
      refine lv_aload_n hx hb dX8_word_20 rfl (lv_at hl 0 rfl) ?_
      refine b_get hM hW 7 3 hc rfl rfl (by decide) wi_X8 (wgm fk_RX8_22) (x := .ref (a + 4)) rfl dX8_word_21 ?_
      refine lv_aload_n hx hb dX8_word_24 rfl (lv_at hl 0 rfl) ?_
      refine b_get hM hW 7 5 hc rfl rfl (by decide) wi_X8 (wgm fk_RX8_30) (x := .int (gI v 5)) rfl dX8_word_25 ?_
      refine lv_topi (fun y5 ey5 => ?_)
      have hf := nm_at ey5 hf
      obtain ⟨h6, hf⟩ := ck_elim hf
      refine b_lald (n := 1001) hM hW 7 3 hc (by decide) rfl rfl rfl rfl h6 dX8_word_28 ?_
      obtain ⟨r7, hr7, hf⟩ := bd_elim hf
      refine s_callSr [.long (gL v 3 y5.toNatClampNeg)] [] hM hml hl.1 hW (c_X10_of l G fu _ _ hr7) (va_cwS 1 hM.2.2.2.1 (gS mk_RX8_78 sm_X10_of it_RX10 cd_X10_of) rfl rfl rfl (by decide +kernel) ⟨Nat.le_of_ble_eq_true rfl, Nat.le_of_ble_eq_true rfl⟩) rfl rfl (Nat.le_of_ble_eq_true rfl) ⟨Nat.zero_le _, Nat.zero_le _⟩ dX8_word_29 (fun H locs hW hk => ?_)
      obtain ⟨h8, hf⟩ := ck_elim hf
      have h8 := of_decide_eq_true h8
      refine lv_goto (tgt := 38) hx hb dX8_word_32 (by decide) ?_
      cases hf
      exact W.aret hx hb hr (Or.inl ⟨_, rfl⟩) (Or.inr ⟨_, rfl⟩) (b_ret0 hW (fun _ _ => rfl) _) hW.2.2.2 dX8_word_38 hlk
noncomputable def f_X8_word (fu : Nat) (v : GV) : Option (Nat) := f_X8_word_0 fu v
set_option maxHeartbeats 4000000 in
set_option maxRecDepth 100000 in
theorem c_X8_word (l : Launch) (G : GG) (fu : Nat) (S : ST) (a : Nat) (v : GV) {z : Nat} (hc : gC v = 8) (hf : f_X8_word fu v = some z) : Ct l yX8_word w_X8_word RM_X8_word G (st S a v) [.ref a] (some (.ref (kAd G z))) (st S a v) 0 0 := by
  refine Met.ofW (cc := cX8_word) (maxL := 1) (ret := (some (.object "PanelCopies$Word"))) (by decide) rfl ?_
  intro p e s m args below meth c s₁ B hml hv
  obtain ⟨rfl, hB, hK, hz⟩ := hv
  have hM : MC G p s m _ c cX8_word w_X8_word RX8 := ⟨B.exec, B.bytes, findClass_of_methodNamed B.named, atoms_spec (ws := w_X8_word) B.pre, hK, hz⟩
  have hW : WB G (st S a v) s s.heap [] := ⟨hB, va_S.rf⟩
  have hl := lv_entry ([.ref a]) (n := 1) (Nat.le_of_ble_eq_true rfl)
  rw [lg_entry_eq]
  generalize (lg_sl ([.ref a]) ++ List.replicate (1 - (lg_sl ([.ref a])).length) Slot.unset).toArray = ls at hl ⊢
  have hl : lv_has ls 1 [(0, .ref a)] := hl
  exact t_X8_word_0 (fu := fu) hM hml B.returns B.notSynchronized hc hf _ _ hW _ (lv_sub hl [0] rfl)
abbrev RM_X2_kindOf : Room := { frames := 1, cells := 0, slots := 0, locals := 20 }
abbrev w_X2_kindOf : List Cond := Cond.code yX2_kindOf cX2_kindOf 1 (some .int) :: wsL_law0
noncomputable def f_X2_kindOf_0 (fu : Nat)  (e0 : Nat) : Option (Int32) :=
  nm ((nI e0)) fun y1 =>
  ck (inb y1 30) <|
  nm ((smp.getD y1.toNatClampNeg 0)) fun y3 =>
  if y3 = (7 : Int32) then
    (some ((0 : Int32)))
  else
  if y3 = (8 : Int32) then
    (some ((1 : Int32)))
  else
  if y3 = (9 : Int32) then
    (some ((2 : Int32)))
  else
  if y3 = (10 : Int32) then
    (some ((3 : Int32)))
  else
  (some ((-1 : Int32)))
set_option maxHeartbeats 4000000 in
set_option maxRecDepth 100000 in
theorem t_X2_kindOf_0 {G : GG} {p : Program} {l : Launch} {e : Env} {s : State} {m : MethodId} {args : Array Value} {below : List Frame} {meth : Method} {c : Code} {S : ST} {fu : Nat} {z : Int32} {e0 : Nat}  (hM : MC G p s m args c cX2_kindOf w_X2_kindOf RX2) (hml : c.maxLocals = 1) (hr : meth.sig.returnType = (some .int)) (hlk : meth.locks = false) (he0 : e0 < 30)  (hf : f_X2_kindOf_0 fu   e0  = some z) : ∀ (H : Heap) (locs : List Loc), WB G S s H locs → ∀ (ls : Array Slot), lv_has ls 1 [(0, .ref (kAd G e0))] → W p l e RM_X2_kindOf s m args below meth c H locs 0 0 (QR G below args s (some (.int z)) S S) (F0 m 0 ls []) := by
  intro  H locs hW ls hl
  have hx := hM.1
  have hb := hM.2.1
  refine k_smap hM hW (wgm fk_RX2_38) dX2_kindOf_0 ?_
  refine lv_aload_n hx hb dX2_kindOf_3 rfl (lv_at hl 0 rfl) ?_
  refine k_ord [.ref (kAd G 31)] hM hml hl.1 hW he0 mk_RX2_48 ⟨Nat.le_of_ble_eq_true rfl, Nat.le_of_ble_eq_true rfl⟩ (Nat.le_of_ble_eq_true rfl) ⟨Nat.zero_le _, Nat.zero_le _⟩ dX2_kindOf_4 (fun H locs hW _ => ?_)
  refine lv_topi (fun y1 ey1 => ?_)
  have hf := nm_at ey1 hf
  obtain ⟨h2, hf⟩ := ck_elim hf
  refine k_ism hM hW h2 dX2_kindOf_7 ?_
  refine lv_topi (fun y3 ey3 => ?_)
  have hf := nm_at ey3 hf
  by_cases c4 : y3 = (7 : Int32)
  · have hf := if_t c4 hf
    refine lv_tableIn (off := 32) (tgt := 40) hx hb dX2_kindOf_8 (by rw [c4]; decide) (by rw [c4]; decide) (by rw [c4]; rfl) (by decide) ?_
    refine lv_iconst (v := (0 : Int32)) hx hb dX2_kindOf_40 (by decide) ?_
    cases hf
    exact W.iret hx hb hr (b_ret0 hW (fun _ _ => rfl) _) hW.2.2.2 dX2_kindOf_41 hlk
  have hf := if_f c4 hf
  by_cases c5 : y3 = (8 : Int32)
  · have hf := if_t c5 hf
    refine lv_tableIn (off := 34) (tgt := 42) hx hb dX2_kindOf_8 (by rw [c5]; decide) (by rw [c5]; decide) (by rw [c5]; rfl) (by decide) ?_
    refine lv_iconst (v := (1 : Int32)) hx hb dX2_kindOf_42 (by decide) ?_
    cases hf
    exact W.iret hx hb hr (b_ret0 hW (fun _ _ => rfl) _) hW.2.2.2 dX2_kindOf_43 hlk
  have hf := if_f c5 hf
  by_cases c6 : y3 = (9 : Int32)
  · have hf := if_t c6 hf
    refine lv_tableIn (off := 36) (tgt := 44) hx hb dX2_kindOf_8 (by rw [c6]; decide) (by rw [c6]; decide) (by rw [c6]; rfl) (by decide) ?_
    refine lv_iconst (v := (2 : Int32)) hx hb dX2_kindOf_44 (by decide) ?_
    cases hf
    exact W.iret hx hb hr (b_ret0 hW (fun _ _ => rfl) _) hW.2.2.2 dX2_kindOf_45 hlk
  have hf := if_f c6 hf
  by_cases c7 : y3 = (10 : Int32)
  · have hf := if_t c7 hf
    refine lv_tableIn (off := 38) (tgt := 46) hx hb dX2_kindOf_8 (by rw [c7]; decide) (by rw [c7]; decide) (by rw [c7]; rfl) (by decide) ?_
    refine lv_iconst (v := (3 : Int32)) hx hb dX2_kindOf_46 (by decide) ?_
    cases hf
    exact W.iret hx hb hr (b_ret0 hW (fun _ _ => rfl) _) hW.2.2.2 dX2_kindOf_47 hlk
  have hf := if_f c7 hf
  refine lv_tableOut (tgt := 48) hx hb dX2_kindOf_8 (sw_out (fun j h1 h2 hj => ?_)) (by decide) ?_
  · have hcases : j = 7 ∨ j = 8 ∨ j = 9 ∨ j = 10 := by omega
    rcases hcases with rfl | rfl | rfl | rfl
    · exact c4 (Int32.toInt_inj.mp (hj.trans (by decide)))
    · exact c5 (Int32.toInt_inj.mp (hj.trans (by decide)))
    · exact c6 (Int32.toInt_inj.mp (hj.trans (by decide)))
    · exact c7 (Int32.toInt_inj.mp (hj.trans (by decide)))
  · refine lv_iconst (v := (-1 : Int32)) hx hb dX2_kindOf_48 (by decide) ?_
    cases hf
    exact W.iret hx hb hr (b_ret0 hW (fun _ _ => rfl) _) hW.2.2.2 dX2_kindOf_49 hlk
noncomputable def f_X2_kindOf (fu : Nat) (e0 : Nat) : Option (Int32) := f_X2_kindOf_0 fu e0
set_option maxHeartbeats 4000000 in
set_option maxRecDepth 100000 in
theorem c_X2_kindOf (l : Launch) (G : GG) (fu : Nat) (S : ST) (e0 : Nat) {z : Int32} (he0 : e0 < 30) (hf : f_X2_kindOf fu e0 = some z) : Ct l yX2_kindOf w_X2_kindOf RM_X2_kindOf G S [.ref (kAd G e0)] (some (.int z)) S 0 0 := by
  refine Met.ofW (cc := cX2_kindOf) (maxL := 1) (ret := (some .int)) (by decide) rfl ?_
  intro p e s m args below meth c s₁ B hml hv
  obtain ⟨rfl, hB, hK, hz⟩ := hv
  have hM : MC G p s m _ c cX2_kindOf w_X2_kindOf RX2 := ⟨B.exec, B.bytes, findClass_of_methodNamed B.named, atoms_spec (ws := w_X2_kindOf) B.pre, hK, hz⟩
  have hW : WB G S s s.heap [] := ⟨hB, va_S.rf⟩
  have hl := lv_entry ([.ref (kAd G e0)]) (n := 1) (Nat.le_of_ble_eq_true rfl)
  rw [lg_entry_eq]
  generalize (lg_sl ([.ref (kAd G e0)]) ++ List.replicate (1 - (lg_sl ([.ref (kAd G e0)])).length) Slot.unset).toArray = ls at hl ⊢
  have hl : lv_has ls 1 [(0, .ref (kAd G e0))] := hl
  exact t_X2_kindOf_0 (fu := fu) hM hml B.returns B.notSynchronized he0 hf _ _ hW _ (lv_sub hl [0] rfl)
abbrev RM_X2_takeKind : Room := { frames := 2, cells := 0, slots := 0, locals := 43 }
abbrev w_X2_takeKind : List Cond := Cond.code yX2_takeKind cX2_takeKind 2 (some .int) :: wsL_law0
noncomputable def f_X2_takeKind_25 (fu : Nat)  (S : ST) (a : Nat) (x1 : Int32) (t0 : Nat) (t1 : Int32) : Option (Int32 × ST) :=
  bd (f_X8_stepOrFail fu (S t0) t1 (1 : Int32)) fun v2 =>
  nm (st S t0 v2) fun Sv2 =>
  some (x1, Sv2)
set_option maxHeartbeats 4000000 in
set_option maxRecDepth 100000 in
theorem t_X2_takeKind_25 {G : GG} {p : Program} {l : Launch} {e : Env} {s : State} {m : MethodId} {args : Array Value} {below : List Frame} {meth : Method} {c : Code} {S0 : ST} {fu : Nat} {z : Int32 × ST} {a : Nat}  {S : ST} {x1 : Int32} {t0 : Nat} {t1 : Int32} (hM : MC G p s m args c cX2_takeKind w_X2_takeKind RX2) (hml : c.maxLocals = 2) (hr : meth.sig.returnType = (some .int)) (hlk : meth.locks = false)   (hf : f_X2_takeKind_25 fu  S a x1 t0 t1 = some z) : (gC (S a) = 2) → (∀ b, gC (S0 b) ≠ 0 → gC (S b) = gC (S0 b)) → (gC (S t0) = 8) → ∀ (H : Heap) (locs : List Loc), WB G S s H locs → ∀ (ls : Array Slot), lv_has ls 2 [(1, .int x1)] → W p l e RM_X2_takeKind s m args below meth c H locs 0 0 (QR G below args s (some (.int z.1)) S0 z.2) (F0 m 25 ls [.int t1, .ref t0]) := by
  intro ha hK0 ht0 H locs hW ls hl
  have hx := hM.1
  have hb := hM.2.1
  refine lv_iconst (v := (1 : Int32)) hx hb dX2_takeKind_25 (by decide) ?_
  obtain ⟨v2, hr1, hf⟩ := bd_elim hf
  refine s_callNv [.int t1, .int (1 : Int32)] [] hM hml hl.1 hW ht0 rfl (by decide) (Ct_self (c_X8_stepOrFail l G fu _ t0 (S t0) _ _ ht0 hr1)) (cwV 2 hM.2.2.2.1 (gV mk_RX2_91 im_X8_stepOrFail se_X8_stepOrFail it_RX8 cd_X8_stepOrFail) rfl rfl rfl (by decide +kernel) ⟨Nat.le_of_ble_eq_true rfl, Nat.le_of_ble_eq_true rfl⟩) rfl rfl (Nat.le_of_ble_eq_true rfl) ⟨Nat.zero_le _, Nat.zero_le _⟩ dX2_takeKind_26 (fun Sv2 ev2 hk H locs hW => ?_)
  have hf := nm_at ev2 hf
  have ha := keep1 hk ha
  have ht0 := keep1 hk ht0
  have hK0 := keep_tr hK0 hk
  refine lv_iload_n hx hb dX2_takeKind_29 rfl (lv_at hl 0 rfl) ?_
  cases hf
  exact W.iret hx hb hr (b_ret0 hW hK0 _) hW.2.2.2 dX2_takeKind_30 hlk
noncomputable def f_X2_takeKind_0 (fu : Nat)  (S : ST) (a : Nat) : Option (Int32 × ST) :=
  bd (gR (S a) 0) fun q1 =>
  ck (decide (gC (S q1) = 8)) <|
  bd (f_X8_word fu (S q1)) fun r3 =>
  ck (decide (r3 < 30)) <|
  bd (f_X2_kindOf fu r3) fun r5 =>
  bd (gR (S a) 0) fun q6 =>
  ck (decide (gC (S q6) = 8)) <|
  if r5 = (-1 : Int32) then
    (f_X2_takeKind_25 fu S a r5 q6 (0 : Int32))
  else
    (f_X2_takeKind_25 fu S a r5 q6 (1 : Int32))
set_option maxHeartbeats 4000000 in
set_option maxRecDepth 100000 in
theorem t_X2_takeKind_0 {G : GG} {p : Program} {l : Launch} {e : Env} {s : State} {m : MethodId} {args : Array Value} {below : List Frame} {meth : Method} {c : Code} {S0 : ST} {fu : Nat} {z : Int32 × ST} {a : Nat}  {S : ST} (hM : MC G p s m args c cX2_takeKind w_X2_takeKind RX2) (hml : c.maxLocals = 2) (hr : meth.sig.returnType = (some .int)) (hlk : meth.locks = false)   (hf : f_X2_takeKind_0 fu  S a  = some z) : (gC (S a) = 2) → (∀ b, gC (S0 b) ≠ 0 → gC (S b) = gC (S0 b)) → ∀ (H : Heap) (locs : List Loc), WB G S s H locs → ∀ (ls : Array Slot), lv_has ls 2 [(0, .ref a)] → W p l e RM_X2_takeKind s m args below meth c H locs 0 0 (QR G below args s (some (.int z.1)) S0 z.2) (F0 m 0 ls []) := by
  intro ha hK0 H locs hW ls hl
  have hx := hM.1
  have hb := hM.2.1
  refine lv_aload_n hx hb dX2_takeKind_0 rfl (lv_at hl 0 rfl) ?_
  obtain ⟨q1, hq1, hf⟩ := bd_elim hf
  refine b_get hM (hW.at_ a) 1 0 ha rfl rfl (by decide) wi_X2 (wgm fk_RX2_9) (x := .ref q1) (by show va_rf _ = _; rw [hq1]; rfl) dX2_takeKind_1 ?_
  obtain ⟨h2, hf⟩ := ck_elim hf
  have h2 := of_decide_eq_true h2
  obtain ⟨r3, hr3, hf⟩ := bd_elim hf
  refine s_callVr [] [] hM hml hl.1 hW h2 rfl (by decide) (Ct_rd (c_X8_word l G fu _ q1 (S q1) h2 hr3)) (cwV 0 hM.2.2.2.1 (gV mk_RX2_44 im_X8_word se_X8_word it_RX8 cd_X8_word) rfl rfl rfl (by decide +kernel) ⟨Nat.le_of_ble_eq_true rfl, Nat.le_of_ble_eq_true rfl⟩) rfl rfl (Nat.le_of_ble_eq_true rfl) ⟨Nat.zero_le _, Nat.zero_le _⟩ dX2_takeKind_4 (fun H locs hW hk => ?_)
  obtain ⟨h4, hf⟩ := ck_elim hf
  have h4 := of_decide_eq_true h4
  obtain ⟨r5, hr5, hf⟩ := bd_elim hf
  refine s_callSi [.ref (kAd G r3)] [] hM hml hl.1 hW (c_X2_kindOf l G fu _ _ h4 hr5) (va_cwS 1 hM.2.2.2.1 (gS mk_RX2_144 sm_X2_kindOf it_RX2 cd_X2_kindOf) rfl rfl rfl (by decide +kernel) ⟨Nat.le_of_ble_eq_true rfl, Nat.le_of_ble_eq_true rfl⟩) rfl rfl (Nat.le_of_ble_eq_true rfl) ⟨Nat.zero_le _, Nat.zero_le _⟩ dX2_takeKind_7 (fun H locs hW hk => ?_)
  refine lv_istore_n (lv' := [(1, .int r5), (0, .ref a)]) hx hb dX2_takeKind_10 rfl hl (by decide) rfl (fun ls hl => ?_)
  refine lv_aload_n hx hb dX2_takeKind_11 rfl (lv_at hl 1 rfl) ?_
  obtain ⟨q6, hq6, hf⟩ := bd_elim hf
  refine b_get hM (hW.at_ a) 1 0 ha rfl rfl (by decide) wi_X2 (wgm fk_RX2_9) (x := .ref q6) (by show va_rf _ = _; rw [hq6]; rfl) dX2_takeKind_12 ?_
  obtain ⟨h7, hf⟩ := ck_elim hf
  have h7 := of_decide_eq_true h7
  refine lv_iload_n hx hb dX2_takeKind_15 rfl (lv_at hl 0 rfl) ?_
  refine lv_iconst (v := (-1 : Int32)) hx hb dX2_takeKind_16 (by decide) ?_
  refine lv_icmp_eq (tgt := 24) hx hb dX2_takeKind_17 (by decide) (fun c8 => ?_) (fun c8 => ?_)
  · have hf := if_t c8 hf
    refine lv_iconst (v := (0 : Int32)) hx hb dX2_takeKind_24 (by decide) ?_
    exact t_X2_takeKind_25 (fu := fu) hM hml hr hlk hf ha hK0 h7 _ _ hW _ (lv_sub hl [0] rfl)
  · have hf := if_f c8 hf
    refine lv_iconst (v := (1 : Int32)) hx hb dX2_takeKind_20 (by decide) ?_
    refine lv_goto (tgt := 25) hx hb dX2_takeKind_21 (by decide) ?_
    exact t_X2_takeKind_25 (fu := fu) hM hml hr hlk hf ha hK0 h7 _ _ hW _ (lv_sub hl [0] rfl)
noncomputable def f_X2_takeKind (fu : Nat) (S : ST) (a : Nat) : Option (Int32 × ST) := f_X2_takeKind_0 fu S a
set_option maxHeartbeats 4000000 in
set_option maxRecDepth 100000 in
theorem c_X2_takeKind (l : Launch) (G : GG) (fu : Nat) (S : ST) (a : Nat) {z : Int32} {w : ST} (ha : gC (S a) = 2) (hf : f_X2_takeKind fu S a = some (z, w)) : Ct l yX2_takeKind w_X2_takeKind RM_X2_takeKind G S [.ref a] (some (.int z)) w 0 0 := by
  refine Met.ofW (cc := cX2_takeKind) (maxL := 2) (ret := (some .int)) (by decide) rfl ?_
  intro p e s m args below meth c s₁ B hml hv
  obtain ⟨rfl, hB, hK, hz⟩ := hv
  have hM : MC G p s m _ c cX2_takeKind w_X2_takeKind RX2 := ⟨B.exec, B.bytes, findClass_of_methodNamed B.named, atoms_spec (ws := w_X2_takeKind) B.pre, hK, hz⟩
  have hW : WB G S s s.heap [] := ⟨hB, va_S.rf⟩
  have hl := lv_entry ([.ref a]) (n := 2) (Nat.le_of_ble_eq_true rfl)
  rw [lg_entry_eq]
  generalize (lg_sl ([.ref a]) ++ List.replicate (2 - (lg_sl ([.ref a])).length) Slot.unset).toArray = ls at hl ⊢
  have hl : lv_has ls 2 [(0, .ref a)] := hl
  exact t_X2_takeKind_0 (fu := fu) hM hml B.returns B.notSynchronized hf ha (fun _ _ => rfl) _ _ hW _ (lv_sub hl [0] rfl)
abbrev RM_X8_isAt_ : Room := { frames := 0, cells := 0, slots := 0, locals := 0 }
abbrev w_X8_isAt_ : List Cond := Cond.code yX8_isAt_ cX8_isAt_ 3 (some .boolean) :: wsL_law0
noncomputable def f_X8_isAt__64 (fu : Nat)  (v : GV) (e1 : Nat) : Option (Int32) :=
  some ((0 : Int32))
set_option maxHeartbeats 4000000 in
set_option maxRecDepth 100000 in
theorem t_X8_isAt__64 {G : GG} {p : Program} {l : Launch} {e : Env} {s : State} {m : MethodId} {args : Array Value} {below : List Frame} {meth : Method} {c : Code} {S : ST} {fu : Nat} {z : Int32} {a : Nat} {v : GV} {e1 : Nat}  (hM : MC G p s m args c cX8_isAt_ w_X8_isAt_ RX8) (hml : c.maxLocals = 3) (hr : meth.sig.returnType = (some .boolean)) (hlk : meth.locks = false) (hc0 : gC v = 8) (he1 : e1 < 30)  (hf : f_X8_isAt__64 fu  v e1  = some z) : ∀ (H : Heap) (locs : List Loc), WB G (st S a v) s H locs → ∀ (ls : Array Slot), lv_has ls 3 [] → W p l e RM_X8_isAt_ s m args below meth c H locs 0 0 (QR G below args s (some (.int z)) (st S a v) (st S a v)) (F0 m 64 ls []) := by
  intro  H locs hW ls hl
  have hx := hM.1
  have hb := hM.2.1
  have hc := hc0
  refine lv_iconst (v := (0 : Int32)) hx hb dX8_isAt__64 (by decide) ?_
  cases hf
  exact W.zret (v := (0 : Int32)) hx hb hr (by decide) (b_ret0 hW (fun _ _ => rfl) _) hW.2.2.2 dX8_isAt__65 hlk
noncomputable def f_X8_isAt__31 (fu : Nat)  (v : GV) (e1 : Nat) (t0 : Int32) : Option (Int32) :=
  if (gI v 7) = 0 then
    (if t0 = 0 then
      (f_X8_isAt__64 fu v e1)
    else
      (nm ((gI v 5)) fun y3 =>
      ck (inb y3 1001) <|
      if (lg_cmp (gL v 3 y3.toNatClampNeg) (wpk.getD e1 0)) = 0 then
        (some ((1 : Int32)))
      else
        (f_X8_isAt__64 fu v e1)))
  else
    (f_X8_isAt__64 fu v e1)
set_option maxHeartbeats 4000000 in
set_option maxRecDepth 100000 in
theorem t_X8_isAt__31 {G : GG} {p : Program} {l : Launch} {e : Env} {s : State} {m : MethodId} {args : Array Value} {below : List Frame} {meth : Method} {c : Code} {S : ST} {fu : Nat} {z : Int32} {a : Nat} {v : GV} {e1 : Nat}  {t0 : Int32} (hM : MC G p s m args c cX8_isAt_ w_X8_isAt_ RX8) (hml : c.maxLocals = 3) (hr : meth.sig.returnType = (some .boolean)) (hlk : meth.locks = false) (hc0 : gC v = 8) (he1 : e1 < 30)  (hf : f_X8_isAt__31 fu  v e1 t0 = some z) : ∀ (H : Heap) (locs : List Loc), WB G (st S a v) s H locs → ∀ (ls : Array Slot), lv_has ls 3 [(0, .ref a), (1, .ref (kAd G e1))] → W p l e RM_X8_isAt_ s m args below meth c H locs 0 0 (QR G below args s (some (.int z)) (st S a v) (st S a v)) (F0 m 31 ls [.int t0]) := by
  intro  H locs hW ls hl
  have hx := hM.1
  have hb := hM.2.1
  have hc := hc0
  refine lv_istore_n (lv' := [(2, .int t0), (0, .ref a), (1, .ref (kAd G e1))]) hx hb dX8_isAt__31 rfl hl (by decide) rfl (fun ls hl => ?_)
  refine lv_aload_n hx hb dX8_isAt__32 rfl (lv_at hl 1 rfl) ?_
  refine b_get hM hW 7 7 hc rfl rfl (by decide) wi_X8 (wgm fk_RX8_36) (x := .int (gI v 7)) rfl dX8_isAt__33 ?_
  refine lv_if_ne (tgt := 64) hx hb dX8_isAt__36 (by decide) (fun c1 => ?_) (fun c1 => ?_)
  · have hf := if_f c1 hf
    exact t_X8_isAt__64 (fu := fu) hM hml hr hlk hc0 he1 hf _ _ hW _ (lv_sub hl [] rfl)
  · have hf := if_t c1 hf
    refine lv_iload_n hx hb dX8_isAt__39 rfl (lv_at hl 0 rfl) ?_
    refine lv_if_eq (tgt := 64) hx hb dX8_isAt__40 (by decide) (fun c2 => ?_) (fun c2 => ?_)
    · have hf := if_t c2 hf
      exact t_X8_isAt__64 (fu := fu) hM hml hr hlk hc0 he1 hf _ _ hW _ (lv_sub hl [] rfl)
    · have hf := if_f c2 hf
      refine lv_aload_n hx hb dX8_isAt__43 rfl (lv_at hl 1 rfl) ?_
      refine b_get hM hW 7 3 hc rfl rfl (by decide) wi_X8 (wgm fk_RX8_22) (x := .ref (a + 4)) rfl dX8_isAt__44 ?_
      refine lv_aload_n hx hb dX8_isAt__47 rfl (lv_at hl 1 rfl) ?_
      refine b_get hM hW 7 5 hc rfl rfl (by decide) wi_X8 (wgm fk_RX8_30) (x := .int (gI v 5)) rfl dX8_isAt__48 ?_
      refine lv_topi (fun y3 ey3 => ?_)
      have hf := nm_at ey3 hf
      obtain ⟨h4, hf⟩ := ck_elim hf
      refine b_lald (n := 1001) hM hW 7 3 hc (by decide) rfl rfl rfl rfl h4 dX8_isAt__51 ?_
      refine lv_aload_n hx hb dX8_isAt__52 rfl (lv_at hl 2 rfl) ?_
      refine k_pk hM hW he1 (wgm fk_RX8_88) dX8_isAt__53 ?_
      refine W.lcmp hx hb dX8_isAt__56 ?_
      refine lv_if_ne (tgt := 64) hx hb dX8_isAt__57 (by decide) (fun c5 => ?_) (fun c5 => ?_)
      · have hf := if_f c5 hf
        exact t_X8_isAt__64 (fu := fu) hM hml hr hlk hc0 he1 hf _ _ hW _ (lv_sub hl [] rfl)
      · have hf := if_t c5 hf
        refine lv_iconst (v := (1 : Int32)) hx hb dX8_isAt__60 (by decide) ?_
        refine lv_goto (tgt := 65) hx hb dX8_isAt__61 (by decide) ?_
        cases hf
        exact W.zret (v := (1 : Int32)) hx hb hr (by decide) (b_ret0 hW (fun _ _ => rfl) _) hW.2.2.2 dX8_isAt__65 hlk
noncomputable def f_X8_isAt__26 (fu : Nat)  (v : GV) (e1 : Nat) : Option (Int32) :=
  f_X8_isAt__31 fu v e1 (1 : Int32)
set_option maxHeartbeats 4000000 in
set_option maxRecDepth 100000 in
theorem t_X8_isAt__26 {G : GG} {p : Program} {l : Launch} {e : Env} {s : State} {m : MethodId} {args : Array Value} {below : List Frame} {meth : Method} {c : Code} {S : ST} {fu : Nat} {z : Int32} {a : Nat} {v : GV} {e1 : Nat}  (hM : MC G p s m args c cX8_isAt_ w_X8_isAt_ RX8) (hml : c.maxLocals = 3) (hr : meth.sig.returnType = (some .boolean)) (hlk : meth.locks = false) (hc0 : gC v = 8) (he1 : e1 < 30)  (hf : f_X8_isAt__26 fu  v e1  = some z) : ∀ (H : Heap) (locs : List Loc), WB G (st S a v) s H locs → ∀ (ls : Array Slot), lv_has ls 3 [(0, .ref a), (1, .ref (kAd G e1))] → W p l e RM_X8_isAt_ s m args below meth c H locs 0 0 (QR G below args s (some (.int z)) (st S a v) (st S a v)) (F0 m 26 ls []) := by
  intro  H locs hW ls hl
  have hx := hM.1
  have hb := hM.2.1
  have hc := hc0
  refine lv_iconst (v := (1 : Int32)) hx hb dX8_isAt__26 (by decide) ?_
  refine lv_goto (tgt := 31) hx hb dX8_isAt__27 (by decide) ?_
  exact t_X8_isAt__31 (fu := fu) hM hml hr hlk hc0 he1 hf _ _ hW _ (lv_sub hl [0, 1] rfl)
noncomputable def f_X8_isAt__0 (fu : Nat)  (v : GV) (e1 : Nat) : Option (Int32) :=
  nm ((gI v 5)) fun y1 =>
  ck (inb y1 1001) <|
  if (gA v 1 y1.toNatClampNeg) = (2 : Int32) then
    (f_X8_isAt__26 fu v e1)
  else
    (nm ((gI v 5)) fun y4 =>
    ck (inb y4 1001) <|
    if (gA v 1 y4.toNatClampNeg) = (3 : Int32) then
      (f_X8_isAt__26 fu v e1)
    else
      (f_X8_isAt__31 fu v e1 (0 : Int32)))
set_option maxHeartbeats 4000000 in
set_option maxRecDepth 100000 in
theorem t_X8_isAt__0 {G : GG} {p : Program} {l : Launch} {e : Env} {s : State} {m : MethodId} {args : Array Value} {below : List Frame} {meth : Method} {c : Code} {S : ST} {fu : Nat} {z : Int32} {a : Nat} {v : GV} {e1 : Nat}  (hM : MC G p s m args c cX8_isAt_ w_X8_isAt_ RX8) (hml : c.maxLocals = 3) (hr : meth.sig.returnType = (some .boolean)) (hlk : meth.locks = false) (hc0 : gC v = 8) (he1 : e1 < 30)  (hf : f_X8_isAt__0 fu  v e1  = some z) : ∀ (H : Heap) (locs : List Loc), WB G (st S a v) s H locs → ∀ (ls : Array Slot), lv_has ls 3 [(0, .ref a), (1, .ref (kAd G e1))] → W p l e RM_X8_isAt_ s m args below meth c H locs 0 0 (QR G below args s (some (.int z)) (st S a v) (st S a v)) (F0 m 0 ls []) := by
  intro  H locs hW ls hl
  have hx := hM.1
  have hb := hM.2.1
  have hc := hc0
  refine lv_aload_n hx hb dX8_isAt__0 rfl (lv_at hl 0 rfl) ?_
  refine b_get hM hW 7 1 hc rfl rfl (by decide) wi_X8 (wgm fk_RX8_15) (x := .ref (a + 2)) rfl dX8_isAt__1 ?_
  refine lv_aload_n hx hb dX8_isAt__4 rfl (lv_at hl 0 rfl) ?_
  refine b_get hM hW 7 5 hc rfl rfl (by decide) wi_X8 (wgm fk_RX8_30) (x := .int (gI v 5)) rfl dX8_isAt__5 ?_
  refine lv_topi (fun y1 ey1 => ?_)
  have hf := nm_at ey1 hf
  obtain ⟨h2, hf⟩ := ck_elim hf
  refine b_iald (n := 1001) hM hW 7 1 hc (by decide) rfl rfl rfl rfl h2 dX8_isAt__8 ?_
  refine lv_iconst (v := (2 : Int32)) hx hb dX8_isAt__9 (by decide) ?_
  refine lv_icmp_eq (tgt := 26) hx hb dX8_isAt__10 (by decide) (fun c3 => ?_) (fun c3 => ?_)
  · have hf := if_t c3 hf
    exact t_X8_isAt__26 (fu := fu) hM hml hr hlk hc0 he1 hf _ _ hW _ (lv_sub hl [0, 1] rfl)
  · have hf := if_f c3 hf
    refine lv_aload_n hx hb dX8_isAt__13 rfl (lv_at hl 0 rfl) ?_
    refine b_get hM hW 7 1 hc rfl rfl (by decide) wi_X8 (wgm fk_RX8_15) (x := .ref (a + 2)) rfl dX8_isAt__14 ?_
    refine lv_aload_n hx hb dX8_isAt__17 rfl (lv_at hl 0 rfl) ?_
    refine b_get hM hW 7 5 hc rfl rfl (by decide) wi_X8 (wgm fk_RX8_30) (x := .int (gI v 5)) rfl dX8_isAt__18 ?_
    refine lv_topi (fun y4 ey4 => ?_)
    have hf := nm_at ey4 hf
    obtain ⟨h5, hf⟩ := ck_elim hf
    refine b_iald (n := 1001) hM hW 7 1 hc (by decide) rfl rfl rfl rfl h5 dX8_isAt__21 ?_
    refine lv_iconst (v := (3 : Int32)) hx hb dX8_isAt__22 (by decide) ?_
    refine lv_icmp_ne (tgt := 30) hx hb dX8_isAt__23 (by decide) (fun c6 => ?_) (fun c6 => ?_)
    · have hf := if_f c6 hf
      refine lv_iconst (v := (0 : Int32)) hx hb dX8_isAt__30 (by decide) ?_
      exact t_X8_isAt__31 (fu := fu) hM hml hr hlk hc0 he1 hf _ _ hW _ (lv_sub hl [0, 1] rfl)
    · have hf := if_t c6 hf
      exact t_X8_isAt__26 (fu := fu) hM hml hr hlk hc0 he1 hf _ _ hW _ (lv_sub hl [0, 1] rfl)
noncomputable def f_X8_isAt_ (fu : Nat) (v : GV) (e1 : Nat) : Option (Int32) := f_X8_isAt__0 fu v e1
set_option maxHeartbeats 4000000 in
set_option maxRecDepth 100000 in
theorem c_X8_isAt_ (l : Launch) (G : GG) (fu : Nat) (S : ST) (a : Nat) (v : GV) (e1 : Nat) {z : Int32} (hc : gC v = 8) (he1 : e1 < 30) (hf : f_X8_isAt_ fu v e1 = some z) : Ct l yX8_isAt_ w_X8_isAt_ RM_X8_isAt_ G (st S a v) [.ref a, .ref (kAd G e1)] (some (.int z)) (st S a v) 0 0 := by
  refine Met.ofW (cc := cX8_isAt_) (maxL := 3) (ret := (some .boolean)) (by decide) rfl ?_
  intro p e s m args below meth c s₁ B hml hv
  obtain ⟨rfl, hB, hK, hz⟩ := hv
  have hM : MC G p s m _ c cX8_isAt_ w_X8_isAt_ RX8 := ⟨B.exec, B.bytes, findClass_of_methodNamed B.named, atoms_spec (ws := w_X8_isAt_) B.pre, hK, hz⟩
  have hW : WB G (st S a v) s s.heap [] := ⟨hB, va_S.rf⟩
  have hl := lv_entry ([.ref a, .ref (kAd G e1)]) (n := 3) (Nat.le_of_ble_eq_true rfl)
  rw [lg_entry_eq]
  generalize (lg_sl ([.ref a, .ref (kAd G e1)]) ++ List.replicate (3 - (lg_sl ([.ref a, .ref (kAd G e1)])).length) Slot.unset).toArray = ls at hl ⊢
  have hl : lv_has ls 3 [(0, .ref a), (1, .ref (kAd G e1))] := hl
  exact t_X8_isAt__0 (fu := fu) hM hml B.returns B.notSynchronized hc he1 hf _ _ hW _ (lv_sub hl [0, 1] rfl)
abbrev RM_X8_need_ : Room := { frames := 1, cells := 0, slots := 0, locals := 22 }
abbrev w_X8_need_ : List Cond := Cond.code yX8_need_ cX8_need_ 2 none :: wsL_law0
noncomputable def f_X8_need__0 (fu : Nat)  (v : GV) (e1 : Nat) : Option (GV) :=
  bd (f_X8_isAt_ fu v e1) fun r1 =>
  if r1 = 0 then
    (bd (f_X8_fail fu v (1 : Int32)) fun v4 =>
    some v4)
  else
    (bd (f_X8_step fu v) fun v6 =>
    some v6)
set_option maxHeartbeats 4000000 in
set_option maxRecDepth 100000 in
theorem t_X8_need__0 {G : GG} {p : Program} {l : Launch} {e : Env} {s : State} {m : MethodId} {args : Array Value} {below : List Frame} {meth : Method} {c : Code} {S : ST} {fu : Nat} {z : GV} {a : Nat} {v0 : GV} {e1 : Nat}  {v : GV} (hM : MC G p s m args c cX8_need_ w_X8_need_ RX8) (hml : c.maxLocals = 2) (hr : meth.sig.returnType = none) (hlk : meth.locks = false) (hc0 : gC v0 = 8) (he1 : e1 < 30)  (hf : f_X8_need__0 fu  v e1  = some z) : (gC v = 8) → ∀ (H : Heap) (locs : List Loc), WB G (st S a v) s H locs → ∀ (ls : Array Slot), lv_has ls 2 [(0, .ref a), (1, .ref (kAd G e1))] → W p l e RM_X8_need_ s m args below meth c H locs 0 0 (QR G below args s none (st S a v0) (st S a z)) (F0 m 0 ls []) := by
  intro hc H locs hW ls hl
  have hx := hM.1
  have hb := hM.2.1
  refine lv_aload_n hx hb dX8_need__0 rfl (lv_at hl 0 rfl) ?_
  refine lv_aload_n hx hb dX8_need__1 rfl (lv_at hl 1 rfl) ?_
  obtain ⟨r1, hr1, hf⟩ := bd_elim hf
  refine b_callVi [.ref (kAd G e1)] [] hM hml hl.1 hW hc rfl (by decide) (c_X8_isAt_ l G fu _ a v _ hc he1 hr1) (cwV 1 hM.2.2.2.1 (gV mk_RX8_106 im_X8_isAt_ se_X8_isAt_ it_RX8 cd_X8_isAt_) rfl rfl rfl (by decide +kernel) ⟨Nat.le_of_ble_eq_true rfl, Nat.le_of_ble_eq_true rfl⟩) rfl rfl (Nat.le_of_ble_eq_true rfl) ⟨Nat.zero_le _, Nat.zero_le _⟩ dX8_need__2 (fun H locs hW hk => ?_)
  refine lv_if_eq (tgt := 15) hx hb dX8_need__5 (by decide) (fun c2 => ?_) (fun c2 => ?_)
  · have hf := if_t c2 hf
    refine lv_aload_n hx hb dX8_need__15 rfl (lv_at hl 0 rfl) ?_
    refine lv_iconst (v := (1 : Int32)) hx hb dX8_need__16 (by decide) ?_
    obtain ⟨v4, hr3, hf⟩ := bd_elim hf
    refine b_callVv [.int (1 : Int32)] [] hM hml hl.1 hW hc rfl (by decide) (c_X8_fail l G fu _ a v _ hc hr3) (cwV 1 hM.2.2.2.1 (gV mk_RX8_102 im_X8_fail se_X8_fail it_RX8 cd_X8_fail) rfl rfl rfl (by decide +kernel) ⟨Nat.le_of_ble_eq_true rfl, Nat.le_of_ble_eq_true rfl⟩) rfl rfl (Nat.le_of_ble_eq_true rfl) ⟨Nat.zero_le _, Nat.zero_le _⟩ dX8_need__17 (fun H locs hW hk => ?_)
    have hc := keep_at hc hk
    cases hf
    exact W.vret hx hb hr (b_ret0 hW (keep_s2 hc0 hc) _) hW.2.2.2 dX8_need__20 hlk
  · have hf := if_f c2 hf
    refine lv_aload_n hx hb dX8_need__8 rfl (lv_at hl 0 rfl) ?_
    obtain ⟨v6, hr5, hf⟩ := bd_elim hf
    refine b_callVv [] [] hM hml hl.1 hW hc rfl (by decide) (c_X8_step l G fu _ a v hc hr5) (cwV 0 hM.2.2.2.1 (gV mk_RX8_99 im_X8_step se_X8_step it_RX8 cd_X8_step) rfl rfl rfl (by decide +kernel) ⟨Nat.le_of_ble_eq_true rfl, Nat.le_of_ble_eq_true rfl⟩) rfl rfl (Nat.le_of_ble_eq_true rfl) ⟨Nat.zero_le _, Nat.zero_le _⟩ dX8_need__9 (fun H locs hW hk => ?_)
    have hc := keep_at hc hk
    refine lv_goto (tgt := 20) hx hb dX8_need__12 (by decide) ?_
    cases hf
    exact W.vret hx hb hr (b_ret0 hW (keep_s2 hc0 hc) _) hW.2.2.2 dX8_need__20 hlk
noncomputable def f_X8_need_ (fu : Nat) (v : GV) (e1 : Nat) : Option (GV) := f_X8_need__0 fu v e1
set_option maxHeartbeats 4000000 in
set_option maxRecDepth 100000 in
theorem c_X8_need_ (l : Launch) (G : GG) (fu : Nat) (S : ST) (a : Nat) (v : GV) (e1 : Nat) {z : GV} (hc : gC v = 8) (he1 : e1 < 30) (hf : f_X8_need_ fu v e1 = some z) : Ct l yX8_need_ w_X8_need_ RM_X8_need_ G (st S a v) [.ref a, .ref (kAd G e1)] none (st S a z) 0 0 := by
  refine Met.ofW (cc := cX8_need_) (maxL := 2) (ret := none) (by decide) rfl ?_
  intro p e s m args below meth c s₁ B hml hv
  obtain ⟨rfl, hB, hK, hz⟩ := hv
  have hM : MC G p s m _ c cX8_need_ w_X8_need_ RX8 := ⟨B.exec, B.bytes, findClass_of_methodNamed B.named, atoms_spec (ws := w_X8_need_) B.pre, hK, hz⟩
  have hW : WB G (st S a v) s s.heap [] := ⟨hB, va_S.rf⟩
  have hl := lv_entry ([.ref a, .ref (kAd G e1)]) (n := 2) (Nat.le_of_ble_eq_true rfl)
  rw [lg_entry_eq]
  generalize (lg_sl ([.ref a, .ref (kAd G e1)]) ++ List.replicate (2 - (lg_sl ([.ref a, .ref (kAd G e1)])).length) Slot.unset).toArray = ls at hl ⊢
  have hl : lv_has ls 2 [(0, .ref a), (1, .ref (kAd G e1))] := hl
  exact t_X8_need__0 (fu := fu) hM hml B.returns B.notSynchronized hc he1 hf hc _ _ hW _ (lv_sub hl [0, 1] rfl)
abbrev RM_X8_number : Room := { frames := 0, cells := 0, slots := 0, locals := 0 }
abbrev w_X8_number : List Cond := Cond.code yX8_number cX8_number 1 (some .int) :: wsL_law0
noncomputable def f_X8_number_0 (fu : Nat)  (v : GV) : Option (Int32) :=
  nm ((gI v 5)) fun y1 =>
  ck (inb y1 1001) <|
  some (((gL v 3 y1.toNatClampNeg)).toInt32)
set_option maxHeartbeats 4000000 in
set_option maxRecDepth 100000 in
theorem t_X8_number_0 {G : GG} {p : Program} {l : Launch} {e : Env} {s : State} {m : MethodId} {args : Array Value} {below : List Frame} {meth : Method} {c : Code} {S : ST} {fu : Nat} {z : Int32} {a : Nat} {v : GV}  (hM : MC G p s m args c cX8_number w_X8_number RX8) (hml : c.maxLocals = 1) (hr : meth.sig.returnType = (some .int)) (hlk : meth.locks = false) (hc0 : gC v = 8)  (hf : f_X8_number_0 fu  v   = some z) : ∀ (H : Heap) (locs : List Loc), WB G (st S a v) s H locs → ∀ (ls : Array Slot), lv_has ls 1 [(0, .ref a)] → W p l e RM_X8_number s m args below meth c H locs 0 0 (QR G below args s (some (.int z)) (st S a v) (st S a v)) (F0 m 0 ls []) := by
  intro  H locs hW ls hl
  have hx := hM.1
  have hb := hM.2.1
  have hc := hc0
  refine lv_aload_n hx hb dX8_number_0 rfl (lv_at hl 0 rfl) ?_
  refine b_get hM hW 7 3 hc rfl rfl (by decide) wi_X8 (wgm fk_RX8_22) (x := .ref (a + 4)) rfl dX8_number_1 ?_
  refine lv_aload_n hx hb dX8_number_4 rfl (lv_at hl 0 rfl) ?_
  refine b_get hM hW 7 5 hc rfl rfl (by decide) wi_X8 (wgm fk_RX8_30) (x := .int (gI v 5)) rfl dX8_number_5 ?_
  refine lv_topi (fun y1 ey1 => ?_)
  have hf := nm_at ey1 hf
  obtain ⟨h2, hf⟩ := ck_elim hf
  refine b_lald (n := 1001) hM hW 7 3 hc (by decide) rfl rfl rfl rfl h2 dX8_number_8 ?_
  refine lv_l2i hx hb dX8_number_9 rfl ?_
  cases hf
  exact W.iret hx hb hr (b_ret0 hW (fun _ _ => rfl) _) hW.2.2.2 dX8_number_10 hlk
noncomputable def f_X8_number (fu : Nat) (v : GV) : Option (Int32) := f_X8_number_0 fu v
set_option maxHeartbeats 4000000 in
set_option maxRecDepth 100000 in
theorem c_X8_number (l : Launch) (G : GG) (fu : Nat) (S : ST) (a : Nat) (v : GV) {z : Int32} (hc : gC v = 8) (hf : f_X8_number fu v = some z) : Ct l yX8_number w_X8_number RM_X8_number G (st S a v) [.ref a] (some (.int z)) (st S a v) 0 0 := by
  refine Met.ofW (cc := cX8_number) (maxL := 1) (ret := (some .int)) (by decide) rfl ?_
  intro p e s m args below meth c s₁ B hml hv
  obtain ⟨rfl, hB, hK, hz⟩ := hv
  have hM : MC G p s m _ c cX8_number w_X8_number RX8 := ⟨B.exec, B.bytes, findClass_of_methodNamed B.named, atoms_spec (ws := w_X8_number) B.pre, hK, hz⟩
  have hW : WB G (st S a v) s s.heap [] := ⟨hB, va_S.rf⟩
  have hl := lv_entry ([.ref a]) (n := 1) (Nat.le_of_ble_eq_true rfl)
  rw [lg_entry_eq]
  generalize (lg_sl ([.ref a]) ++ List.replicate (1 - (lg_sl ([.ref a])).length) Slot.unset).toArray = ls at hl ⊢
  have hl : lv_has ls 1 [(0, .ref a)] := hl
  exact t_X8_number_0 (fu := fu) hM hml B.returns B.notSynchronized hc hf _ _ hW _ (lv_sub hl [0] rfl)
abbrev RM_X8_isNumber : Room := { frames := 0, cells := 0, slots := 0, locals := 0 }
abbrev w_X8_isNumber : List Cond := Cond.code yX8_isNumber cX8_isNumber 1 (some .boolean) :: wsL_law0
noncomputable def f_X8_isNumber_24 (fu : Nat)  (v : GV) : Option (Int32) :=
  some ((0 : Int32))
set_option maxHeartbeats 4000000 in
set_option maxRecDepth 100000 in
theorem t_X8_isNumber_24 {G : GG} {p : Program} {l : Launch} {e : Env} {s : State} {m : MethodId} {args : Array Value} {below : List Frame} {meth : Method} {c : Code} {S : ST} {fu : Nat} {z : Int32} {a : Nat} {v : GV}  (hM : MC G p s m args c cX8_isNumber w_X8_isNumber RX8) (hml : c.maxLocals = 1) (hr : meth.sig.returnType = (some .boolean)) (hlk : meth.locks = false) (hc0 : gC v = 8)  (hf : f_X8_isNumber_24 fu  v   = some z) : ∀ (H : Heap) (locs : List Loc), WB G (st S a v) s H locs → ∀ (ls : Array Slot), lv_has ls 1 [] → W p l e RM_X8_isNumber s m args below meth c H locs 0 0 (QR G below args s (some (.int z)) (st S a v) (st S a v)) (F0 m 24 ls []) := by
  intro  H locs hW ls hl
  have hx := hM.1
  have hb := hM.2.1
  have hc := hc0
  refine lv_iconst (v := (0 : Int32)) hx hb dX8_isNumber_24 (by decide) ?_
  cases hf
  exact W.zret (v := (0 : Int32)) hx hb hr (by decide) (b_ret0 hW (fun _ _ => rfl) _) hW.2.2.2 dX8_isNumber_25 hlk
noncomputable def f_X8_isNumber_0 (fu : Nat)  (v : GV) : Option (Int32) :=
  if (gI v 7) = 0 then
    (nm ((gI v 5)) fun y2 =>
    ck (inb y2 1001) <|
    if (gA v 1 y2.toNatClampNeg) = (4 : Int32) then
      (some ((1 : Int32)))
    else
      (f_X8_isNumber_24 fu v))
  else
    (f_X8_isNumber_24 fu v)
set_option maxHeartbeats 4000000 in
set_option maxRecDepth 100000 in
theorem t_X8_isNumber_0 {G : GG} {p : Program} {l : Launch} {e : Env} {s : State} {m : MethodId} {args : Array Value} {below : List Frame} {meth : Method} {c : Code} {S : ST} {fu : Nat} {z : Int32} {a : Nat} {v : GV}  (hM : MC G p s m args c cX8_isNumber w_X8_isNumber RX8) (hml : c.maxLocals = 1) (hr : meth.sig.returnType = (some .boolean)) (hlk : meth.locks = false) (hc0 : gC v = 8)  (hf : f_X8_isNumber_0 fu  v   = some z) : ∀ (H : Heap) (locs : List Loc), WB G (st S a v) s H locs → ∀ (ls : Array Slot), lv_has ls 1 [(0, .ref a)] → W p l e RM_X8_isNumber s m args below meth c H locs 0 0 (QR G below args s (some (.int z)) (st S a v) (st S a v)) (F0 m 0 ls []) := by
  intro  H locs hW ls hl
  have hx := hM.1
  have hb := hM.2.1
  have hc := hc0
  refine lv_aload_n hx hb dX8_isNumber_0 rfl (lv_at hl 0 rfl) ?_
  refine b_get hM hW 7 7 hc rfl rfl (by decide) wi_X8 (wgm fk_RX8_36) (x := .int (gI v 7)) rfl dX8_isNumber_1 ?_
  refine lv_if_ne (tgt := 24) hx hb dX8_isNumber_4 (by decide) (fun c1 => ?_) (fun c1 => ?_)
  · have hf := if_f c1 hf
    exact t_X8_isNumber_24 (fu := fu) hM hml hr hlk hc0 hf _ _ hW _ (lv_sub hl [] rfl)
  · have hf := if_t c1 hf
    refine lv_aload_n hx hb dX8_isNumber_7 rfl (lv_at hl 0 rfl) ?_
    refine b_get hM hW 7 1 hc rfl rfl (by decide) wi_X8 (wgm fk_RX8_15) (x := .ref (a + 2)) rfl dX8_isNumber_8 ?_
    refine lv_aload_n hx hb dX8_isNumber_11 rfl (lv_at hl 0 rfl) ?_
    refine b_get hM hW 7 5 hc rfl rfl (by decide) wi_X8 (wgm fk_RX8_30) (x := .int (gI v 5)) rfl dX8_isNumber_12 ?_
    refine lv_topi (fun y2 ey2 => ?_)
    have hf := nm_at ey2 hf
    obtain ⟨h3, hf⟩ := ck_elim hf
    refine b_iald (n := 1001) hM hW 7 1 hc (by decide) rfl rfl rfl rfl h3 dX8_isNumber_15 ?_
    refine lv_iconst (v := (4 : Int32)) hx hb dX8_isNumber_16 (by decide) ?_
    refine lv_icmp_ne (tgt := 24) hx hb dX8_isNumber_17 (by decide) (fun c4 => ?_) (fun c4 => ?_)
    · have hf := if_f c4 hf
      exact t_X8_isNumber_24 (fu := fu) hM hml hr hlk hc0 hf _ _ hW _ (lv_sub hl [] rfl)
    · have hf := if_t c4 hf
      refine lv_iconst (v := (1 : Int32)) hx hb dX8_isNumber_20 (by decide) ?_
      refine lv_goto (tgt := 25) hx hb dX8_isNumber_21 (by decide) ?_
      cases hf
      exact W.zret (v := (1 : Int32)) hx hb hr (by decide) (b_ret0 hW (fun _ _ => rfl) _) hW.2.2.2 dX8_isNumber_25 hlk
noncomputable def f_X8_isNumber (fu : Nat) (v : GV) : Option (Int32) := f_X8_isNumber_0 fu v
set_option maxHeartbeats 4000000 in
set_option maxRecDepth 100000 in
theorem c_X8_isNumber (l : Launch) (G : GG) (fu : Nat) (S : ST) (a : Nat) (v : GV) {z : Int32} (hc : gC v = 8) (hf : f_X8_isNumber fu v = some z) : Ct l yX8_isNumber w_X8_isNumber RM_X8_isNumber G (st S a v) [.ref a] (some (.int z)) (st S a v) 0 0 := by
  refine Met.ofW (cc := cX8_isNumber) (maxL := 1) (ret := (some .boolean)) (by decide) rfl ?_
  intro p e s m args below meth c s₁ B hml hv
  obtain ⟨rfl, hB, hK, hz⟩ := hv
  have hM : MC G p s m _ c cX8_isNumber w_X8_isNumber RX8 := ⟨B.exec, B.bytes, findClass_of_methodNamed B.named, atoms_spec (ws := w_X8_isNumber) B.pre, hK, hz⟩
  have hW : WB G (st S a v) s s.heap [] := ⟨hB, va_S.rf⟩
  have hl := lv_entry ([.ref a]) (n := 1) (Nat.le_of_ble_eq_true rfl)
  rw [lg_entry_eq]
  generalize (lg_sl ([.ref a]) ++ List.replicate (1 - (lg_sl ([.ref a])).length) Slot.unset).toArray = ls at hl ⊢
  have hl : lv_has ls 1 [(0, .ref a)] := hl
  exact t_X8_isNumber_0 (fu := fu) hM hml B.returns B.notSynchronized hc hf _ _ hW _ (lv_sub hl [0] rfl)
abbrev RM_X8_takeNumberBelow : Room := { frames := 2, cells := 0, slots := 0, locals := 43 }
abbrev w_X8_takeNumberBelow : List Cond := Cond.code yX8_takeNumberBelow cX8_takeNumberBelow 3 (some .int) :: wsL_law0
noncomputable def f_X8_takeNumberBelow_35 (fu : Nat)  (v : GV) (x2 : Int32) : Option (Int32 × GV) :=
  some (x2, v)
set_option maxHeartbeats 4000000 in
set_option maxRecDepth 100000 in
theorem t_X8_takeNumberBelow_35 {G : GG} {p : Program} {l : Launch} {e : Env} {s : State} {m : MethodId} {args : Array Value} {below : List Frame} {meth : Method} {c : Code} {S : ST} {fu : Nat} {z : Int32 × GV} {a : Nat} {v0 : GV}  {v : GV} {x2 : Int32} (hM : MC G p s m args c cX8_takeNumberBelow w_X8_takeNumberBelow RX8) (hml : c.maxLocals = 3) (hr : meth.sig.returnType = (some .int)) (hlk : meth.locks = false) (hc0 : gC v0 = 8)  (hf : f_X8_takeNumberBelow_35 fu  v  x2 = some z) : (gC v = 8) → ∀ (H : Heap) (locs : List Loc), WB G (st S a v) s H locs → ∀ (ls : Array Slot), lv_has ls 3 [(2, .int x2)] → W p l e RM_X8_takeNumberBelow s m args below meth c H locs 0 0 (QR G below args s (some (.int z.1)) (st S a v0) (st S a z.2)) (F0 m 35 ls []) := by
  intro hc H locs hW ls hl
  have hx := hM.1
  have hb := hM.2.1
  refine lv_iload_n hx hb dX8_takeNumberBelow_35 rfl (lv_at hl 0 rfl) ?_
  cases hf
  exact W.iret hx hb hr (b_ret0 hW (keep_s2 hc0 hc) _) hW.2.2.2 dX8_takeNumberBelow_36 hlk
noncomputable def f_X8_takeNumberBelow_23 (fu : Nat)  (v : GV) (x2 : Int32) (t1 : Int32) : Option (Int32 × GV) :=
  bd (f_X8_stepOrFail fu v t1 (4 : Int32)) fun v2 =>
  f_X8_takeNumberBelow_35 fu v2 x2
set_option maxHeartbeats 4000000 in
set_option maxRecDepth 100000 in
theorem t_X8_takeNumberBelow_23 {G : GG} {p : Program} {l : Launch} {e : Env} {s : State} {m : MethodId} {args : Array Value} {below : List Frame} {meth : Method} {c : Code} {S : ST} {fu : Nat} {z : Int32 × GV} {a : Nat} {v0 : GV}  {v : GV} {x2 : Int32} {t1 : Int32} (hM : MC G p s m args c cX8_takeNumberBelow w_X8_takeNumberBelow RX8) (hml : c.maxLocals = 3) (hr : meth.sig.returnType = (some .int)) (hlk : meth.locks = false) (hc0 : gC v0 = 8)  (hf : f_X8_takeNumberBelow_23 fu  v  x2 t1 = some z) : (gC v = 8) → ∀ (H : Heap) (locs : List Loc), WB G (st S a v) s H locs → ∀ (ls : Array Slot), lv_has ls 3 [(2, .int x2)] → W p l e RM_X8_takeNumberBelow s m args below meth c H locs 0 0 (QR G below args s (some (.int z.1)) (st S a v0) (st S a z.2)) (F0 m 23 ls [.int t1, .ref a]) := by
  intro hc H locs hW ls hl
  have hx := hM.1
  have hb := hM.2.1
  refine lv_iconst (v := (4 : Int32)) hx hb dX8_takeNumberBelow_23 (by decide) ?_
  obtain ⟨v2, hr1, hf⟩ := bd_elim hf
  refine b_callVv [.int t1, .int (4 : Int32)] [] hM hml hl.1 hW hc rfl (by decide) (c_X8_stepOrFail l G fu _ a v _ _ hc hr1) (cwV 2 hM.2.2.2.1 (gV mk_RX8_117 im_X8_stepOrFail se_X8_stepOrFail it_RX8 cd_X8_stepOrFail) rfl rfl rfl (by decide +kernel) ⟨Nat.le_of_ble_eq_true rfl, Nat.le_of_ble_eq_true rfl⟩) rfl rfl (Nat.le_of_ble_eq_true rfl) ⟨Nat.zero_le _, Nat.zero_le _⟩ dX8_takeNumberBelow_24 (fun H locs hW hk => ?_)
  have hc := keep_at hc hk
  refine lv_goto (tgt := 35) hx hb dX8_takeNumberBelow_27 (by decide) ?_
  exact t_X8_takeNumberBelow_35 (fu := fu) hM hml hr hlk hc0 hf hc _ _ hW _ (lv_sub hl [0] rfl)
noncomputable def f_X8_takeNumberBelow_0 (fu : Nat)  (v : GV) (x1 : Int32) : Option (Int32 × GV) :=
  bd (f_X8_number fu v) fun r1 =>
  bd (f_X8_isNumber fu v) fun r2 =>
  if r2 = 0 then
    (bd (f_X8_fail fu v (1 : Int32)) fun v5 =>
    f_X8_takeNumberBelow_35 fu v5 r1)
  else
    (if x1 ≤ r1 then
      (f_X8_takeNumberBelow_23 fu v r1 (0 : Int32))
    else
      (f_X8_takeNumberBelow_23 fu v r1 (1 : Int32)))
set_option maxHeartbeats 4000000 in
set_option maxRecDepth 100000 in
theorem t_X8_takeNumberBelow_0 {G : GG} {p : Program} {l : Launch} {e : Env} {s : State} {m : MethodId} {args : Array Value} {below : List Frame} {meth : Method} {c : Code} {S : ST} {fu : Nat} {z : Int32 × GV} {a : Nat} {v0 : GV}  {v : GV} {x1 : Int32} (hM : MC G p s m args c cX8_takeNumberBelow w_X8_takeNumberBelow RX8) (hml : c.maxLocals = 3) (hr : meth.sig.returnType = (some .int)) (hlk : meth.locks = false) (hc0 : gC v0 = 8)  (hf : f_X8_takeNumberBelow_0 fu  v  x1 = some z) : (gC v = 8) → ∀ (H : Heap) (locs : List Loc), WB G (st S a v) s H locs → ∀ (ls : Array Slot), lv_has ls 3 [(0, .ref a), (1, .int x1)] → W p l e RM_X8_takeNumberBelow s m args below meth c H locs 0 0 (QR G below args s (some (.int z.1)) (st S a v0) (st S a z.2)) (F0 m 0 ls []) := by
  intro hc H locs hW ls hl
  have hx := hM.1
  have hb := hM.2.1
  refine lv_aload_n hx hb dX8_takeNumberBelow_0 rfl (lv_at hl 0 rfl) ?_
  obtain ⟨r1, hr1, hf⟩ := bd_elim hf
  refine b_callVi [] [] hM hml hl.1 hW hc rfl (by decide) (c_X8_number l G fu _ a v hc hr1) (cwV 0 hM.2.2.2.1 (gV mk_RX8_109 im_X8_number se_X8_number it_RX8 cd_X8_number) rfl rfl rfl (by decide +kernel) ⟨Nat.le_of_ble_eq_true rfl, Nat.le_of_ble_eq_true rfl⟩) rfl rfl (Nat.le_of_ble_eq_true rfl) ⟨Nat.zero_le _, Nat.zero_le _⟩ dX8_takeNumberBelow_1 (fun H locs hW hk => ?_)
  refine lv_istore_n (lv' := [(2, .int r1), (0, .ref a), (1, .int x1)]) hx hb dX8_takeNumberBelow_4 rfl hl (by decide) rfl (fun ls hl => ?_)
  refine lv_aload_n hx hb dX8_takeNumberBelow_5 rfl (lv_at hl 1 rfl) ?_
  obtain ⟨r2, hr2, hf⟩ := bd_elim hf
  refine b_callVi [] [] hM hml hl.1 hW hc rfl (by decide) (c_X8_isNumber l G fu _ a v hc hr2) (cwV 0 hM.2.2.2.1 (gV mk_RX8_113 im_X8_isNumber se_X8_isNumber it_RX8 cd_X8_isNumber) rfl rfl rfl (by decide +kernel) ⟨Nat.le_of_ble_eq_true rfl, Nat.le_of_ble_eq_true rfl⟩) rfl rfl (Nat.le_of_ble_eq_true rfl) ⟨Nat.zero_le _, Nat.zero_le _⟩ dX8_takeNumberBelow_6 (fun H locs hW hk => ?_)
  refine lv_if_eq (tgt := 30) hx hb dX8_takeNumberBelow_9 (by decide) (fun c3 => ?_) (fun c3 => ?_)
  · have hf := if_t c3 hf
    refine lv_aload_n hx hb dX8_takeNumberBelow_30 rfl (lv_at hl 1 rfl) ?_
    refine lv_iconst (v := (1 : Int32)) hx hb dX8_takeNumberBelow_31 (by decide) ?_
    obtain ⟨v5, hr4, hf⟩ := bd_elim hf
    refine b_callVv [.int (1 : Int32)] [] hM hml hl.1 hW hc rfl (by decide) (c_X8_fail l G fu _ a v _ hc hr4) (cwV 1 hM.2.2.2.1 (gV mk_RX8_102 im_X8_fail se_X8_fail it_RX8 cd_X8_fail) rfl rfl rfl (by decide +kernel) ⟨Nat.le_of_ble_eq_true rfl, Nat.le_of_ble_eq_true rfl⟩) rfl rfl (Nat.le_of_ble_eq_true rfl) ⟨Nat.zero_le _, Nat.zero_le _⟩ dX8_takeNumberBelow_32 (fun H locs hW hk => ?_)
    have hc := keep_at hc hk
    exact t_X8_takeNumberBelow_35 (fu := fu) hM hml hr hlk hc0 hf hc _ _ hW _ (lv_sub hl [0] rfl)
  · have hf := if_f c3 hf
    refine lv_aload_n hx hb dX8_takeNumberBelow_12 rfl (lv_at hl 1 rfl) ?_
    refine lv_iload_n hx hb dX8_takeNumberBelow_13 rfl (lv_at hl 0 rfl) ?_
    refine lv_iload_n hx hb dX8_takeNumberBelow_14 rfl (lv_at hl 2 rfl) ?_
    refine lv_icmp_ge (tgt := 22) hx hb dX8_takeNumberBelow_15 (by decide) (fun c6 => ?_) (fun c6 => ?_)
    · have hf := if_t c6 hf
      refine lv_iconst (v := (0 : Int32)) hx hb dX8_takeNumberBelow_22 (by decide) ?_
      exact t_X8_takeNumberBelow_23 (fu := fu) hM hml hr hlk hc0 hf hc _ _ hW _ (lv_sub hl [0] rfl)
    · have hf := if_f c6 hf
      refine lv_iconst (v := (1 : Int32)) hx hb dX8_takeNumberBelow_18 (by decide) ?_
      refine lv_goto (tgt := 23) hx hb dX8_takeNumberBelow_19 (by decide) ?_
      exact t_X8_takeNumberBelow_23 (fu := fu) hM hml hr hlk hc0 hf hc _ _ hW _ (lv_sub hl [0] rfl)
noncomputable def f_X8_takeNumberBelow (fu : Nat) (v : GV) (x1 : Int32) : Option (Int32 × GV) := f_X8_takeNumberBelow_0 fu v x1
set_option maxHeartbeats 4000000 in
set_option maxRecDepth 100000 in
theorem c_X8_takeNumberBelow (l : Launch) (G : GG) (fu : Nat) (S : ST) (a : Nat) (v : GV) (x1 : Int32) {z : Int32} {w : GV} (hc : gC v = 8) (hf : f_X8_takeNumberBelow fu v x1 = some (z, w)) : Ct l yX8_takeNumberBelow w_X8_takeNumberBelow RM_X8_takeNumberBelow G (st S a v) [.ref a, .int x1] (some (.int z)) (st S a w) 0 0 := by
  refine Met.ofW (cc := cX8_takeNumberBelow) (maxL := 3) (ret := (some .int)) (by decide) rfl ?_
  intro p e s m args below meth c s₁ B hml hv
  obtain ⟨rfl, hB, hK, hz⟩ := hv
  have hM : MC G p s m _ c cX8_takeNumberBelow w_X8_takeNumberBelow RX8 := ⟨B.exec, B.bytes, findClass_of_methodNamed B.named, atoms_spec (ws := w_X8_takeNumberBelow) B.pre, hK, hz⟩
  have hW : WB G (st S a v) s s.heap [] := ⟨hB, va_S.rf⟩
  have hl := lv_entry ([.ref a, .int x1]) (n := 3) (Nat.le_of_ble_eq_true rfl)
  rw [lg_entry_eq]
  generalize (lg_sl ([.ref a, .int x1]) ++ List.replicate (3 - (lg_sl ([.ref a, .int x1])).length) Slot.unset).toArray = ls at hl ⊢
  have hl : lv_has ls 3 [(0, .ref a), (1, .int x1)] := hl
  exact t_X8_takeNumberBelow_0 (fu := fu) hM hml B.returns B.notSynchronized hc hf hc _ _ hW _ (lv_sub hl [0, 1] rfl)
abbrev RM_J6_bitCount_0f7a4 : Room := { frames := 0, cells := 0, slots := 0, locals := 0 }
abbrev w_J6_bitCount_0f7a4 : List Cond := Cond.code yJ6_bitCount_0f7a4 cJ6_bitCount_0f7a4 1 (some .int) :: wsL_law0
noncomputable def f_J6_bitCount_0f7a4_0 (fu : Nat)  (x0 : Int32) : Option (Int32) :=
  nm ((x0 - ((x0.toUInt32 >>> ((1 : Int32).toUInt32 &&& Int32.toUInt32 31)).toInt32 &&& (1431655765 : Int32)))) fun y1 =>
  nm (((y1 &&& (858993459 : Int32)) + ((y1.toUInt32 >>> ((2 : Int32).toUInt32 &&& Int32.toUInt32 31)).toInt32 &&& (858993459 : Int32)))) fun y2 =>
  nm (((y2 + (y2.toUInt32 >>> ((4 : Int32).toUInt32 &&& Int32.toUInt32 31)).toInt32) &&& (252645135 : Int32))) fun y3 =>
  nm ((y3 + (y3.toUInt32 >>> ((8 : Int32).toUInt32 &&& Int32.toUInt32 31)).toInt32)) fun y4 =>
  nm ((y4 + (y4.toUInt32 >>> ((16 : Int32).toUInt32 &&& Int32.toUInt32 31)).toInt32)) fun y5 =>
  some ((y5 &&& (63 : Int32)))
set_option maxHeartbeats 4000000 in
set_option maxRecDepth 100000 in
theorem t_J6_bitCount_0f7a4_0 {G : GG} {p : Program} {l : Launch} {e : Env} {s : State} {m : MethodId} {args : Array Value} {below : List Frame} {meth : Method} {c : Code} {S : ST} {fu : Nat} {z : Int32}  {x0 : Int32} (hM : MC G p s m args c cJ6_bitCount_0f7a4 w_J6_bitCount_0f7a4 RJ6) (hml : c.maxLocals = 1) (hr : meth.sig.returnType = (some .int)) (hlk : meth.locks = false)   (hf : f_J6_bitCount_0f7a4_0 fu    x0 = some z) : ∀ (H : Heap) (locs : List Loc), WB G S s H locs → ∀ (ls : Array Slot), lv_has ls 1 [(0, .int x0)] → W p l e RM_J6_bitCount_0f7a4 s m args below meth c H locs 0 0 (QR G below args s (some (.int z)) S S) (F0 m 0 ls []) := by
  intro  H locs hW ls hl
  have hx := hM.1
  have hb := hM.2.1
  refine lv_iload_n hx hb dJ6_bitCount_0f7a4_0 rfl (lv_at hl 0 rfl) ?_
  refine lv_iload_n hx hb dJ6_bitCount_0f7a4_1 rfl (lv_at hl 0 rfl) ?_
  refine lv_iconst (v := (1 : Int32)) hx hb dJ6_bitCount_0f7a4_2 (by decide) ?_
  refine lv_iushr hx hb dJ6_bitCount_0f7a4_3 rfl ?_
  refine lv_ldcw (v := (1431655765 : Int32)) hx hb hM.2.2.1 (hM.2.2.2.1 _ (wgm ki_RJ6_265)) dJ6_bitCount_0f7a4_4 ?_
  refine lv_iand hx hb dJ6_bitCount_0f7a4_7 ?_
  refine lv_isub hx hb dJ6_bitCount_0f7a4_8 ?_
  refine lv_topi (fun y1 ey1 => ?_)
  have hf := nm_at ey1 hf
  refine lv_istore_n (lv' := [(0, .int y1)]) hx hb dJ6_bitCount_0f7a4_9 rfl hl (by decide) rfl (fun ls hl => ?_)
  refine lv_iload_n hx hb dJ6_bitCount_0f7a4_10 rfl (lv_at hl 0 rfl) ?_
  refine lv_ldcw (v := (858993459 : Int32)) hx hb hM.2.2.1 (hM.2.2.2.1 _ (wgm ki_RJ6_266)) dJ6_bitCount_0f7a4_11 ?_
  refine lv_iand hx hb dJ6_bitCount_0f7a4_14 ?_
  refine lv_iload_n hx hb dJ6_bitCount_0f7a4_15 rfl (lv_at hl 0 rfl) ?_
  refine lv_iconst (v := (2 : Int32)) hx hb dJ6_bitCount_0f7a4_16 (by decide) ?_
  refine lv_iushr hx hb dJ6_bitCount_0f7a4_17 rfl ?_
  refine lv_ldcw (v := (858993459 : Int32)) hx hb hM.2.2.1 (hM.2.2.2.1 _ (wgm ki_RJ6_266)) dJ6_bitCount_0f7a4_18 ?_
  refine lv_iand hx hb dJ6_bitCount_0f7a4_21 ?_
  refine lv_iadd hx hb dJ6_bitCount_0f7a4_22 ?_
  refine lv_topi (fun y2 ey2 => ?_)
  have hf := nm_at ey2 hf
  refine lv_istore_n (lv' := [(0, .int y2)]) hx hb dJ6_bitCount_0f7a4_23 rfl hl (by decide) rfl (fun ls hl => ?_)
  refine lv_iload_n hx hb dJ6_bitCount_0f7a4_24 rfl (lv_at hl 0 rfl) ?_
  refine lv_iload_n hx hb dJ6_bitCount_0f7a4_25 rfl (lv_at hl 0 rfl) ?_
  refine lv_iconst (v := (4 : Int32)) hx hb dJ6_bitCount_0f7a4_26 (by decide) ?_
  refine lv_iushr hx hb dJ6_bitCount_0f7a4_27 rfl ?_
  refine lv_iadd hx hb dJ6_bitCount_0f7a4_28 ?_
  refine lv_ldcw (v := (252645135 : Int32)) hx hb hM.2.2.1 (hM.2.2.2.1 _ (wgm ki_RJ6_267)) dJ6_bitCount_0f7a4_29 ?_
  refine lv_iand hx hb dJ6_bitCount_0f7a4_32 ?_
  refine lv_topi (fun y3 ey3 => ?_)
  have hf := nm_at ey3 hf
  refine lv_istore_n (lv' := [(0, .int y3)]) hx hb dJ6_bitCount_0f7a4_33 rfl hl (by decide) rfl (fun ls hl => ?_)
  refine lv_iload_n hx hb dJ6_bitCount_0f7a4_34 rfl (lv_at hl 0 rfl) ?_
  refine lv_iload_n hx hb dJ6_bitCount_0f7a4_35 rfl (lv_at hl 0 rfl) ?_
  refine lv_bipush (v := (8 : Int32)) hx hb dJ6_bitCount_0f7a4_36 (by decide) ?_
  refine lv_iushr hx hb dJ6_bitCount_0f7a4_38 rfl ?_
  refine lv_iadd hx hb dJ6_bitCount_0f7a4_39 ?_
  refine lv_topi (fun y4 ey4 => ?_)
  have hf := nm_at ey4 hf
  refine lv_istore_n (lv' := [(0, .int y4)]) hx hb dJ6_bitCount_0f7a4_40 rfl hl (by decide) rfl (fun ls hl => ?_)
  refine lv_iload_n hx hb dJ6_bitCount_0f7a4_41 rfl (lv_at hl 0 rfl) ?_
  refine lv_iload_n hx hb dJ6_bitCount_0f7a4_42 rfl (lv_at hl 0 rfl) ?_
  refine lv_bipush (v := (16 : Int32)) hx hb dJ6_bitCount_0f7a4_43 (by decide) ?_
  refine lv_iushr hx hb dJ6_bitCount_0f7a4_45 rfl ?_
  refine lv_iadd hx hb dJ6_bitCount_0f7a4_46 ?_
  refine lv_topi (fun y5 ey5 => ?_)
  have hf := nm_at ey5 hf
  refine lv_istore_n (lv' := [(0, .int y5)]) hx hb dJ6_bitCount_0f7a4_47 rfl hl (by decide) rfl (fun ls hl => ?_)
  refine lv_iload_n hx hb dJ6_bitCount_0f7a4_48 rfl (lv_at hl 0 rfl) ?_
  refine lv_bipush (v := (63 : Int32)) hx hb dJ6_bitCount_0f7a4_49 (by decide) ?_
  refine lv_iand hx hb dJ6_bitCount_0f7a4_51 ?_
  cases hf
  exact W.iret hx hb hr (b_ret0 hW (fun _ _ => rfl) _) hW.2.2.2 dJ6_bitCount_0f7a4_52 hlk
noncomputable def f_J6_bitCount_0f7a4 (fu : Nat) (x0 : Int32) : Option (Int32) := f_J6_bitCount_0f7a4_0 fu x0
set_option maxHeartbeats 4000000 in
set_option maxRecDepth 100000 in
theorem c_J6_bitCount_0f7a4 (l : Launch) (G : GG) (fu : Nat) (S : ST) (x0 : Int32) {z : Int32} (hf : f_J6_bitCount_0f7a4 fu x0 = some z) : Ct l yJ6_bitCount_0f7a4 w_J6_bitCount_0f7a4 RM_J6_bitCount_0f7a4 G S [.int x0] (some (.int z)) S 0 0 := by
  refine Met.ofW (cc := cJ6_bitCount_0f7a4) (maxL := 1) (ret := (some .int)) (by decide) rfl ?_
  intro p e s m args below meth c s₁ B hml hv
  obtain ⟨rfl, hB, hK, hz⟩ := hv
  have hM : MC G p s m _ c cJ6_bitCount_0f7a4 w_J6_bitCount_0f7a4 RJ6 := ⟨B.exec, B.bytes, findClass_of_methodNamed B.named, atoms_spec (ws := w_J6_bitCount_0f7a4) B.pre, hK, hz⟩
  have hW : WB G S s s.heap [] := ⟨hB, va_S.rf⟩
  have hl := lv_entry ([.int x0]) (n := 1) (Nat.le_of_ble_eq_true rfl)
  rw [lg_entry_eq]
  generalize (lg_sl ([.int x0]) ++ List.replicate (1 - (lg_sl ([.int x0])).length) Slot.unset).toArray = ls at hl ⊢
  have hl : lv_has ls 1 [(0, .int x0)] := hl
  exact t_J6_bitCount_0f7a4_0 (fu := fu) hM hml B.returns B.notSynchronized hf _ _ hW _ (lv_sub hl [0] rfl)
abbrev RM_X2_takeOnce : Room := { frames := 2, cells := 0, slots := 0, locals := 43 }
abbrev w_X2_takeOnce : List Cond := Cond.code yX2_takeOnce cX2_takeOnce 4 none :: wsL_law0
noncomputable def f_X2_takeOnce_34 (fu : Nat)  (S : ST) (a : Nat) (t0 : Nat) (t1 : Int32) : Option (ST) :=
  bd (f_X8_stepOrFail fu (S t0) t1 (5 : Int32)) fun v2 =>
  nm (st S t0 v2) fun Sv2 =>
  some Sv2
set_option maxHeartbeats 4000000 in
set_option maxRecDepth 100000 in
theorem t_X2_takeOnce_34 {G : GG} {p : Program} {l : Launch} {e : Env} {s : State} {m : MethodId} {args : Array Value} {below : List Frame} {meth : Method} {c : Code} {S0 : ST} {fu : Nat} {z : ST} {a : Nat}  {S : ST} {t0 : Nat} {t1 : Int32} (hM : MC G p s m args c cX2_takeOnce w_X2_takeOnce RX2) (hml : c.maxLocals = 4) (hr : meth.sig.returnType = none) (hlk : meth.locks = false)   (hf : f_X2_takeOnce_34 fu  S a t0 t1 = some z) : (gC (S a) = 2) → (∀ b, gC (S0 b) ≠ 0 → gC (S b) = gC (S0 b)) → (gC (S t0) = 8) → ∀ (H : Heap) (locs : List Loc), WB G S s H locs → ∀ (ls : Array Slot), lv_has ls 4 [] → W p l e RM_X2_takeOnce s m args below meth c H locs 0 0 (QR G below args s none S0 z) (F0 m 34 ls [.int t1, .ref t0]) := by
  intro ha hK0 ht0 H locs hW ls hl
  have hx := hM.1
  have hb := hM.2.1
  refine lv_iconst (v := (5 : Int32)) hx hb dX2_takeOnce_34 (by decide) ?_
  obtain ⟨v2, hr1, hf⟩ := bd_elim hf
  refine s_callNv [.int t1, .int (5 : Int32)] [] hM hml hl.1 hW ht0 rfl (by decide) (Ct_self (c_X8_stepOrFail l G fu _ t0 (S t0) _ _ ht0 hr1)) (cwV 2 hM.2.2.2.1 (gV mk_RX2_91 im_X8_stepOrFail se_X8_stepOrFail it_RX8 cd_X8_stepOrFail) rfl rfl rfl (by decide +kernel) ⟨Nat.le_of_ble_eq_true rfl, Nat.le_of_ble_eq_true rfl⟩) rfl rfl (Nat.le_of_ble_eq_true rfl) ⟨Nat.zero_le _, Nat.zero_le _⟩ dX2_takeOnce_35 (fun Sv2 ev2 hk H locs hW => ?_)
  have hf := nm_at ev2 hf
  have ha := keep1 hk ha
  have ht0 := keep1 hk ht0
  have hK0 := keep_tr hK0 hk
  cases hf
  exact W.vret hx hb hr (b_ret0 hW hK0 _) hW.2.2.2 dX2_takeOnce_38 hlk
noncomputable def f_X2_takeOnce_0 (fu : Nat)  (S : ST) (a : Nat) (x1 : Int32) (x2 : Int32) (x3 : Int32) : Option (ST) :=
  if (x1 &&& x2) = 0 then
    (bd (gR (S a) 0) fun q2 =>
    ck (decide (gC (S q2) = 8)) <|
    bd (f_J6_bitCount_0f7a4 fu x1) fun r4 =>
    if x3 ≤ r4 then
      (f_X2_takeOnce_34 fu S a q2 (0 : Int32))
    else
      (f_X2_takeOnce_34 fu S a q2 (1 : Int32)))
  else
    (bd (gR (S a) 0) fun q6 =>
    ck (decide (gC (S q6) = 8)) <|
    bd (f_X8_fail fu (S q6) (3 : Int32)) fun v9 =>
    nm (st S q6 v9) fun Sv9 =>
    some Sv9)
set_option maxHeartbeats 4000000 in
set_option maxRecDepth 100000 in
theorem t_X2_takeOnce_0 {G : GG} {p : Program} {l : Launch} {e : Env} {s : State} {m : MethodId} {args : Array Value} {below : List Frame} {meth : Method} {c : Code} {S0 : ST} {fu : Nat} {z : ST} {a : Nat}  {S : ST} {x1 : Int32} {x2 : Int32} {x3 : Int32} (hM : MC G p s m args c cX2_takeOnce w_X2_takeOnce RX2) (hml : c.maxLocals = 4) (hr : meth.sig.returnType = none) (hlk : meth.locks = false)   (hf : f_X2_takeOnce_0 fu  S a x1 x2 x3 = some z) : (gC (S a) = 2) → (∀ b, gC (S0 b) ≠ 0 → gC (S b) = gC (S0 b)) → ∀ (H : Heap) (locs : List Loc), WB G S s H locs → ∀ (ls : Array Slot), lv_has ls 4 [(0, .ref a), (1, .int x1), (2, .int x2), (3, .int x3)] → W p l e RM_X2_takeOnce s m args below meth c H locs 0 0 (QR G below args s none S0 z) (F0 m 0 ls []) := by
  intro ha hK0 H locs hW ls hl
  have hx := hM.1
  have hb := hM.2.1
  refine lv_iload_n hx hb dX2_takeOnce_0 rfl (lv_at hl 1 rfl) ?_
  refine lv_iload_n hx hb dX2_takeOnce_1 rfl (lv_at hl 2 rfl) ?_
  refine lv_iand hx hb dX2_takeOnce_2 ?_
  refine lv_if_eq (tgt := 17) hx hb dX2_takeOnce_3 (by decide) (fun c1 => ?_) (fun c1 => ?_)
  · have hf := if_t c1 hf
    refine lv_aload_n hx hb dX2_takeOnce_17 rfl (lv_at hl 0 rfl) ?_
    obtain ⟨q2, hq2, hf⟩ := bd_elim hf
    refine b_get hM (hW.at_ a) 1 0 ha rfl rfl (by decide) wi_X2 (wgm fk_RX2_9) (x := .ref q2) (by show va_rf _ = _; rw [hq2]; rfl) dX2_takeOnce_18 ?_
    obtain ⟨h3, hf⟩ := ck_elim hf
    have h3 := of_decide_eq_true h3
    refine lv_iload_n hx hb dX2_takeOnce_21 rfl (lv_at hl 1 rfl) ?_
    obtain ⟨r4, hr4, hf⟩ := bd_elim hf
    refine s_callSi [.int x1] [.ref q2] hM hml hl.1 hW (c_J6_bitCount_0f7a4 l G fu _ _ hr4) (va_cwS 1 hM.2.2.2.1 (gS mk_RX2_161 sm_J6_bitCount_0f7a4 it_RJ6 cd_J6_bitCount_0f7a4) rfl rfl rfl (by decide +kernel) ⟨Nat.le_of_ble_eq_true rfl, Nat.le_of_ble_eq_true rfl⟩) rfl rfl (Nat.le_of_ble_eq_true rfl) ⟨Nat.zero_le _, Nat.zero_le _⟩ dX2_takeOnce_22 (fun H locs hW hk => ?_)
    refine lv_iload_n hx hb dX2_takeOnce_25 rfl (lv_at hl 3 rfl) ?_
    refine lv_icmp_ge (tgt := 33) hx hb dX2_takeOnce_26 (by decide) (fun c5 => ?_) (fun c5 => ?_)
    · have hf := if_t c5 hf
      refine lv_iconst (v := (0 : Int32)) hx hb dX2_takeOnce_33 (by decide) ?_
      exact t_X2_takeOnce_34 (fu := fu) hM hml hr hlk hf ha hK0 h3 _ _ hW _ (lv_sub hl [] rfl)
    · have hf := if_f c5 hf
      refine lv_iconst (v := (1 : Int32)) hx hb dX2_takeOnce_29 (by decide) ?_
      refine lv_goto (tgt := 34) hx hb dX2_takeOnce_30 (by decide) ?_
      exact t_X2_takeOnce_34 (fu := fu) hM hml hr hlk hf ha hK0 h3 _ _ hW _ (lv_sub hl [] rfl)
  · have hf := if_f c1 hf
    refine lv_aload_n hx hb dX2_takeOnce_6 rfl (lv_at hl 0 rfl) ?_
    obtain ⟨q6, hq6, hf⟩ := bd_elim hf
    refine b_get hM (hW.at_ a) 1 0 ha rfl rfl (by decide) wi_X2 (wgm fk_RX2_9) (x := .ref q6) (by show va_rf _ = _; rw [hq6]; rfl) dX2_takeOnce_7 ?_
    obtain ⟨h7, hf⟩ := ck_elim hf
    have h7 := of_decide_eq_true h7
    refine lv_iconst (v := (3 : Int32)) hx hb dX2_takeOnce_10 (by decide) ?_
    obtain ⟨v9, hr8, hf⟩ := bd_elim hf
    refine s_callNv [.int (3 : Int32)] [] hM hml hl.1 hW h7 rfl (by decide) (Ct_self (c_X8_fail l G fu _ q6 (S q6) _ h7 hr8)) (cwV 1 hM.2.2.2.1 (gV mk_RX2_73 im_X8_fail se_X8_fail it_RX8 cd_X8_fail) rfl rfl rfl (by decide +kernel) ⟨Nat.le_of_ble_eq_true rfl, Nat.le_of_ble_eq_true rfl⟩) rfl rfl (Nat.le_of_ble_eq_true rfl) ⟨Nat.zero_le _, Nat.zero_le _⟩ dX2_takeOnce_11 (fun Sv9 ev9 hk H locs hW => ?_)
    have hf := nm_at ev9 hf
    have ha := keep1 hk ha
    have h7 := keep1 hk h7
    have hK0 := keep_tr hK0 hk
    refine lv_goto (tgt := 38) hx hb dX2_takeOnce_14 (by decide) ?_
    cases hf
    exact W.vret hx hb hr (b_ret0 hW hK0 _) hW.2.2.2 dX2_takeOnce_38 hlk
noncomputable def f_X2_takeOnce (fu : Nat) (S : ST) (a : Nat) (x1 : Int32) (x2 : Int32) (x3 : Int32) : Option (ST) := f_X2_takeOnce_0 fu S a x1 x2 x3
set_option maxHeartbeats 4000000 in
set_option maxRecDepth 100000 in
theorem c_X2_takeOnce (l : Launch) (G : GG) (fu : Nat) (S : ST) (a : Nat) (x1 : Int32) (x2 : Int32) (x3 : Int32) {z : ST} (ha : gC (S a) = 2) (hf : f_X2_takeOnce fu S a x1 x2 x3 = some z) : Ct l yX2_takeOnce w_X2_takeOnce RM_X2_takeOnce G S [.ref a, .int x1, .int x2, .int x3] none z 0 0 := by
  refine Met.ofW (cc := cX2_takeOnce) (maxL := 4) (ret := none) (by decide) rfl ?_
  intro p e s m args below meth c s₁ B hml hv
  obtain ⟨rfl, hB, hK, hz⟩ := hv
  have hM : MC G p s m _ c cX2_takeOnce w_X2_takeOnce RX2 := ⟨B.exec, B.bytes, findClass_of_methodNamed B.named, atoms_spec (ws := w_X2_takeOnce) B.pre, hK, hz⟩
  have hW : WB G S s s.heap [] := ⟨hB, va_S.rf⟩
  have hl := lv_entry ([.ref a, .int x1, .int x2, .int x3]) (n := 4) (Nat.le_of_ble_eq_true rfl)
  rw [lg_entry_eq]
  generalize (lg_sl ([.ref a, .int x1, .int x2, .int x3]) ++ List.replicate (4 - (lg_sl ([.ref a, .int x1, .int x2, .int x3])).length) Slot.unset).toArray = ls at hl ⊢
  have hl : lv_has ls 4 [(0, .ref a), (1, .int x1), (2, .int x2), (3, .int x3)] := hl
  exact t_X2_takeOnce_0 (fu := fu) hM hml B.returns B.notSynchronized hf ha (fun _ _ => rfl) _ _ hW _ (lv_sub hl [0, 1, 2, 3] rfl)
