abbrev w_X13_hasIt : List Cond := Cond.code yX13_hasIt cX13_hasIt 4 (some .boolean) :: wsL_law0
abbrev RM_X13_hasIt : Room := { frames := 1, cells := 0, slots := 0, locals := 22 }
noncomputable def f_X13_hasIt_28 (fu : Nat)  (v : GV) : Option (Int32) :=
  some (0 : Int32)
set_option maxHeartbeats 4000000 in
set_option maxRecDepth 100000 in
theorem t_X13_hasIt_28 {G : GG} {p : Program} {l : Launch} {e : Env} {s : State} {m : MethodId} {args : Array Value} {below : List Frame} {meth : Method} {c : Code} {S : ST} {fu : Nat} {z : Int32} {a : Nat} {v : GV}  (hM : MC G p s m args c cX13_hasIt w_X13_hasIt RX13) (hml : c.maxLocals = 4) (hr : meth.sig.returnType = (some .boolean)) (hlk : meth.locks = false) (hc0 : gC v = 12)  (hf : f_X13_hasIt_28 fu  v  = some z) : ∀ (H : Heap) (locs : List Loc), WB G (st S a v) s H locs → ∀ (ls : Array Slot), lv_has ls 4 [] → W p l e RM_X13_hasIt s m args below meth c H locs 0 0 (QR G below args s (some (.int z)) (st S a v) (st S a v)) (F0 m 28 ls []) := by
  intro H locs hW ls hl
  have hx := hM.1
  have hb := hM.2.1
  have hc := hc0
  refine lv_iconst (v := (0 : Int32)) hx hb dX13_hasIt_28 (by decide) ?_
  cases hf
  exact W.zret (v := (0 : Int32)) hx hb hr (by decide) (b_ret0 hW (fun _ _ => rfl) _) hW.2.2.2 dX13_hasIt_29 hlk
noncomputable def f_X13_hasIt_0 (fu : Nat)  (v : GV) (x1 : Int32) (x2 : Int32) (x3 : Int32) : Option (Int32) :=
  bd (f_X13_isPiece fu v x1 x3) fun r1 =>
  if r1 = 0 then
    (f_X13_hasIt_28 fu v)
  else
    (nm (((x1 + (11 : Int32)) + x3)) fun y3 =>
    ck (inb y3 1518) <|
    if (gA v 24 y3.toNatClampNeg) = x2 then
      (some (1 : Int32))
    else
      (f_X13_hasIt_28 fu v))
set_option maxHeartbeats 4000000 in
set_option maxRecDepth 100000 in
theorem t_X13_hasIt_0 {G : GG} {p : Program} {l : Launch} {e : Env} {s : State} {m : MethodId} {args : Array Value} {below : List Frame} {meth : Method} {c : Code} {S : ST} {fu : Nat} {z : Int32} {a : Nat} {v : GV}  {x1 : Int32} {x2 : Int32} {x3 : Int32} (hM : MC G p s m args c cX13_hasIt w_X13_hasIt RX13) (hml : c.maxLocals = 4) (hr : meth.sig.returnType = (some .boolean)) (hlk : meth.locks = false) (hc0 : gC v = 12)  (hf : f_X13_hasIt_0 fu  v x1 x2 x3 = some z) : ∀ (H : Heap) (locs : List Loc), WB G (st S a v) s H locs → ∀ (ls : Array Slot), lv_has ls 4 [(0, .ref a), (1, .int x1), (2, .int x2), (3, .int x3)] → W p l e RM_X13_hasIt s m args below meth c H locs 0 0 (QR G below args s (some (.int z)) (st S a v) (st S a v)) (F0 m 0 ls []) := by
  intro H locs hW ls hl
  have hx := hM.1
  have hb := hM.2.1
  have hc := hc0
  refine lv_aload_n hx hb dX13_hasIt_0 rfl (lv_at hl 0 rfl) ?_
  refine lv_iload_n hx hb dX13_hasIt_1 rfl (lv_at hl 1 rfl) ?_
  refine lv_iload_n hx hb dX13_hasIt_2 rfl (lv_at hl 3 rfl) ?_
  obtain ⟨r1, hr1, hf⟩ := bd_elim hf
  refine b_callVi [.int x1, .int x3] [] hM hml hl.1 hW hc rfl (by decide) (c_X13_isPiece l G fu _ a v _ _ hc hr1) (cwV 2 hM.2.2.2.1 (gV mk_RX13_345 im_X13_isPiece se_X13_isPiece it_RX13 cd_X13_isPiece) rfl rfl rfl (by decide +kernel) ⟨Nat.le_of_ble_eq_true rfl, Nat.le_of_ble_eq_true rfl⟩) rfl rfl (Nat.le_of_ble_eq_true rfl) ⟨Nat.zero_le _, Nat.zero_le _⟩ dX13_hasIt_3 (fun H locs hW hk => ?_)
  refine lv_if_eq (tgt := 28) hx hb dX13_hasIt_6 (by decide) (fun c2 => ?_) (fun c2 => ?_)
  · have hf := if_t c2 hf
    exact t_X13_hasIt_28 (fu := fu) hM hml hr hlk hc0 hf _ _ hW _ (lv_sub hl [] rfl)
  · have hf := if_f c2 hf
    refine lv_aload_n hx hb dX13_hasIt_9 rfl (lv_at hl 0 rfl) ?_
    refine b_get hM hW 11 24 hc rfl rfl (by decide) wi_X13 (wgm fk_RX13_125) (x := .ref (a + 16)) rfl dX13_hasIt_10 ?_
    refine lv_iload_n hx hb dX13_hasIt_13 rfl (lv_at hl 1 rfl) ?_
    refine lv_bipush (v := (11 : Int32)) hx hb dX13_hasIt_14 (by decide) ?_
    refine lv_iadd hx hb dX13_hasIt_16 ?_
    refine lv_iload_n hx hb dX13_hasIt_17 rfl (lv_at hl 3 rfl) ?_
    refine lv_iadd hx hb dX13_hasIt_18 ?_
    refine lv_topi (fun y3 ey3 => ?_)
    have hf := nm_at ey3 hf
    obtain ⟨h4, hf⟩ := ck_elim hf
    refine b_iald (n := 1518) hM hW 11 24 hc (by decide) rfl rfl rfl rfl h4 dX13_hasIt_19 ?_
    refine lv_iload_n hx hb dX13_hasIt_20 rfl (lv_at hl 2 rfl) ?_
    refine lv_icmp_ne (tgt := 28) hx hb dX13_hasIt_21 (by decide) (fun c5 => ?_) (fun c5 => ?_)
    · have hf := if_f c5 hf
      exact t_X13_hasIt_28 (fu := fu) hM hml hr hlk hc0 hf _ _ hW _ (lv_sub hl [] rfl)
    · have hf := if_t c5 hf
      refine lv_iconst (v := (1 : Int32)) hx hb dX13_hasIt_24 (by decide) ?_
      refine lv_goto (tgt := 29) hx hb dX13_hasIt_25 (by decide) ?_
      cases hf
      exact W.zret (v := (1 : Int32)) hx hb hr (by decide) (b_ret0 hW (fun _ _ => rfl) _) hW.2.2.2 dX13_hasIt_29 hlk
noncomputable def f_X13_hasIt (fu : Nat) (v : GV) (x1 : Int32) (x2 : Int32) (x3 : Int32) : Option (Int32) := f_X13_hasIt_0 fu v x1 x2 x3
set_option maxHeartbeats 4000000 in
set_option maxRecDepth 100000 in
theorem c_X13_hasIt (l : Launch) (G : GG) (fu : Nat) (S : ST) (a : Nat) (v : GV) (x1 : Int32) (x2 : Int32) (x3 : Int32) {z : Int32} (hc : gC v = 12) (hf : f_X13_hasIt fu v x1 x2 x3 = some z) : Ct l yX13_hasIt w_X13_hasIt RM_X13_hasIt G (st S a v) [.ref a, .int x1, .int x2, .int x3] (some (.int z)) (st S a v) 0 0 := by
  refine Met.ofW (cc := cX13_hasIt) (maxL := 4) (ret := (some .boolean)) (by decide) rfl ?_
  intro p e s m args below meth c s₁ B hml hv
  obtain ⟨rfl, hB, hK, hz⟩ := hv
  have hM : MC G p s m _ c cX13_hasIt w_X13_hasIt RX13 := ⟨B.exec, B.bytes, findClass_of_methodNamed B.named, atoms_spec (ws := w_X13_hasIt) B.pre, hK, hz⟩
  have hW : WB G (st S a v) s s.heap [] := ⟨hB, va_S.rf⟩
  have hl := lv_entry ([.ref a, .int x1, .int x2, .int x3]) (n := 4) (Nat.le_of_ble_eq_true rfl)
  rw [lg_entry_eq]
  generalize (lg_sl ([.ref a, .int x1, .int x2, .int x3]) ++ List.replicate (4 - (lg_sl ([.ref a, .int x1, .int x2, .int x3])).length) Slot.unset).toArray = ls at hl ⊢
  have hl : lv_has ls 4 [(0, .ref a), (1, .int x1), (2, .int x2), (3, .int x3)] := hl
  exact t_X13_hasIt_0 hM hml B.returns B.notSynchronized hc hf _ _ hW _ (lv_sub hl [0, 1, 2, 3] rfl)
abbrev w_X13_maySteal : List Cond := Cond.code yX13_maySteal cX13_maySteal 6 (some .boolean) :: wsL_law0
abbrev RM_X13_maySteal : Room := { frames := 2, cells := 0, slots := 0, locals := 45 }
noncomputable def f_X13_maySteal_66 (fu : Nat)  (v : GV) : Option (Int32) :=
  some (0 : Int32)
set_option maxHeartbeats 4000000 in
set_option maxRecDepth 100000 in
theorem t_X13_maySteal_66 {G : GG} {p : Program} {l : Launch} {e : Env} {s : State} {m : MethodId} {args : Array Value} {below : List Frame} {meth : Method} {c : Code} {S : ST} {fu : Nat} {z : Int32} {a : Nat} {v : GV}  (hM : MC G p s m args c cX13_maySteal w_X13_maySteal RX13) (hml : c.maxLocals = 6) (hr : meth.sig.returnType = (some .boolean)) (hlk : meth.locks = false) (hc0 : gC v = 12)  (hf : f_X13_maySteal_66 fu  v  = some z) : ∀ (H : Heap) (locs : List Loc), WB G (st S a v) s H locs → ∀ (ls : Array Slot), lv_has ls 6 [] → W p l e RM_X13_maySteal s m args below meth c H locs 0 0 (QR G below args s (some (.int z)) (st S a v) (st S a v)) (F0 m 66 ls []) := by
  intro H locs hW ls hl
  have hx := hM.1
  have hb := hM.2.1
  have hc := hc0
  refine lv_iconst (v := (0 : Int32)) hx hb dX13_maySteal_66 (by decide) ?_
  cases hf
  exact W.zret (v := (0 : Int32)) hx hb hr (by decide) (b_ret0 hW (fun _ _ => rfl) _) hW.2.2.2 dX13_maySteal_67 hlk
noncomputable def f_X13_maySteal_39 (fu : Nat)  (v : GV) (x1 : Int32) (x2 : Int32) (x3 : Int32) (x4 : Int32) (t0 : Int32) : Option (Int32) :=
  if x4 = (3 : Int32) then
    (f_X13_maySteal_66 fu v)
  else
    (if t0 = 0 then
      (f_X13_maySteal_66 fu v)
    else
      (bd (f_X13_hasIt fu v x1 x2 x3) fun r3 =>
      if r3 = 0 then
        (f_X13_maySteal_66 fu v)
      else
        (some (1 : Int32))))
set_option maxHeartbeats 4000000 in
set_option maxRecDepth 100000 in
theorem t_X13_maySteal_39 {G : GG} {p : Program} {l : Launch} {e : Env} {s : State} {m : MethodId} {args : Array Value} {below : List Frame} {meth : Method} {c : Code} {S : ST} {fu : Nat} {z : Int32} {a : Nat} {v : GV}  {x1 : Int32} {x2 : Int32} {x3 : Int32} {x4 : Int32} {t0 : Int32} (hM : MC G p s m args c cX13_maySteal w_X13_maySteal RX13) (hml : c.maxLocals = 6) (hr : meth.sig.returnType = (some .boolean)) (hlk : meth.locks = false) (hc0 : gC v = 12)  (hf : f_X13_maySteal_39 fu  v x1 x2 x3 x4 t0 = some z) : ∀ (H : Heap) (locs : List Loc), WB G (st S a v) s H locs → ∀ (ls : Array Slot), lv_has ls 6 [(0, .ref a), (1, .int x1), (2, .int x2), (3, .int x3), (4, .int x4)] → W p l e RM_X13_maySteal s m args below meth c H locs 0 0 (QR G below args s (some (.int z)) (st S a v) (st S a v)) (F0 m 39 ls [.int t0]) := by
  intro H locs hW ls hl
  have hx := hM.1
  have hb := hM.2.1
  have hc := hc0
  refine lv_istore (lv' := [(5, .int t0), (0, .ref a), (1, .int x1), (2, .int x2), (3, .int x3), (4, .int x4)]) hx hb dX13_maySteal_39 hl (by decide) rfl (fun ls hl => ?_)
  refine lv_iload hx hb dX13_maySteal_41 (lv_at hl 5 rfl) ?_
  refine lv_iconst (v := (3 : Int32)) hx hb dX13_maySteal_43 (by decide) ?_
  refine lv_icmp_eq (tgt := 66) hx hb dX13_maySteal_44 (by decide) (fun c1 => ?_) (fun c1 => ?_)
  · have hf := if_t c1 hf
    exact t_X13_maySteal_66 (fu := fu) hM hml hr hlk hc0 hf _ _ hW _ (lv_sub hl [] rfl)
  · have hf := if_f c1 hf
    refine lv_iload hx hb dX13_maySteal_47 (lv_at hl 0 rfl) ?_
    refine lv_if_eq (tgt := 66) hx hb dX13_maySteal_49 (by decide) (fun c2 => ?_) (fun c2 => ?_)
    · have hf := if_t c2 hf
      exact t_X13_maySteal_66 (fu := fu) hM hml hr hlk hc0 hf _ _ hW _ (lv_sub hl [] rfl)
    · have hf := if_f c2 hf
      refine lv_aload_n hx hb dX13_maySteal_52 rfl (lv_at hl 1 rfl) ?_
      refine lv_iload_n hx hb dX13_maySteal_53 rfl (lv_at hl 2 rfl) ?_
      refine lv_iload_n hx hb dX13_maySteal_54 rfl (lv_at hl 3 rfl) ?_
      refine lv_iload_n hx hb dX13_maySteal_55 rfl (lv_at hl 4 rfl) ?_
      obtain ⟨r3, hr3, hf⟩ := bd_elim hf
      refine b_callVi [.int x1, .int x2, .int x3] [] hM hml hl.1 hW hc rfl (by decide) (c_X13_hasIt l G fu _ a v _ _ _ hc hr3) (cwV 3 hM.2.2.2.1 (gV mk_RX13_361 im_X13_hasIt se_X13_hasIt it_RX13 cd_X13_hasIt) rfl rfl rfl (by decide +kernel) ⟨Nat.le_of_ble_eq_true rfl, Nat.le_of_ble_eq_true rfl⟩) rfl rfl (Nat.le_of_ble_eq_true rfl) ⟨Nat.zero_le _, Nat.zero_le _⟩ dX13_maySteal_56 (fun H locs hW hk => ?_)
      refine lv_if_eq (tgt := 66) hx hb dX13_maySteal_59 (by decide) (fun c4 => ?_) (fun c4 => ?_)
      · have hf := if_t c4 hf
        exact t_X13_maySteal_66 (fu := fu) hM hml hr hlk hc0 hf _ _ hW _ (lv_sub hl [] rfl)
      · have hf := if_f c4 hf
        refine lv_iconst (v := (1 : Int32)) hx hb dX13_maySteal_62 (by decide) ?_
        refine lv_goto (tgt := 67) hx hb dX13_maySteal_63 (by decide) ?_
        cases hf
        exact W.zret (v := (1 : Int32)) hx hb hr (by decide) (b_ret0 hW (fun _ _ => rfl) _) hW.2.2.2 dX13_maySteal_67 hlk
noncomputable def f_X13_maySteal_34 (fu : Nat)  (v : GV) (x1 : Int32) (x2 : Int32) (x3 : Int32) (x4 : Int32) : Option (Int32) :=
  f_X13_maySteal_39 fu v x1 x2 x3 x4 (1 : Int32)
set_option maxHeartbeats 4000000 in
set_option maxRecDepth 100000 in
theorem t_X13_maySteal_34 {G : GG} {p : Program} {l : Launch} {e : Env} {s : State} {m : MethodId} {args : Array Value} {below : List Frame} {meth : Method} {c : Code} {S : ST} {fu : Nat} {z : Int32} {a : Nat} {v : GV}  {x1 : Int32} {x2 : Int32} {x3 : Int32} {x4 : Int32} (hM : MC G p s m args c cX13_maySteal w_X13_maySteal RX13) (hml : c.maxLocals = 6) (hr : meth.sig.returnType = (some .boolean)) (hlk : meth.locks = false) (hc0 : gC v = 12)  (hf : f_X13_maySteal_34 fu  v x1 x2 x3 x4 = some z) : ∀ (H : Heap) (locs : List Loc), WB G (st S a v) s H locs → ∀ (ls : Array Slot), lv_has ls 6 [(0, .ref a), (1, .int x1), (2, .int x2), (3, .int x3), (4, .int x4)] → W p l e RM_X13_maySteal s m args below meth c H locs 0 0 (QR G below args s (some (.int z)) (st S a v) (st S a v)) (F0 m 34 ls []) := by
  intro H locs hW ls hl
  have hx := hM.1
  have hb := hM.2.1
  have hc := hc0
  refine lv_iconst (v := (1 : Int32)) hx hb dX13_maySteal_34 (by decide) ?_
  refine lv_goto (tgt := 39) hx hb dX13_maySteal_35 (by decide) ?_
  exact t_X13_maySteal_39 (fu := fu) hM hml hr hlk hc0 hf _ _ hW _ (lv_sub hl [0, 1, 2, 3, 4] rfl)
noncomputable def f_X13_maySteal_0 (fu : Nat)  (v : GV) (x1 : Int32) (x2 : Int32) (x3 : Int32) : Option (Int32) :=
  bd (f_X13_thiefOf fu v x2 (0 : Int32)) fun r1 =>
  if r1 = (1 : Int32) then
    (f_X13_maySteal_34 fu v x1 x2 x3 r1)
  else
    (bd (f_X13_thiefOf fu v x2 (3 : Int32)) fun r3 =>
    nm ((x1 + (1 : Int32))) fun y4 =>
    ck (inb y4 1518) <|
    if (r3 &&& ((gA v 24 y4.toNatClampNeg) ^^^ (-1 : Int32))) = 0 then
      (f_X13_maySteal_39 fu v x1 x2 x3 r1 (0 : Int32))
    else
      (f_X13_maySteal_34 fu v x1 x2 x3 r1))
set_option maxHeartbeats 4000000 in
set_option maxRecDepth 100000 in
theorem t_X13_maySteal_0 {G : GG} {p : Program} {l : Launch} {e : Env} {s : State} {m : MethodId} {args : Array Value} {below : List Frame} {meth : Method} {c : Code} {S : ST} {fu : Nat} {z : Int32} {a : Nat} {v : GV}  {x1 : Int32} {x2 : Int32} {x3 : Int32} (hM : MC G p s m args c cX13_maySteal w_X13_maySteal RX13) (hml : c.maxLocals = 6) (hr : meth.sig.returnType = (some .boolean)) (hlk : meth.locks = false) (hc0 : gC v = 12)  (hf : f_X13_maySteal_0 fu  v x1 x2 x3 = some z) : ∀ (H : Heap) (locs : List Loc), WB G (st S a v) s H locs → ∀ (ls : Array Slot), lv_has ls 6 [(0, .ref a), (1, .int x1), (2, .int x2), (3, .int x3)] → W p l e RM_X13_maySteal s m args below meth c H locs 0 0 (QR G below args s (some (.int z)) (st S a v) (st S a v)) (F0 m 0 ls []) := by
  intro H locs hW ls hl
  have hx := hM.1
  have hb := hM.2.1
  have hc := hc0
  refine lv_aload_n hx hb dX13_maySteal_0 rfl (lv_at hl 0 rfl) ?_
  refine lv_iload_n hx hb dX13_maySteal_1 rfl (lv_at hl 2 rfl) ?_
  refine lv_iconst (v := (0 : Int32)) hx hb dX13_maySteal_2 (by decide) ?_
  obtain ⟨r1, hr1, hf⟩ := bd_elim hf
  refine b_callVi [.int x2, .int (0 : Int32)] [] hM hml hl.1 hW hc rfl (by decide) (c_X13_thiefOf l G fu _ a v _ _ hc hr1) (cwV 2 hM.2.2.2.1 (gV mk_RX13_323 im_X13_thiefOf se_X13_thiefOf it_RX13 cd_X13_thiefOf) rfl rfl rfl (by decide +kernel) ⟨Nat.le_of_ble_eq_true rfl, Nat.le_of_ble_eq_true rfl⟩) rfl rfl (Nat.le_of_ble_eq_true rfl) ⟨Nat.zero_le _, Nat.zero_le _⟩ dX13_maySteal_3 (fun H locs hW hk => ?_)
  refine lv_istore (lv' := [(4, .int r1), (0, .ref a), (1, .int x1), (2, .int x2), (3, .int x3)]) hx hb dX13_maySteal_6 hl (by decide) rfl (fun ls hl => ?_)
  refine lv_iload hx hb dX13_maySteal_8 (lv_at hl 0 rfl) ?_
  refine lv_iconst (v := (1 : Int32)) hx hb dX13_maySteal_10 (by decide) ?_
  refine lv_icmp_eq (tgt := 34) hx hb dX13_maySteal_11 (by decide) (fun c2 => ?_) (fun c2 => ?_)
  · have hf := if_t c2 hf
    exact t_X13_maySteal_34 (fu := fu) hM hml hr hlk hc0 hf _ _ hW _ (lv_sub hl [1, 2, 3, 4, 0] rfl)
  · have hf := if_f c2 hf
    refine lv_aload_n hx hb dX13_maySteal_14 rfl (lv_at hl 1 rfl) ?_
    refine lv_iload_n hx hb dX13_maySteal_15 rfl (lv_at hl 3 rfl) ?_
    refine lv_iconst (v := (3 : Int32)) hx hb dX13_maySteal_16 (by decide) ?_
    obtain ⟨r3, hr3, hf⟩ := bd_elim hf
    refine b_callVi [.int x2, .int (3 : Int32)] [] hM hml hl.1 hW hc rfl (by decide) (c_X13_thiefOf l G fu _ a v _ _ hc hr3) (cwV 2 hM.2.2.2.1 (gV mk_RX13_323 im_X13_thiefOf se_X13_thiefOf it_RX13 cd_X13_thiefOf) rfl rfl rfl (by decide +kernel) ⟨Nat.le_of_ble_eq_true rfl, Nat.le_of_ble_eq_true rfl⟩) rfl rfl (Nat.le_of_ble_eq_true rfl) ⟨Nat.zero_le _, Nat.zero_le _⟩ dX13_maySteal_17 (fun H locs hW hk => ?_)
    refine lv_aload_n hx hb dX13_maySteal_20 rfl (lv_at hl 1 rfl) ?_
    refine b_get hM hW 11 24 hc rfl rfl (by decide) wi_X13 (wgm fk_RX13_125) (x := .ref (a + 16)) rfl dX13_maySteal_21 ?_
    refine lv_iload_n hx hb dX13_maySteal_24 rfl (lv_at hl 2 rfl) ?_
    refine lv_iconst (v := (1 : Int32)) hx hb dX13_maySteal_25 (by decide) ?_
    refine lv_iadd hx hb dX13_maySteal_26 ?_
    refine lv_topi (fun y4 ey4 => ?_)
    have hf := nm_at ey4 hf
    obtain ⟨h5, hf⟩ := ck_elim hf
    refine b_iald (n := 1518) hM hW 11 24 hc (by decide) rfl rfl rfl rfl h5 dX13_maySteal_27 ?_
    refine lv_iconst (v := (-1 : Int32)) hx hb dX13_maySteal_28 (by decide) ?_
    refine lv_ixor hx hb dX13_maySteal_29 ?_
    refine lv_iand hx hb dX13_maySteal_30 ?_
    refine lv_if_eq (tgt := 38) hx hb dX13_maySteal_31 (by decide) (fun c6 => ?_) (fun c6 => ?_)
    · have hf := if_t c6 hf
      refine lv_iconst (v := (0 : Int32)) hx hb dX13_maySteal_38 (by decide) ?_
      exact t_X13_maySteal_39 (fu := fu) hM hml hr hlk hc0 hf _ _ hW _ (lv_sub hl [1, 2, 3, 4, 0] rfl)
    · have hf := if_f c6 hf
      exact t_X13_maySteal_34 (fu := fu) hM hml hr hlk hc0 hf _ _ hW _ (lv_sub hl [1, 2, 3, 4, 0] rfl)
noncomputable def f_X13_maySteal (fu : Nat) (v : GV) (x1 : Int32) (x2 : Int32) (x3 : Int32) : Option (Int32) := f_X13_maySteal_0 fu v x1 x2 x3
set_option maxHeartbeats 4000000 in
set_option maxRecDepth 100000 in
theorem c_X13_maySteal (l : Launch) (G : GG) (fu : Nat) (S : ST) (a : Nat) (v : GV) (x1 : Int32) (x2 : Int32) (x3 : Int32) {z : Int32} (hc : gC v = 12) (hf : f_X13_maySteal fu v x1 x2 x3 = some z) : Ct l yX13_maySteal w_X13_maySteal RM_X13_maySteal G (st S a v) [.ref a, .int x1, .int x2, .int x3] (some (.int z)) (st S a v) 0 0 := by
  refine Met.ofW (cc := cX13_maySteal) (maxL := 6) (ret := (some .boolean)) (by decide) rfl ?_
  intro p e s m args below meth c s₁ B hml hv
  obtain ⟨rfl, hB, hK, hz⟩ := hv
  have hM : MC G p s m _ c cX13_maySteal w_X13_maySteal RX13 := ⟨B.exec, B.bytes, findClass_of_methodNamed B.named, atoms_spec (ws := w_X13_maySteal) B.pre, hK, hz⟩
  have hW : WB G (st S a v) s s.heap [] := ⟨hB, va_S.rf⟩
  have hl := lv_entry ([.ref a, .int x1, .int x2, .int x3]) (n := 6) (Nat.le_of_ble_eq_true rfl)
  rw [lg_entry_eq]
  generalize (lg_sl ([.ref a, .int x1, .int x2, .int x3]) ++ List.replicate (6 - (lg_sl ([.ref a, .int x1, .int x2, .int x3])).length) Slot.unset).toArray = ls at hl ⊢
  have hl : lv_has ls 6 [(0, .ref a), (1, .int x1), (2, .int x2), (3, .int x3)] := hl
  exact t_X13_maySteal_0 hM hml B.returns B.notSynchronized hc hf _ _ hW _ (lv_sub hl [0, 1, 2, 3] rfl)
abbrev w_X13_steals : List Cond := Cond.code yX13_steals cX13_steals 6 (some .int) :: wsL_law0
abbrev RM_X13_steals : Room := { frames := 1, cells := 0, slots := 0, locals := 23 }
noncomputable def f_X13_steals_73 (fu : Nat)  (v : GV) (x4 : Int32) : Option (Int32 × GV) :=
  some (x4, v)
set_option maxHeartbeats 4000000 in
set_option maxRecDepth 100000 in
theorem t_X13_steals_73 {G : GG} {p : Program} {l : Launch} {e : Env} {s : State} {m : MethodId} {args : Array Value} {below : List Frame} {meth : Method} {c : Code} {S : ST} {fu : Nat} {z : Int32 × GV} {a : Nat} {v0 : GV}  {v : GV} {x4 : Int32} (hM : MC G p s m args c cX13_steals w_X13_steals RX13) (hml : c.maxLocals = 6) (hr : meth.sig.returnType = (some .int)) (hlk : meth.locks = false) (hc0 : gC v0 = 12)  (hf : f_X13_steals_73 fu  v x4 = some z) : gC v = 12 → ∀ (H : Heap) (locs : List Loc), WB G (st S a v) s H locs → ∀ (ls : Array Slot), lv_has ls 6 [(4, .int x4)] → W p l e RM_X13_steals s m args below meth c H locs 0 0 (QR G below args s (some (.int z.1)) (st S a v0) (st S a z.2)) (F0 m 73 ls []) := by
  intro hc H locs hW ls hl
  have hx := hM.1
  have hb := hM.2.1
  refine lv_iload hx hb dX13_steals_73 (lv_at hl 0 rfl) ?_
  cases hf
  exact W.iret hx hb hr (b_ret0 hW (keep_s2 hc0 hc) _) hW.2.2.2 dX13_steals_75 hlk
noncomputable def f_X13_steals_0 (fu : Nat)  (v : GV) (x1 : Int32) (x2 : Int32) (x3 : Int32) : Option (Int32 × GV) :=
  bd (f_X13_hanging fu v x1) fun r1 =>
  ck (inb ((x1 + (11 : Int32)) + x3) 1518) <|
  nm (sA v 24 ((x1 + (11 : Int32)) + x3).toNatClampNeg (5 : Int32)) fun v3 =>
  ck (inb ((x1 + (11 : Int32)) + r1) 1518) <|
  nm (sA v3 24 ((x1 + (11 : Int32)) + r1).toNatClampNeg x2) fun v5 =>
  nm (((x1 + (3 : Int32)) + r1)) fun y6 =>
  ck (inb y6 1518) <|
  nm ((gA v5 24 y6.toNatClampNeg)) fun y8 =>
  bd (f_X13_thiefOf fu v5 x2 (0 : Int32)) fun r9 =>
  if r9 = (2 : Int32) then
    (nm ((y8 &&& (y8 - (1 : Int32)))) fun y11 =>
    ck (inb ((x1 + (3 : Int32)) + r1) 1518) <|
    nm (sA v5 24 ((x1 + (3 : Int32)) + r1).toNatClampNeg y11) fun v13 =>
    f_X13_steals_73 fu v13 r1)
  else
    (f_X13_steals_73 fu v5 r1)
set_option maxHeartbeats 4000000 in
set_option maxRecDepth 100000 in
theorem t_X13_steals_0 {G : GG} {p : Program} {l : Launch} {e : Env} {s : State} {m : MethodId} {args : Array Value} {below : List Frame} {meth : Method} {c : Code} {S : ST} {fu : Nat} {z : Int32 × GV} {a : Nat} {v0 : GV}  {v : GV} {x1 : Int32} {x2 : Int32} {x3 : Int32} (hM : MC G p s m args c cX13_steals w_X13_steals RX13) (hml : c.maxLocals = 6) (hr : meth.sig.returnType = (some .int)) (hlk : meth.locks = false) (hc0 : gC v0 = 12)  (hf : f_X13_steals_0 fu  v x1 x2 x3 = some z) : gC v = 12 → ∀ (H : Heap) (locs : List Loc), WB G (st S a v) s H locs → ∀ (ls : Array Slot), lv_has ls 6 [(0, .ref a), (1, .int x1), (2, .int x2), (3, .int x3)] → W p l e RM_X13_steals s m args below meth c H locs 0 0 (QR G below args s (some (.int z.1)) (st S a v0) (st S a z.2)) (F0 m 0 ls []) := by
  intro hc H locs hW ls hl
  have hx := hM.1
  have hb := hM.2.1
  refine lv_aload_n hx hb dX13_steals_0 rfl (lv_at hl 0 rfl) ?_
  refine lv_iload_n hx hb dX13_steals_1 rfl (lv_at hl 1 rfl) ?_
  obtain ⟨r1, hr1, hf⟩ := bd_elim hf
  refine b_callVi [.int x1] [] hM hml hl.1 hW hc rfl (by decide) (c_X13_hanging l G fu _ a v _ hc hr1) (cwV 1 hM.2.2.2.1 (gV mk_RX13_364 im_X13_hanging se_X13_hanging it_RX13 cd_X13_hanging) rfl rfl rfl (by decide +kernel) ⟨Nat.le_of_ble_eq_true rfl, Nat.le_of_ble_eq_true rfl⟩) rfl rfl (Nat.le_of_ble_eq_true rfl) ⟨Nat.zero_le _, Nat.zero_le _⟩ dX13_steals_2 (fun H locs hW hk => ?_)
  refine lv_istore (lv' := [(4, .int r1), (0, .ref a), (1, .int x1), (2, .int x2), (3, .int x3)]) hx hb dX13_steals_5 hl (by decide) rfl (fun ls hl => ?_)
  refine lv_aload_n hx hb dX13_steals_7 rfl (lv_at hl 1 rfl) ?_
  refine b_get hM hW 11 24 hc rfl rfl (by decide) wi_X13 (wgm fk_RX13_125) (x := .ref (a + 16)) rfl dX13_steals_8 ?_
  refine lv_iload_n hx hb dX13_steals_11 rfl (lv_at hl 2 rfl) ?_
  refine lv_bipush (v := (11 : Int32)) hx hb dX13_steals_12 (by decide) ?_
  refine lv_iadd hx hb dX13_steals_14 ?_
  refine lv_iload_n hx hb dX13_steals_15 rfl (lv_at hl 4 rfl) ?_
  refine lv_iadd hx hb dX13_steals_16 ?_
  refine lv_iconst (v := (5 : Int32)) hx hb dX13_steals_17 (by decide) ?_
  obtain ⟨h2, hf⟩ := ck_elim hf
  refine b_iast (n := 1518) hM hW 11 24 hc (by decide) rfl rfl rfl rfl h2 dX13_steals_18 (fun v3 ev3 hc H locs hW => ?_)
  have hf := nm_at ev3 hf
  refine lv_aload_n hx hb dX13_steals_19 rfl (lv_at hl 1 rfl) ?_
  refine b_get hM hW 11 24 hc rfl rfl (by decide) wi_X13 (wgm fk_RX13_125) (x := .ref (a + 16)) rfl dX13_steals_20 ?_
  refine lv_iload_n hx hb dX13_steals_23 rfl (lv_at hl 2 rfl) ?_
  refine lv_bipush (v := (11 : Int32)) hx hb dX13_steals_24 (by decide) ?_
  refine lv_iadd hx hb dX13_steals_26 ?_
  refine lv_iload hx hb dX13_steals_27 (lv_at hl 0 rfl) ?_
  refine lv_iadd hx hb dX13_steals_29 ?_
  refine lv_iload_n hx hb dX13_steals_30 rfl (lv_at hl 3 rfl) ?_
  obtain ⟨h4, hf⟩ := ck_elim hf
  refine b_iast (n := 1518) hM hW 11 24 hc (by decide) rfl rfl rfl rfl h4 dX13_steals_31 (fun v5 ev5 hc H locs hW => ?_)
  have hf := nm_at ev5 hf
  refine lv_aload_n hx hb dX13_steals_32 rfl (lv_at hl 1 rfl) ?_
  refine b_get hM hW 11 24 hc rfl rfl (by decide) wi_X13 (wgm fk_RX13_125) (x := .ref (a + 16)) rfl dX13_steals_33 ?_
  refine lv_iload_n hx hb dX13_steals_36 rfl (lv_at hl 2 rfl) ?_
  refine lv_iconst (v := (3 : Int32)) hx hb dX13_steals_37 (by decide) ?_
  refine lv_iadd hx hb dX13_steals_38 ?_
  refine lv_iload hx hb dX13_steals_39 (lv_at hl 0 rfl) ?_
  refine lv_iadd hx hb dX13_steals_41 ?_
  refine lv_topi (fun y6 ey6 => ?_)
  have hf := nm_at ey6 hf
  obtain ⟨h7, hf⟩ := ck_elim hf
  refine b_iald (n := 1518) hM hW 11 24 hc (by decide) rfl rfl rfl rfl h7 dX13_steals_42 ?_
  refine lv_topi (fun y8 ey8 => ?_)
  have hf := nm_at ey8 hf
  refine lv_istore (lv' := [(5, .int y8), (4, .int r1), (0, .ref a), (1, .int x1), (2, .int x2), (3, .int x3)]) hx hb dX13_steals_43 hl (by decide) rfl (fun ls hl => ?_)
  refine lv_aload_n hx hb dX13_steals_45 rfl (lv_at hl 2 rfl) ?_
  refine lv_iload_n hx hb dX13_steals_46 rfl (lv_at hl 4 rfl) ?_
  refine lv_iconst (v := (0 : Int32)) hx hb dX13_steals_47 (by decide) ?_
  obtain ⟨r9, hr9, hf⟩ := bd_elim hf
  refine b_callVi [.int x2, .int (0 : Int32)] [] hM hml hl.1 hW hc rfl (by decide) (c_X13_thiefOf l G fu _ a v5 _ _ hc hr9) (cwV 2 hM.2.2.2.1 (gV mk_RX13_323 im_X13_thiefOf se_X13_thiefOf it_RX13 cd_X13_thiefOf) rfl rfl rfl (by decide +kernel) ⟨Nat.le_of_ble_eq_true rfl, Nat.le_of_ble_eq_true rfl⟩) rfl rfl (Nat.le_of_ble_eq_true rfl) ⟨Nat.zero_le _, Nat.zero_le _⟩ dX13_steals_48 (fun H locs hW hk => ?_)
  refine lv_iconst (v := (2 : Int32)) hx hb dX13_steals_51 (by decide) ?_
  refine lv_icmp_ne (tgt := 73) hx hb dX13_steals_52 (by decide) (fun c10 => ?_) (fun c10 => ?_)
  · have hf := if_f c10 hf
    exact t_X13_steals_73 (fu := fu) hM hml hr hlk hc0 hf hc _ _ hW _ (lv_sub hl [1] rfl)
  · have hf := if_t c10 hf
    refine lv_aload_n hx hb dX13_steals_55 rfl (lv_at hl 2 rfl) ?_
    refine b_get hM hW 11 24 hc rfl rfl (by decide) wi_X13 (wgm fk_RX13_125) (x := .ref (a + 16)) rfl dX13_steals_56 ?_
    refine lv_iload_n hx hb dX13_steals_59 rfl (lv_at hl 3 rfl) ?_
    refine lv_iconst (v := (3 : Int32)) hx hb dX13_steals_60 (by decide) ?_
    refine lv_iadd hx hb dX13_steals_61 ?_
    refine lv_iload hx hb dX13_steals_62 (lv_at hl 1 rfl) ?_
    refine lv_iadd hx hb dX13_steals_64 ?_
    refine lv_iload hx hb dX13_steals_65 (lv_at hl 0 rfl) ?_
    refine lv_iload hx hb dX13_steals_67 (lv_at hl 0 rfl) ?_
    refine lv_iconst (v := (1 : Int32)) hx hb dX13_steals_69 (by decide) ?_
    refine lv_isub hx hb dX13_steals_70 ?_
    refine lv_iand hx hb dX13_steals_71 ?_
    refine lv_topi (fun y11 ey11 => ?_)
    have hf := nm_at ey11 hf
    obtain ⟨h12, hf⟩ := ck_elim hf
    refine b_iast (n := 1518) hM hW 11 24 hc (by decide) rfl rfl rfl rfl h12 dX13_steals_72 (fun v13 ev13 hc H locs hW => ?_)
    have hf := nm_at ev13 hf
    exact t_X13_steals_73 (fu := fu) hM hml hr hlk hc0 hf hc _ _ hW _ (lv_sub hl [1] rfl)
noncomputable def f_X13_steals (fu : Nat) (v : GV) (x1 : Int32) (x2 : Int32) (x3 : Int32) : Option (Int32 × GV) := f_X13_steals_0 fu v x1 x2 x3
set_option maxHeartbeats 4000000 in
set_option maxRecDepth 100000 in
theorem c_X13_steals (l : Launch) (G : GG) (fu : Nat) (S : ST) (a : Nat) (v : GV) (x1 : Int32) (x2 : Int32) (x3 : Int32) {z : Int32} {w : GV} (hc : gC v = 12) (hf : f_X13_steals fu v x1 x2 x3 = some (z, w)) : Ct l yX13_steals w_X13_steals RM_X13_steals G (st S a v) [.ref a, .int x1, .int x2, .int x3] (some (.int z)) (st S a w) 0 0 := by
  refine Met.ofW (cc := cX13_steals) (maxL := 6) (ret := (some .int)) (by decide) rfl ?_
  intro p e s m args below meth c s₁ B hml hv
  obtain ⟨rfl, hB, hK, hz⟩ := hv
  have hM : MC G p s m _ c cX13_steals w_X13_steals RX13 := ⟨B.exec, B.bytes, findClass_of_methodNamed B.named, atoms_spec (ws := w_X13_steals) B.pre, hK, hz⟩
  have hW : WB G (st S a v) s s.heap [] := ⟨hB, va_S.rf⟩
  have hl := lv_entry ([.ref a, .int x1, .int x2, .int x3]) (n := 6) (Nat.le_of_ble_eq_true rfl)
  rw [lg_entry_eq]
  generalize (lg_sl ([.ref a, .int x1, .int x2, .int x3]) ++ List.replicate (6 - (lg_sl ([.ref a, .int x1, .int x2, .int x3])).length) Slot.unset).toArray = ls at hl ⊢
  have hl : lv_has ls 6 [(0, .ref a), (1, .int x1), (2, .int x2), (3, .int x3)] := hl
  exact t_X13_steals_0 hM hml B.returns B.notSynchronized hc hf hc _ _ hW _ (lv_sub hl [0, 1, 2, 3] rfl)
abbrev w_X13_steal : List Cond := Cond.code yX13_steal cX13_steal 3 (some .int) :: wsL_law0
abbrev RM_X13_steal : Room := { frames := 3, cells := 0, slots := 0, locals := 70 }
noncomputable def f_X13_steal_23 (fu : Nat)  (v : GV) : Option (Int32 × GV) :=
  some ((-1 : Int32), v)
set_option maxHeartbeats 4000000 in
set_option maxRecDepth 100000 in
theorem t_X13_steal_23 {G : GG} {p : Program} {l : Launch} {e : Env} {s : State} {m : MethodId} {args : Array Value} {below : List Frame} {meth : Method} {c : Code} {S : ST} {fu : Nat} {z : Int32 × GV} {a : Nat} {v0 : GV}  {v : GV} (hM : MC G p s m args c cX13_steal w_X13_steal RX13) (hml : c.maxLocals = 3) (hr : meth.sig.returnType = (some .int)) (hlk : meth.locks = false) (hc0 : gC v0 = 12)  (hf : f_X13_steal_23 fu  v  = some z) : gC v = 12 → ∀ (H : Heap) (locs : List Loc), WB G (st S a v) s H locs → ∀ (ls : Array Slot), lv_has ls 3 [] → W p l e RM_X13_steal s m args below meth c H locs 0 0 (QR G below args s (some (.int z.1)) (st S a v0) (st S a z.2)) (F0 m 23 ls []) := by
  intro hc H locs hW ls hl
  have hx := hM.1
  have hb := hM.2.1
  refine lv_iconst (v := (-1 : Int32)) hx hb dX13_steal_23 (by decide) ?_
  cases hf
  exact W.iret hx hb hr (b_ret0 hW (keep_s2 hc0 hc) _) hW.2.2.2 dX13_steal_24 hlk
noncomputable def f_X13_steal_0 (fu : Nat)  (v : GV) (x1 : Int32) (x2 : Int32) : Option (Int32 × GV) :=
  nm (sI v 0 (0 : Int32)) fun v1 =>
  bd (f_X13_isThief fu v1 x1) fun r2 =>
  if r2 = 0 then
    (f_X13_steal_23 fu v1)
  else
    (bd (f_X13_maySteal fu v1 (0 : Int32) x1 x2) fun r4 =>
    if r4 = 0 then
      (f_X13_steal_23 fu v1)
    else
      (bd (f_X13_keeps fu v1) fun v7 =>
      bd2 (f_X13_steals fu v7 (0 : Int32) x1 x2) fun r8 v9 =>
      some (r8, v9)))
set_option maxHeartbeats 4000000 in
set_option maxRecDepth 100000 in
theorem t_X13_steal_0 {G : GG} {p : Program} {l : Launch} {e : Env} {s : State} {m : MethodId} {args : Array Value} {below : List Frame} {meth : Method} {c : Code} {S : ST} {fu : Nat} {z : Int32 × GV} {a : Nat} {v0 : GV}  {v : GV} {x1 : Int32} {x2 : Int32} (hM : MC G p s m args c cX13_steal w_X13_steal RX13) (hml : c.maxLocals = 3) (hr : meth.sig.returnType = (some .int)) (hlk : meth.locks = false) (hc0 : gC v0 = 12)  (hf : f_X13_steal_0 fu  v x1 x2 = some z) : gC v = 12 → ∀ (H : Heap) (locs : List Loc), WB G (st S a v) s H locs → ∀ (ls : Array Slot), lv_has ls 3 [(0, .ref a), (1, .int x1), (2, .int x2)] → W p l e RM_X13_steal s m args below meth c H locs 0 0 (QR G below args s (some (.int z.1)) (st S a v0) (st S a z.2)) (F0 m 0 ls []) := by
  intro hc H locs hW ls hl
  have hx := hM.1
  have hb := hM.2.1
  refine lv_aload_n hx hb dX13_steal_0 rfl (lv_at hl 0 rfl) ?_
  refine lv_iconst (v := (0 : Int32)) hx hb dX13_steal_1 (by decide) ?_
  refine b_putI hM hW 11 0 hc rfl rfl (by decide) wi_X13 tyX13 tyX13_ok nmX13 (wgm fk_RX13_1) rfl rfl rfl dX13_steal_2 (fun v1 ev1 hc H locs hW => ?_)
  have hf := nm_at ev1 hf
  refine lv_aload_n hx hb dX13_steal_5 rfl (lv_at hl 0 rfl) ?_
  refine lv_iload_n hx hb dX13_steal_6 rfl (lv_at hl 1 rfl) ?_
  obtain ⟨r2, hr2, hf⟩ := bd_elim hf
  refine b_callVi [.int x1] [] hM hml hl.1 hW hc rfl (by decide) (c_X13_isThief l G fu _ a v1 _ hc hr2) (cwV 1 hM.2.2.2.1 (gV mk_RX13_355 im_X13_isThief se_X13_isThief it_RX13 cd_X13_isThief) rfl rfl rfl (by decide +kernel) ⟨Nat.le_of_ble_eq_true rfl, Nat.le_of_ble_eq_true rfl⟩) rfl rfl (Nat.le_of_ble_eq_true rfl) ⟨Nat.zero_le _, Nat.zero_le _⟩ dX13_steal_7 (fun H locs hW hk => ?_)
  refine lv_if_eq (tgt := 23) hx hb dX13_steal_10 (by decide) (fun c3 => ?_) (fun c3 => ?_)
  · have hf := if_t c3 hf
    exact t_X13_steal_23 (fu := fu) hM hml hr hlk hc0 hf hc _ _ hW _ (lv_sub hl [] rfl)
  · have hf := if_f c3 hf
    refine lv_aload_n hx hb dX13_steal_13 rfl (lv_at hl 0 rfl) ?_
    refine lv_iconst (v := (0 : Int32)) hx hb dX13_steal_14 (by decide) ?_
    refine lv_iload_n hx hb dX13_steal_15 rfl (lv_at hl 1 rfl) ?_
    refine lv_iload_n hx hb dX13_steal_16 rfl (lv_at hl 2 rfl) ?_
    obtain ⟨r4, hr4, hf⟩ := bd_elim hf
    refine b_callVi [.int (0 : Int32), .int x1, .int x2] [] hM hml hl.1 hW hc rfl (by decide) (c_X13_maySteal l G fu _ a v1 _ _ _ hc hr4) (cwV 3 hM.2.2.2.1 (gV mk_RX13_367 im_X13_maySteal se_X13_maySteal it_RX13 cd_X13_maySteal) rfl rfl rfl (by decide +kernel) ⟨Nat.le_of_ble_eq_true rfl, Nat.le_of_ble_eq_true rfl⟩) rfl rfl (Nat.le_of_ble_eq_true rfl) ⟨Nat.zero_le _, Nat.zero_le _⟩ dX13_steal_17 (fun H locs hW hk => ?_)
    refine lv_if_ne (tgt := 25) hx hb dX13_steal_20 (by decide) (fun c5 => ?_) (fun c5 => ?_)
    · have hf := if_f c5 hf
      refine lv_aload_n hx hb dX13_steal_25 rfl (lv_at hl 0 rfl) ?_
      obtain ⟨v7, hr6, hf⟩ := bd_elim hf
      refine b_callVv [] [] hM hml hl.1 hW hc rfl (by decide) (c_X13_keeps l G fu _ a v1 hc hr6) (cwV 0 hM.2.2.2.1 (gV mk_RX13_370 im_X13_keeps se_X13_keeps it_RX13 cd_X13_keeps) rfl rfl rfl (by decide +kernel) ⟨Nat.le_of_ble_eq_true rfl, Nat.le_of_ble_eq_true rfl⟩) rfl rfl (Nat.le_of_ble_eq_true rfl) ⟨Nat.zero_le _, Nat.zero_le _⟩ dX13_steal_26 (fun H locs hW hk => ?_)
      have hc := keep_at hc hk
      refine lv_aload_n hx hb dX13_steal_29 rfl (lv_at hl 0 rfl) ?_
      refine lv_iconst (v := (0 : Int32)) hx hb dX13_steal_30 (by decide) ?_
      refine lv_iload_n hx hb dX13_steal_31 rfl (lv_at hl 1 rfl) ?_
      refine lv_iload_n hx hb dX13_steal_32 rfl (lv_at hl 2 rfl) ?_
      obtain ⟨r8, v9, hr8, hf⟩ := bd2_elim hf
      refine b_callVi [.int (0 : Int32), .int x1, .int x2] [] hM hml hl.1 hW hc rfl (by decide) (c_X13_steals l G fu _ a v7 _ _ _ hc hr8) (cwV 3 hM.2.2.2.1 (gV mk_RX13_373 im_X13_steals se_X13_steals it_RX13 cd_X13_steals) rfl rfl rfl (by decide +kernel) ⟨Nat.le_of_ble_eq_true rfl, Nat.le_of_ble_eq_true rfl⟩) rfl rfl (Nat.le_of_ble_eq_true rfl) ⟨Nat.zero_le _, Nat.zero_le _⟩ dX13_steal_33 (fun H locs hW hk => ?_)
      have hc := keep_at hc hk
      cases hf
      exact W.iret hx hb hr (b_ret0 hW (keep_s2 hc0 hc) _) hW.2.2.2 dX13_steal_36 hlk
    · have hf := if_t c5 hf
      exact t_X13_steal_23 (fu := fu) hM hml hr hlk hc0 hf hc _ _ hW _ (lv_sub hl [] rfl)
noncomputable def f_X13_steal (fu : Nat) (v : GV) (x1 : Int32) (x2 : Int32) : Option (Int32 × GV) := f_X13_steal_0 fu v x1 x2
set_option maxHeartbeats 4000000 in
set_option maxRecDepth 100000 in
theorem c_X13_steal (l : Launch) (G : GG) (fu : Nat) (S : ST) (a : Nat) (v : GV) (x1 : Int32) (x2 : Int32) {z : Int32} {w : GV} (hc : gC v = 12) (hf : f_X13_steal fu v x1 x2 = some (z, w)) : Ct l yX13_steal w_X13_steal RM_X13_steal G (st S a v) [.ref a, .int x1, .int x2] (some (.int z)) (st S a w) 0 0 := by
  refine Met.ofW (cc := cX13_steal) (maxL := 3) (ret := (some .int)) (by decide) rfl ?_
  intro p e s m args below meth c s₁ B hml hv
  obtain ⟨rfl, hB, hK, hz⟩ := hv
  have hM : MC G p s m _ c cX13_steal w_X13_steal RX13 := ⟨B.exec, B.bytes, findClass_of_methodNamed B.named, atoms_spec (ws := w_X13_steal) B.pre, hK, hz⟩
  have hW : WB G (st S a v) s s.heap [] := ⟨hB, va_S.rf⟩
  have hl := lv_entry ([.ref a, .int x1, .int x2]) (n := 3) (Nat.le_of_ble_eq_true rfl)
  rw [lg_entry_eq]
  generalize (lg_sl ([.ref a, .int x1, .int x2]) ++ List.replicate (3 - (lg_sl ([.ref a, .int x1, .int x2])).length) Slot.unset).toArray = ls at hl ⊢
  have hl : lv_has ls 3 [(0, .ref a), (1, .int x1), (2, .int x2)] := hl
  exact t_X13_steal_0 hM hml B.returns B.notSynchronized hc hf hc _ _ hW _ (lv_sub hl [0, 1, 2] rfl)
abbrev w_X13_mayPaint : List Cond := Cond.code yX13_mayPaint cX13_mayPaint 6 (some .boolean) :: wsL_law0
abbrev RM_X13_mayPaint : Room := { frames := 3, cells := 0, slots := 0, locals := 69 }
noncomputable def f_X13_mayPaint_84 (fu : Nat)  (v : GV) : Option (Int32 × GV) :=
  some ((0 : Int32), v)
set_option maxHeartbeats 4000000 in
set_option maxRecDepth 100000 in
theorem t_X13_mayPaint_84 {G : GG} {p : Program} {l : Launch} {e : Env} {s : State} {m : MethodId} {args : Array Value} {below : List Frame} {meth : Method} {c : Code} {S : ST} {fu : Nat} {z : Int32 × GV} {a : Nat} {v0 : GV}  {v : GV} (hM : MC G p s m args c cX13_mayPaint w_X13_mayPaint RX13) (hml : c.maxLocals = 6) (hr : meth.sig.returnType = (some .boolean)) (hlk : meth.locks = false) (hc0 : gC v0 = 12)  (hf : f_X13_mayPaint_84 fu  v  = some z) : gC v = 12 → ∀ (H : Heap) (locs : List Loc), WB G (st S a v) s H locs → ∀ (ls : Array Slot), lv_has ls 6 [] → W p l e RM_X13_mayPaint s m args below meth c H locs 0 0 (QR G below args s (some (.int z.1)) (st S a v0) (st S a z.2)) (F0 m 84 ls []) := by
  intro hc H locs hW ls hl
  have hx := hM.1
  have hb := hM.2.1
  refine lv_iconst (v := (0 : Int32)) hx hb dX13_mayPaint_84 (by decide) ?_
  cases hf
  exact W.zret (v := (0 : Int32)) hx hb hr (by decide) (b_ret0 hW (keep_s2 hc0 hc) _) hW.2.2.2 dX13_mayPaint_85 hlk
noncomputable def f_X13_mayPaint_43 (fu : Nat)  (v : GV) (x1 : Int32) (x2 : Int32) (x3 : Int32) (x4 : Int32) (t0 : Int32) : Option (Int32 × GV) :=
  if t0 = 0 then
    (f_X13_mayPaint_84 fu v)
  else
    (nm ((x1 + (2 : Int32))) fun y2 =>
    ck (inb y2 1518) <|
    if (8 : Int32) ≤ (gA v 24 y2.toNatClampNeg) then
      (f_X13_mayPaint_84 fu v)
    else
      (bd (f_X13_thiefOf fu v x2 (1 : Int32)) fun r5 =>
      bd2 (f_X13_hardOf fu v x1 x3 x4) fun r6 v7 =>
      if r5 < r6 then
        (f_X13_mayPaint_84 fu v7)
      else
        (some ((1 : Int32), v7))))
set_option maxHeartbeats 4000000 in
set_option maxRecDepth 100000 in
theorem t_X13_mayPaint_43 {G : GG} {p : Program} {l : Launch} {e : Env} {s : State} {m : MethodId} {args : Array Value} {below : List Frame} {meth : Method} {c : Code} {S : ST} {fu : Nat} {z : Int32 × GV} {a : Nat} {v0 : GV}  {v : GV} {x1 : Int32} {x2 : Int32} {x3 : Int32} {x4 : Int32} {t0 : Int32} (hM : MC G p s m args c cX13_mayPaint w_X13_mayPaint RX13) (hml : c.maxLocals = 6) (hr : meth.sig.returnType = (some .boolean)) (hlk : meth.locks = false) (hc0 : gC v0 = 12)  (hf : f_X13_mayPaint_43 fu  v x1 x2 x3 x4 t0 = some z) : gC v = 12 → ∀ (H : Heap) (locs : List Loc), WB G (st S a v) s H locs → ∀ (ls : Array Slot), lv_has ls 6 [(0, .ref a), (1, .int x1), (2, .int x2), (3, .int x3), (4, .int x4)] → W p l e RM_X13_mayPaint s m args below meth c H locs 0 0 (QR G below args s (some (.int z.1)) (st S a v0) (st S a z.2)) (F0 m 43 ls [.int t0]) := by
  intro hc H locs hW ls hl
  have hx := hM.1
  have hb := hM.2.1
  refine lv_istore (lv' := [(5, .int t0), (0, .ref a), (1, .int x1), (2, .int x2), (3, .int x3), (4, .int x4)]) hx hb dX13_mayPaint_43 hl (by decide) rfl (fun ls hl => ?_)
  refine lv_iload hx hb dX13_mayPaint_45 (lv_at hl 0 rfl) ?_
  refine lv_if_eq (tgt := 84) hx hb dX13_mayPaint_47 (by decide) (fun c1 => ?_) (fun c1 => ?_)
  · have hf := if_t c1 hf
    exact t_X13_mayPaint_84 (fu := fu) hM hml hr hlk hc0 hf hc _ _ hW _ (lv_sub hl [] rfl)
  · have hf := if_f c1 hf
    refine lv_aload_n hx hb dX13_mayPaint_50 rfl (lv_at hl 1 rfl) ?_
    refine b_get hM hW 11 24 hc rfl rfl (by decide) wi_X13 (wgm fk_RX13_125) (x := .ref (a + 16)) rfl dX13_mayPaint_51 ?_
    refine lv_iload_n hx hb dX13_mayPaint_54 rfl (lv_at hl 2 rfl) ?_
    refine lv_iconst (v := (2 : Int32)) hx hb dX13_mayPaint_55 (by decide) ?_
    refine lv_iadd hx hb dX13_mayPaint_56 ?_
    refine lv_topi (fun y2 ey2 => ?_)
    have hf := nm_at ey2 hf
    obtain ⟨h3, hf⟩ := ck_elim hf
    refine b_iald (n := 1518) hM hW 11 24 hc (by decide) rfl rfl rfl rfl h3 dX13_mayPaint_57 ?_
    refine lv_bipush (v := (8 : Int32)) hx hb dX13_mayPaint_58 (by decide) ?_
    refine lv_icmp_ge (tgt := 84) hx hb dX13_mayPaint_60 (by decide) (fun c4 => ?_) (fun c4 => ?_)
    · have hf := if_t c4 hf
      exact t_X13_mayPaint_84 (fu := fu) hM hml hr hlk hc0 hf hc _ _ hW _ (lv_sub hl [] rfl)
    · have hf := if_f c4 hf
      refine lv_aload_n hx hb dX13_mayPaint_63 rfl (lv_at hl 1 rfl) ?_
      refine lv_iload_n hx hb dX13_mayPaint_64 rfl (lv_at hl 3 rfl) ?_
      refine lv_iconst (v := (1 : Int32)) hx hb dX13_mayPaint_65 (by decide) ?_
      obtain ⟨r5, hr5, hf⟩ := bd_elim hf
      refine b_callVi [.int x2, .int (1 : Int32)] [] hM hml hl.1 hW hc rfl (by decide) (c_X13_thiefOf l G fu _ a v _ _ hc hr5) (cwV 2 hM.2.2.2.1 (gV mk_RX13_323 im_X13_thiefOf se_X13_thiefOf it_RX13 cd_X13_thiefOf) rfl rfl rfl (by decide +kernel) ⟨Nat.le_of_ble_eq_true rfl, Nat.le_of_ble_eq_true rfl⟩) rfl rfl (Nat.le_of_ble_eq_true rfl) ⟨Nat.zero_le _, Nat.zero_le _⟩ dX13_mayPaint_66 (fun H locs hW hk => ?_)
      refine lv_aload_n hx hb dX13_mayPaint_69 rfl (lv_at hl 1 rfl) ?_
      refine lv_iload_n hx hb dX13_mayPaint_70 rfl (lv_at hl 2 rfl) ?_
      refine lv_iload_n hx hb dX13_mayPaint_71 rfl (lv_at hl 4 rfl) ?_
      refine lv_iload hx hb dX13_mayPaint_72 (lv_at hl 5 rfl) ?_
      obtain ⟨r6, v7, hr6, hf⟩ := bd2_elim hf
      refine b_callVi [.int x1, .int x3, .int x4] [.int r5] hM hml hl.1 hW hc rfl (by decide) (c_X13_hardOf l G fu _ a v _ _ _ hc hr6) (cwV 3 hM.2.2.2.1 (gV mk_RX13_376 im_X13_hardOf se_X13_hardOf it_RX13 cd_X13_hardOf) rfl rfl rfl (by decide +kernel) ⟨Nat.le_of_ble_eq_true rfl, Nat.le_of_ble_eq_true rfl⟩) rfl rfl (Nat.le_of_ble_eq_true rfl) ⟨Nat.zero_le _, Nat.zero_le _⟩ dX13_mayPaint_74 (fun H locs hW hk => ?_)
      have hc := keep_at hc hk
      refine lv_icmp_lt (tgt := 84) hx hb dX13_mayPaint_77 (by decide) (fun c8 => ?_) (fun c8 => ?_)
      · have hf := if_t c8 hf
        exact t_X13_mayPaint_84 (fu := fu) hM hml hr hlk hc0 hf hc _ _ hW _ (lv_sub hl [] rfl)
      · have hf := if_f c8 hf
        refine lv_iconst (v := (1 : Int32)) hx hb dX13_mayPaint_80 (by decide) ?_
        refine lv_goto (tgt := 85) hx hb dX13_mayPaint_81 (by decide) ?_
        cases hf
        exact W.zret (v := (1 : Int32)) hx hb hr (by decide) (b_ret0 hW (keep_s2 hc0 hc) _) hW.2.2.2 dX13_mayPaint_85 hlk
noncomputable def f_X13_mayPaint_42 (fu : Nat)  (v : GV) (x1 : Int32) (x2 : Int32) (x3 : Int32) (x4 : Int32) : Option (Int32 × GV) :=
  f_X13_mayPaint_43 fu v x1 x2 x3 x4 (0 : Int32)
set_option maxHeartbeats 4000000 in
set_option maxRecDepth 100000 in
theorem t_X13_mayPaint_42 {G : GG} {p : Program} {l : Launch} {e : Env} {s : State} {m : MethodId} {args : Array Value} {below : List Frame} {meth : Method} {c : Code} {S : ST} {fu : Nat} {z : Int32 × GV} {a : Nat} {v0 : GV}  {v : GV} {x1 : Int32} {x2 : Int32} {x3 : Int32} {x4 : Int32} (hM : MC G p s m args c cX13_mayPaint w_X13_mayPaint RX13) (hml : c.maxLocals = 6) (hr : meth.sig.returnType = (some .boolean)) (hlk : meth.locks = false) (hc0 : gC v0 = 12)  (hf : f_X13_mayPaint_42 fu  v x1 x2 x3 x4 = some z) : gC v = 12 → ∀ (H : Heap) (locs : List Loc), WB G (st S a v) s H locs → ∀ (ls : Array Slot), lv_has ls 6 [(0, .ref a), (1, .int x1), (2, .int x2), (3, .int x3), (4, .int x4)] → W p l e RM_X13_mayPaint s m args below meth c H locs 0 0 (QR G below args s (some (.int z.1)) (st S a v0) (st S a z.2)) (F0 m 42 ls []) := by
  intro hc H locs hW ls hl
  have hx := hM.1
  have hb := hM.2.1
  refine lv_iconst (v := (0 : Int32)) hx hb dX13_mayPaint_42 (by decide) ?_
  exact t_X13_mayPaint_43 (fu := fu) hM hml hr hlk hc0 hf hc _ _ hW _ (lv_sub hl [0, 1, 2, 3, 4] rfl)
noncomputable def f_X13_mayPaint_35 (fu : Nat)  (v : GV) (x1 : Int32) (x2 : Int32) (x3 : Int32) (x4 : Int32) (t0 : Int32) (t1 : Int32) : Option (Int32 × GV) :=
  if t0 = t1 then
    (f_X13_mayPaint_43 fu v x1 x2 x3 x4 (1 : Int32))
  else
    (f_X13_mayPaint_42 fu v x1 x2 x3 x4)
set_option maxHeartbeats 4000000 in
set_option maxRecDepth 100000 in
theorem t_X13_mayPaint_35 {G : GG} {p : Program} {l : Launch} {e : Env} {s : State} {m : MethodId} {args : Array Value} {below : List Frame} {meth : Method} {c : Code} {S : ST} {fu : Nat} {z : Int32 × GV} {a : Nat} {v0 : GV}  {v : GV} {x1 : Int32} {x2 : Int32} {x3 : Int32} {x4 : Int32} {t0 : Int32} {t1 : Int32} (hM : MC G p s m args c cX13_mayPaint w_X13_mayPaint RX13) (hml : c.maxLocals = 6) (hr : meth.sig.returnType = (some .boolean)) (hlk : meth.locks = false) (hc0 : gC v0 = 12)  (hf : f_X13_mayPaint_35 fu  v x1 x2 x3 x4 t0 t1 = some z) : gC v = 12 → ∀ (H : Heap) (locs : List Loc), WB G (st S a v) s H locs → ∀ (ls : Array Slot), lv_has ls 6 [(0, .ref a), (1, .int x1), (2, .int x2), (3, .int x3), (4, .int x4)] → W p l e RM_X13_mayPaint s m args below meth c H locs 0 0 (QR G below args s (some (.int z.1)) (st S a v0) (st S a z.2)) (F0 m 35 ls [.int t1, .int t0]) := by
  intro hc H locs hW ls hl
  have hx := hM.1
  have hb := hM.2.1
  refine lv_icmp_ne (tgt := 42) hx hb dX13_mayPaint_35 (by decide) (fun c1 => ?_) (fun c1 => ?_)
  · have hf := if_f c1 hf
    exact t_X13_mayPaint_42 (fu := fu) hM hml hr hlk hc0 hf hc _ _ hW _ (lv_sub hl [0, 1, 2, 3, 4] rfl)
  · have hf := if_t c1 hf
    refine lv_iconst (v := (1 : Int32)) hx hb dX13_mayPaint_38 (by decide) ?_
    refine lv_goto (tgt := 43) hx hb dX13_mayPaint_39 (by decide) ?_
    exact t_X13_mayPaint_43 (fu := fu) hM hml hr hlk hc0 hf hc _ _ hW _ (lv_sub hl [0, 1, 2, 3, 4] rfl)
noncomputable def f_X13_mayPaint_0 (fu : Nat)  (v : GV) (x1 : Int32) (x2 : Int32) (x3 : Int32) (x4 : Int32) : Option (Int32 × GV) :=
  bd (f_X13_isPiece fu v x1 x3) fun r1 =>
  if r1 = 0 then
    (f_X13_mayPaint_42 fu v x1 x2 x3 x4)
  else
    (nm (((x1 + (11 : Int32)) + x3)) fun y3 =>
    ck (inb y3 1518) <|
    bd (f_X13_thiefOf fu v x2 (0 : Int32)) fun r5 =>
    if r5 = (3 : Int32) then
      (f_X13_mayPaint_35 fu v x1 x2 x3 x4 (gA v 24 y3.toNatClampNeg) (5 : Int32))
    else
      (f_X13_mayPaint_35 fu v x1 x2 x3 x4 (gA v 24 y3.toNatClampNeg) x2))
set_option maxHeartbeats 4000000 in
set_option maxRecDepth 100000 in
theorem t_X13_mayPaint_0 {G : GG} {p : Program} {l : Launch} {e : Env} {s : State} {m : MethodId} {args : Array Value} {below : List Frame} {meth : Method} {c : Code} {S : ST} {fu : Nat} {z : Int32 × GV} {a : Nat} {v0 : GV}  {v : GV} {x1 : Int32} {x2 : Int32} {x3 : Int32} {x4 : Int32} (hM : MC G p s m args c cX13_mayPaint w_X13_mayPaint RX13) (hml : c.maxLocals = 6) (hr : meth.sig.returnType = (some .boolean)) (hlk : meth.locks = false) (hc0 : gC v0 = 12)  (hf : f_X13_mayPaint_0 fu  v x1 x2 x3 x4 = some z) : gC v = 12 → ∀ (H : Heap) (locs : List Loc), WB G (st S a v) s H locs → ∀ (ls : Array Slot), lv_has ls 6 [(0, .ref a), (1, .int x1), (2, .int x2), (3, .int x3), (4, .int x4)] → W p l e RM_X13_mayPaint s m args below meth c H locs 0 0 (QR G below args s (some (.int z.1)) (st S a v0) (st S a z.2)) (F0 m 0 ls []) := by
  intro hc H locs hW ls hl
  have hx := hM.1
  have hb := hM.2.1
  refine lv_aload_n hx hb dX13_mayPaint_0 rfl (lv_at hl 0 rfl) ?_
  refine lv_iload_n hx hb dX13_mayPaint_1 rfl (lv_at hl 1 rfl) ?_
  refine lv_iload_n hx hb dX13_mayPaint_2 rfl (lv_at hl 3 rfl) ?_
  obtain ⟨r1, hr1, hf⟩ := bd_elim hf
  refine b_callVi [.int x1, .int x3] [] hM hml hl.1 hW hc rfl (by decide) (c_X13_isPiece l G fu _ a v _ _ hc hr1) (cwV 2 hM.2.2.2.1 (gV mk_RX13_345 im_X13_isPiece se_X13_isPiece it_RX13 cd_X13_isPiece) rfl rfl rfl (by decide +kernel) ⟨Nat.le_of_ble_eq_true rfl, Nat.le_of_ble_eq_true rfl⟩) rfl rfl (Nat.le_of_ble_eq_true rfl) ⟨Nat.zero_le _, Nat.zero_le _⟩ dX13_mayPaint_3 (fun H locs hW hk => ?_)
  refine lv_if_eq (tgt := 42) hx hb dX13_mayPaint_6 (by decide) (fun c2 => ?_) (fun c2 => ?_)
  · have hf := if_t c2 hf
    exact t_X13_mayPaint_42 (fu := fu) hM hml hr hlk hc0 hf hc _ _ hW _ (lv_sub hl [0, 1, 2, 3, 4] rfl)
  · have hf := if_f c2 hf
    refine lv_aload_n hx hb dX13_mayPaint_9 rfl (lv_at hl 0 rfl) ?_
    refine b_get hM hW 11 24 hc rfl rfl (by decide) wi_X13 (wgm fk_RX13_125) (x := .ref (a + 16)) rfl dX13_mayPaint_10 ?_
    refine lv_iload_n hx hb dX13_mayPaint_13 rfl (lv_at hl 1 rfl) ?_
    refine lv_bipush (v := (11 : Int32)) hx hb dX13_mayPaint_14 (by decide) ?_
    refine lv_iadd hx hb dX13_mayPaint_16 ?_
    refine lv_iload_n hx hb dX13_mayPaint_17 rfl (lv_at hl 3 rfl) ?_
    refine lv_iadd hx hb dX13_mayPaint_18 ?_
    refine lv_topi (fun y3 ey3 => ?_)
    have hf := nm_at ey3 hf
    obtain ⟨h4, hf⟩ := ck_elim hf
    refine b_iald (n := 1518) hM hW 11 24 hc (by decide) rfl rfl rfl rfl h4 dX13_mayPaint_19 ?_
    refine lv_aload_n hx hb dX13_mayPaint_20 rfl (lv_at hl 0 rfl) ?_
    refine lv_iload_n hx hb dX13_mayPaint_21 rfl (lv_at hl 2 rfl) ?_
    refine lv_iconst (v := (0 : Int32)) hx hb dX13_mayPaint_22 (by decide) ?_
    obtain ⟨r5, hr5, hf⟩ := bd_elim hf
    refine b_callVi [.int x2, .int (0 : Int32)] [.int (gA v 24 y3.toNatClampNeg)] hM hml hl.1 hW hc rfl (by decide) (c_X13_thiefOf l G fu _ a v _ _ hc hr5) (cwV 2 hM.2.2.2.1 (gV mk_RX13_323 im_X13_thiefOf se_X13_thiefOf it_RX13 cd_X13_thiefOf) rfl rfl rfl (by decide +kernel) ⟨Nat.le_of_ble_eq_true rfl, Nat.le_of_ble_eq_true rfl⟩) rfl rfl (Nat.le_of_ble_eq_true rfl) ⟨Nat.zero_le _, Nat.zero_le _⟩ dX13_mayPaint_23 (fun H locs hW hk => ?_)
    refine lv_iconst (v := (3 : Int32)) hx hb dX13_mayPaint_26 (by decide) ?_
    refine lv_icmp_ne (tgt := 34) hx hb dX13_mayPaint_27 (by decide) (fun c6 => ?_) (fun c6 => ?_)
    · have hf := if_f c6 hf
      refine lv_iload_n hx hb dX13_mayPaint_34 rfl (lv_at hl 2 rfl) ?_
      exact t_X13_mayPaint_35 (fu := fu) hM hml hr hlk hc0 hf hc _ _ hW _ (lv_sub hl [0, 1, 2, 3, 4] rfl)
    · have hf := if_t c6 hf
      refine lv_iconst (v := (5 : Int32)) hx hb dX13_mayPaint_30 (by decide) ?_
      refine lv_goto (tgt := 35) hx hb dX13_mayPaint_31 (by decide) ?_
      exact t_X13_mayPaint_35 (fu := fu) hM hml hr hlk hc0 hf hc _ _ hW _ (lv_sub hl [0, 1, 2, 3, 4] rfl)
noncomputable def f_X13_mayPaint (fu : Nat) (v : GV) (x1 : Int32) (x2 : Int32) (x3 : Int32) (x4 : Int32) : Option (Int32 × GV) := f_X13_mayPaint_0 fu v x1 x2 x3 x4
set_option maxHeartbeats 4000000 in
set_option maxRecDepth 100000 in
theorem c_X13_mayPaint (l : Launch) (G : GG) (fu : Nat) (S : ST) (a : Nat) (v : GV) (x1 : Int32) (x2 : Int32) (x3 : Int32) (x4 : Int32) {z : Int32} {w : GV} (hc : gC v = 12) (hf : f_X13_mayPaint fu v x1 x2 x3 x4 = some (z, w)) : Ct l yX13_mayPaint w_X13_mayPaint RM_X13_mayPaint G (st S a v) [.ref a, .int x1, .int x2, .int x3, .int x4] (some (.int z)) (st S a w) 0 0 := by
  refine Met.ofW (cc := cX13_mayPaint) (maxL := 6) (ret := (some .boolean)) (by decide) rfl ?_
  intro p e s m args below meth c s₁ B hml hv
  obtain ⟨rfl, hB, hK, hz⟩ := hv
  have hM : MC G p s m _ c cX13_mayPaint w_X13_mayPaint RX13 := ⟨B.exec, B.bytes, findClass_of_methodNamed B.named, atoms_spec (ws := w_X13_mayPaint) B.pre, hK, hz⟩
  have hW : WB G (st S a v) s s.heap [] := ⟨hB, va_S.rf⟩
  have hl := lv_entry ([.ref a, .int x1, .int x2, .int x3, .int x4]) (n := 6) (Nat.le_of_ble_eq_true rfl)
  rw [lg_entry_eq]
  generalize (lg_sl ([.ref a, .int x1, .int x2, .int x3, .int x4]) ++ List.replicate (6 - (lg_sl ([.ref a, .int x1, .int x2, .int x3, .int x4])).length) Slot.unset).toArray = ls at hl ⊢
  have hl : lv_has ls 6 [(0, .ref a), (1, .int x1), (2, .int x2), (3, .int x3), (4, .int x4)] := hl
  exact t_X13_mayPaint_0 hM hml B.returns B.notSynchronized hc hf hc _ _ hW _ (lv_sub hl [0, 1, 2, 3, 4] rfl)
abbrev w_X13_paints : List Cond := Cond.code yX13_paints cX13_paints 6 (some .int) :: wsL_law0
abbrev RM_X13_paints : Room := { frames := 0, cells := 0, slots := 0, locals := 0 }
noncomputable def f_X13_paints_0 (fu : Nat)  (v : GV) (x1 : Int32) (x2 : Int32) (x3 : Int32) (x4 : Int32) : Option (Int32 × GV) :=
  nm ((x1 + (2 : Int32))) fun y1 =>
  ck (inb y1 1518) <|
  nm ((gA v 24 y1.toNatClampNeg)) fun y3 =>
  nm (((x1 + (3 : Int32)) + x3)) fun y4 =>
  ck (inb y4 1518) <|
  nm (((gA v 24 y4.toNatClampNeg) ^^^ ((1 : Int32) <<< (x4 &&& 31)))) fun y6 =>
  ck (inb ((x1 + (3 : Int32)) + y3) 1518) <|
  nm (sA v 24 ((x1 + (3 : Int32)) + y3).toNatClampNeg y6) fun v8 =>
  ck (inb ((x1 + (11 : Int32)) + y3) 1518) <|
  nm (sA v8 24 ((x1 + (11 : Int32)) + y3).toNatClampNeg x2) fun v10 =>
  ck (inb ((x1 + (19 : Int32)) + y3) 1518) <|
  nm (sA v10 24 ((x1 + (19 : Int32)) + y3).toNatClampNeg (0 : Int32)) fun v12 =>
  ck (inb ((x1 + (27 : Int32)) + y3) 1518) <|
  nm (sA v12 24 ((x1 + (27 : Int32)) + y3).toNatClampNeg x3) fun v14 =>
  ck (inb ((x1 + (35 : Int32)) + y3) 1518) <|
  nm (sA v14 24 ((x1 + (35 : Int32)) + y3).toNatClampNeg x4) fun v16 =>
  nm ((x1 + (2 : Int32))) fun y17 =>
  ck (inb y17 1518) <|
  nm (((gA v16 24 y17.toNatClampNeg) + (1 : Int32))) fun y19 =>
  ck (inb y17 1518) <|
  nm (sA v16 24 y17.toNatClampNeg y19) fun v21 =>
  some (y3, v21)
set_option maxHeartbeats 4000000 in
set_option maxRecDepth 100000 in
theorem t_X13_paints_0 {G : GG} {p : Program} {l : Launch} {e : Env} {s : State} {m : MethodId} {args : Array Value} {below : List Frame} {meth : Method} {c : Code} {S : ST} {fu : Nat} {z : Int32 × GV} {a : Nat} {v0 : GV}  {v : GV} {x1 : Int32} {x2 : Int32} {x3 : Int32} {x4 : Int32} (hM : MC G p s m args c cX13_paints w_X13_paints RX13) (hml : c.maxLocals = 6) (hr : meth.sig.returnType = (some .int)) (hlk : meth.locks = false) (hc0 : gC v0 = 12)  (hf : f_X13_paints_0 fu  v x1 x2 x3 x4 = some z) : gC v = 12 → ∀ (H : Heap) (locs : List Loc), WB G (st S a v) s H locs → ∀ (ls : Array Slot), lv_has ls 6 [(0, .ref a), (1, .int x1), (2, .int x2), (3, .int x3), (4, .int x4)] → W p l e RM_X13_paints s m args below meth c H locs 0 0 (QR G below args s (some (.int z.1)) (st S a v0) (st S a z.2)) (F0 m 0 ls []) := by
  intro hc H locs hW ls hl
  have hx := hM.1
  have hb := hM.2.1
  refine lv_aload_n hx hb dX13_paints_0 rfl (lv_at hl 0 rfl) ?_
  refine b_get hM hW 11 24 hc rfl rfl (by decide) wi_X13 (wgm fk_RX13_125) (x := .ref (a + 16)) rfl dX13_paints_1 ?_
  refine lv_iload_n hx hb dX13_paints_4 rfl (lv_at hl 1 rfl) ?_
  refine lv_iconst (v := (2 : Int32)) hx hb dX13_paints_5 (by decide) ?_
  refine lv_iadd hx hb dX13_paints_6 ?_
  refine lv_topi (fun y1 ey1 => ?_)
  have hf := nm_at ey1 hf
  obtain ⟨h2, hf⟩ := ck_elim hf
  refine b_iald (n := 1518) hM hW 11 24 hc (by decide) rfl rfl rfl rfl h2 dX13_paints_7 ?_
  refine lv_topi (fun y3 ey3 => ?_)
  have hf := nm_at ey3 hf
  refine lv_istore (lv' := [(5, .int y3), (0, .ref a), (1, .int x1), (2, .int x2), (3, .int x3), (4, .int x4)]) hx hb dX13_paints_8 hl (by decide) rfl (fun ls hl => ?_)
  refine lv_aload_n hx hb dX13_paints_10 rfl (lv_at hl 1 rfl) ?_
  refine b_get hM hW 11 24 hc rfl rfl (by decide) wi_X13 (wgm fk_RX13_125) (x := .ref (a + 16)) rfl dX13_paints_11 ?_
  refine lv_iload_n hx hb dX13_paints_14 rfl (lv_at hl 2 rfl) ?_
  refine lv_iconst (v := (3 : Int32)) hx hb dX13_paints_15 (by decide) ?_
  refine lv_iadd hx hb dX13_paints_16 ?_
  refine lv_iload hx hb dX13_paints_17 (lv_at hl 0 rfl) ?_
  refine lv_iadd hx hb dX13_paints_19 ?_
  refine lv_aload_n hx hb dX13_paints_20 rfl (lv_at hl 1 rfl) ?_
  refine b_get hM hW 11 24 hc rfl rfl (by decide) wi_X13 (wgm fk_RX13_125) (x := .ref (a + 16)) rfl dX13_paints_21 ?_
  refine lv_iload_n hx hb dX13_paints_24 rfl (lv_at hl 2 rfl) ?_
  refine lv_iconst (v := (3 : Int32)) hx hb dX13_paints_25 (by decide) ?_
  refine lv_iadd hx hb dX13_paints_26 ?_
  refine lv_iload_n hx hb dX13_paints_27 rfl (lv_at hl 4 rfl) ?_
  refine lv_iadd hx hb dX13_paints_28 ?_
  refine lv_topi (fun y4 ey4 => ?_)
  have hf := nm_at ey4 hf
  obtain ⟨h5, hf⟩ := ck_elim hf
  refine b_iald (n := 1518) hM hW 11 24 hc (by decide) rfl rfl rfl rfl h5 dX13_paints_29 ?_
  refine lv_iconst (v := (1 : Int32)) hx hb dX13_paints_30 (by decide) ?_
  refine lv_iload hx hb dX13_paints_31 (lv_at hl 5 rfl) ?_
  refine lv_ishl hx hb dX13_paints_33 ?_
  refine lv_ixor hx hb dX13_paints_34 ?_
  refine lv_topi (fun y6 ey6 => ?_)
  have hf := nm_at ey6 hf
  obtain ⟨h7, hf⟩ := ck_elim hf
  refine b_iast (n := 1518) hM hW 11 24 hc (by decide) rfl rfl rfl rfl h7 dX13_paints_35 (fun v8 ev8 hc H locs hW => ?_)
  have hf := nm_at ev8 hf
  refine lv_aload_n hx hb dX13_paints_36 rfl (lv_at hl 1 rfl) ?_
  refine b_get hM hW 11 24 hc rfl rfl (by decide) wi_X13 (wgm fk_RX13_125) (x := .ref (a + 16)) rfl dX13_paints_37 ?_
  refine lv_iload_n hx hb dX13_paints_40 rfl (lv_at hl 2 rfl) ?_
  refine lv_bipush (v := (11 : Int32)) hx hb dX13_paints_41 (by decide) ?_
  refine lv_iadd hx hb dX13_paints_43 ?_
  refine lv_iload hx hb dX13_paints_44 (lv_at hl 0 rfl) ?_
  refine lv_iadd hx hb dX13_paints_46 ?_
  refine lv_iload_n hx hb dX13_paints_47 rfl (lv_at hl 3 rfl) ?_
  obtain ⟨h9, hf⟩ := ck_elim hf
  refine b_iast (n := 1518) hM hW 11 24 hc (by decide) rfl rfl rfl rfl h9 dX13_paints_48 (fun v10 ev10 hc H locs hW => ?_)
  have hf := nm_at ev10 hf
  refine lv_aload_n hx hb dX13_paints_49 rfl (lv_at hl 1 rfl) ?_
  refine b_get hM hW 11 24 hc rfl rfl (by decide) wi_X13 (wgm fk_RX13_125) (x := .ref (a + 16)) rfl dX13_paints_50 ?_
  refine lv_iload_n hx hb dX13_paints_53 rfl (lv_at hl 2 rfl) ?_
  refine lv_bipush (v := (19 : Int32)) hx hb dX13_paints_54 (by decide) ?_
  refine lv_iadd hx hb dX13_paints_56 ?_
  refine lv_iload hx hb dX13_paints_57 (lv_at hl 0 rfl) ?_
  refine lv_iadd hx hb dX13_paints_59 ?_
  refine lv_iconst (v := (0 : Int32)) hx hb dX13_paints_60 (by decide) ?_
  obtain ⟨h11, hf⟩ := ck_elim hf
  refine b_iast (n := 1518) hM hW 11 24 hc (by decide) rfl rfl rfl rfl h11 dX13_paints_61 (fun v12 ev12 hc H locs hW => ?_)
  have hf := nm_at ev12 hf
  refine lv_aload_n hx hb dX13_paints_62 rfl (lv_at hl 1 rfl) ?_
  refine b_get hM hW 11 24 hc rfl rfl (by decide) wi_X13 (wgm fk_RX13_125) (x := .ref (a + 16)) rfl dX13_paints_63 ?_
  refine lv_iload_n hx hb dX13_paints_66 rfl (lv_at hl 2 rfl) ?_
  refine lv_bipush (v := (27 : Int32)) hx hb dX13_paints_67 (by decide) ?_
  refine lv_iadd hx hb dX13_paints_69 ?_
  refine lv_iload hx hb dX13_paints_70 (lv_at hl 0 rfl) ?_
  refine lv_iadd hx hb dX13_paints_72 ?_
  refine lv_iload_n hx hb dX13_paints_73 rfl (lv_at hl 4 rfl) ?_
  obtain ⟨h13, hf⟩ := ck_elim hf
  refine b_iast (n := 1518) hM hW 11 24 hc (by decide) rfl rfl rfl rfl h13 dX13_paints_74 (fun v14 ev14 hc H locs hW => ?_)
  have hf := nm_at ev14 hf
  refine lv_aload_n hx hb dX13_paints_75 rfl (lv_at hl 1 rfl) ?_
  refine b_get hM hW 11 24 hc rfl rfl (by decide) wi_X13 (wgm fk_RX13_125) (x := .ref (a + 16)) rfl dX13_paints_76 ?_
  refine lv_iload_n hx hb dX13_paints_79 rfl (lv_at hl 2 rfl) ?_
  refine lv_bipush (v := (35 : Int32)) hx hb dX13_paints_80 (by decide) ?_
  refine lv_iadd hx hb dX13_paints_82 ?_
  refine lv_iload hx hb dX13_paints_83 (lv_at hl 0 rfl) ?_
  refine lv_iadd hx hb dX13_paints_85 ?_
  refine lv_iload hx hb dX13_paints_86 (lv_at hl 5 rfl) ?_
  obtain ⟨h15, hf⟩ := ck_elim hf
  refine b_iast (n := 1518) hM hW 11 24 hc (by decide) rfl rfl rfl rfl h15 dX13_paints_88 (fun v16 ev16 hc H locs hW => ?_)
  have hf := nm_at ev16 hf
  refine lv_aload_n hx hb dX13_paints_89 rfl (lv_at hl 1 rfl) ?_
  refine b_get hM hW 11 24 hc rfl rfl (by decide) wi_X13 (wgm fk_RX13_125) (x := .ref (a + 16)) rfl dX13_paints_90 ?_
  refine lv_iload_n hx hb dX13_paints_93 rfl (lv_at hl 2 rfl) ?_
  refine lv_iconst (v := (2 : Int32)) hx hb dX13_paints_94 (by decide) ?_
  refine lv_iadd hx hb dX13_paints_95 ?_
  refine lv_topi (fun y17 ey17 => ?_)
  have hf := nm_at ey17 hf
  refine lv_dup2_11 hx hb dX13_paints_96 rfl rfl ?_
  obtain ⟨h18, hf⟩ := ck_elim hf
  refine b_iald (n := 1518) hM hW 11 24 hc (by decide) rfl rfl rfl rfl h18 dX13_paints_97 ?_
  refine lv_iconst (v := (1 : Int32)) hx hb dX13_paints_98 (by decide) ?_
  refine lv_iadd hx hb dX13_paints_99 ?_
  refine lv_topi (fun y19 ey19 => ?_)
  have hf := nm_at ey19 hf
  obtain ⟨h20, hf⟩ := ck_elim hf
  refine b_iast (n := 1518) hM hW 11 24 hc (by decide) rfl rfl rfl rfl h20 dX13_paints_100 (fun v21 ev21 hc H locs hW => ?_)
  have hf := nm_at ev21 hf
  refine lv_iload hx hb dX13_paints_101 (lv_at hl 0 rfl) ?_
  cases hf
  exact W.iret hx hb hr (b_ret0 hW (keep_s2 hc0 hc) _) hW.2.2.2 dX13_paints_103 hlk
noncomputable def f_X13_paints (fu : Nat) (v : GV) (x1 : Int32) (x2 : Int32) (x3 : Int32) (x4 : Int32) : Option (Int32 × GV) := f_X13_paints_0 fu v x1 x2 x3 x4
set_option maxHeartbeats 4000000 in
set_option maxRecDepth 100000 in
theorem c_X13_paints (l : Launch) (G : GG) (fu : Nat) (S : ST) (a : Nat) (v : GV) (x1 : Int32) (x2 : Int32) (x3 : Int32) (x4 : Int32) {z : Int32} {w : GV} (hc : gC v = 12) (hf : f_X13_paints fu v x1 x2 x3 x4 = some (z, w)) : Ct l yX13_paints w_X13_paints RM_X13_paints G (st S a v) [.ref a, .int x1, .int x2, .int x3, .int x4] (some (.int z)) (st S a w) 0 0 := by
  refine Met.ofW (cc := cX13_paints) (maxL := 6) (ret := (some .int)) (by decide) rfl ?_
  intro p e s m args below meth c s₁ B hml hv
  obtain ⟨rfl, hB, hK, hz⟩ := hv
  have hM : MC G p s m _ c cX13_paints w_X13_paints RX13 := ⟨B.exec, B.bytes, findClass_of_methodNamed B.named, atoms_spec (ws := w_X13_paints) B.pre, hK, hz⟩
  have hW : WB G (st S a v) s s.heap [] := ⟨hB, va_S.rf⟩
  have hl := lv_entry ([.ref a, .int x1, .int x2, .int x3, .int x4]) (n := 6) (Nat.le_of_ble_eq_true rfl)
  rw [lg_entry_eq]
  generalize (lg_sl ([.ref a, .int x1, .int x2, .int x3, .int x4]) ++ List.replicate (6 - (lg_sl ([.ref a, .int x1, .int x2, .int x3, .int x4])).length) Slot.unset).toArray = ls at hl ⊢
  have hl : lv_has ls 6 [(0, .ref a), (1, .int x1), (2, .int x2), (3, .int x3), (4, .int x4)] := hl
  exact t_X13_paints_0 hM hml B.returns B.notSynchronized hc hf hc _ _ hW _ (lv_sub hl [0, 1, 2, 3, 4] rfl)
abbrev w_X13_paint : List Cond := Cond.code yX13_paint cX13_paint 4 (some .int) :: wsL_law0
abbrev RM_X13_paint : Room := { frames := 4, cells := 0, slots := 0, locals := 94 }
noncomputable def f_X13_paint_32 (fu : Nat)  (v : GV) : Option (Int32 × GV) :=
  some ((-1 : Int32), v)
set_option maxHeartbeats 4000000 in
set_option maxRecDepth 100000 in
theorem t_X13_paint_32 {G : GG} {p : Program} {l : Launch} {e : Env} {s : State} {m : MethodId} {args : Array Value} {below : List Frame} {meth : Method} {c : Code} {S : ST} {fu : Nat} {z : Int32 × GV} {a : Nat} {v0 : GV}  {v : GV} (hM : MC G p s m args c cX13_paint w_X13_paint RX13) (hml : c.maxLocals = 4) (hr : meth.sig.returnType = (some .int)) (hlk : meth.locks = false) (hc0 : gC v0 = 12)  (hf : f_X13_paint_32 fu  v  = some z) : gC v = 12 → ∀ (H : Heap) (locs : List Loc), WB G (st S a v) s H locs → ∀ (ls : Array Slot), lv_has ls 4 [] → W p l e RM_X13_paint s m args below meth c H locs 0 0 (QR G below args s (some (.int z.1)) (st S a v0) (st S a z.2)) (F0 m 32 ls []) := by
  intro hc H locs hW ls hl
  have hx := hM.1
  have hb := hM.2.1
  refine lv_iconst (v := (-1 : Int32)) hx hb dX13_paint_32 (by decide) ?_
  cases hf
  exact W.iret hx hb hr (b_ret0 hW (keep_s2 hc0 hc) _) hW.2.2.2 dX13_paint_33 hlk
noncomputable def f_X13_paint_0 (fu : Nat)  (v : GV) (x1 : Int32) (x2 : Int32) (x3 : Int32) : Option (Int32 × GV) :=
  nm (sI v 0 (0 : Int32)) fun v1 =>
  bd (f_X13_isThief fu v1 x1) fun r2 =>
  if r2 = 0 then
    (f_X13_paint_32 fu v1)
  else
    (bd (f_X13_isSpot fu v1 x3) fun r4 =>
    if r4 = 0 then
      (f_X13_paint_32 fu v1)
    else
      (bd2 (f_X13_mayPaint fu v1 (0 : Int32) x1 x2 x3) fun r6 v7 =>
      if r6 = 0 then
        (f_X13_paint_32 fu v7)
      else
        (bd (f_X13_keeps fu v7) fun v10 =>
        bd2 (f_X13_paints fu v10 (0 : Int32) x1 x2 x3) fun r11 v12 =>
        some (r11, v12))))
set_option maxHeartbeats 4000000 in
set_option maxRecDepth 100000 in
theorem t_X13_paint_0 {G : GG} {p : Program} {l : Launch} {e : Env} {s : State} {m : MethodId} {args : Array Value} {below : List Frame} {meth : Method} {c : Code} {S : ST} {fu : Nat} {z : Int32 × GV} {a : Nat} {v0 : GV}  {v : GV} {x1 : Int32} {x2 : Int32} {x3 : Int32} (hM : MC G p s m args c cX13_paint w_X13_paint RX13) (hml : c.maxLocals = 4) (hr : meth.sig.returnType = (some .int)) (hlk : meth.locks = false) (hc0 : gC v0 = 12)  (hf : f_X13_paint_0 fu  v x1 x2 x3 = some z) : gC v = 12 → ∀ (H : Heap) (locs : List Loc), WB G (st S a v) s H locs → ∀ (ls : Array Slot), lv_has ls 4 [(0, .ref a), (1, .int x1), (2, .int x2), (3, .int x3)] → W p l e RM_X13_paint s m args below meth c H locs 0 0 (QR G below args s (some (.int z.1)) (st S a v0) (st S a z.2)) (F0 m 0 ls []) := by
  intro hc H locs hW ls hl
  have hx := hM.1
  have hb := hM.2.1
  refine lv_aload_n hx hb dX13_paint_0 rfl (lv_at hl 0 rfl) ?_
  refine lv_iconst (v := (0 : Int32)) hx hb dX13_paint_1 (by decide) ?_
  refine b_putI hM hW 11 0 hc rfl rfl (by decide) wi_X13 tyX13 tyX13_ok nmX13 (wgm fk_RX13_1) rfl rfl rfl dX13_paint_2 (fun v1 ev1 hc H locs hW => ?_)
  have hf := nm_at ev1 hf
  refine lv_aload_n hx hb dX13_paint_5 rfl (lv_at hl 0 rfl) ?_
  refine lv_iload_n hx hb dX13_paint_6 rfl (lv_at hl 1 rfl) ?_
  obtain ⟨r2, hr2, hf⟩ := bd_elim hf
  refine b_callVi [.int x1] [] hM hml hl.1 hW hc rfl (by decide) (c_X13_isThief l G fu _ a v1 _ hc hr2) (cwV 1 hM.2.2.2.1 (gV mk_RX13_355 im_X13_isThief se_X13_isThief it_RX13 cd_X13_isThief) rfl rfl rfl (by decide +kernel) ⟨Nat.le_of_ble_eq_true rfl, Nat.le_of_ble_eq_true rfl⟩) rfl rfl (Nat.le_of_ble_eq_true rfl) ⟨Nat.zero_le _, Nat.zero_le _⟩ dX13_paint_7 (fun H locs hW hk => ?_)
  refine lv_if_eq (tgt := 32) hx hb dX13_paint_10 (by decide) (fun c3 => ?_) (fun c3 => ?_)
  · have hf := if_t c3 hf
    exact t_X13_paint_32 (fu := fu) hM hml hr hlk hc0 hf hc _ _ hW _ (lv_sub hl [] rfl)
  · have hf := if_f c3 hf
    refine lv_aload_n hx hb dX13_paint_13 rfl (lv_at hl 0 rfl) ?_
    refine lv_iload_n hx hb dX13_paint_14 rfl (lv_at hl 3 rfl) ?_
    obtain ⟨r4, hr4, hf⟩ := bd_elim hf
    refine b_callVi [.int x3] [] hM hml hl.1 hW hc rfl (by decide) (c_X13_isSpot l G fu _ a v1 _ hc hr4) (cwV 1 hM.2.2.2.1 (gV mk_RX13_379 im_X13_isSpot se_X13_isSpot it_RX13 cd_X13_isSpot) rfl rfl rfl (by decide +kernel) ⟨Nat.le_of_ble_eq_true rfl, Nat.le_of_ble_eq_true rfl⟩) rfl rfl (Nat.le_of_ble_eq_true rfl) ⟨Nat.zero_le _, Nat.zero_le _⟩ dX13_paint_15 (fun H locs hW hk => ?_)
    refine lv_if_eq (tgt := 32) hx hb dX13_paint_18 (by decide) (fun c5 => ?_) (fun c5 => ?_)
    · have hf := if_t c5 hf
      exact t_X13_paint_32 (fu := fu) hM hml hr hlk hc0 hf hc _ _ hW _ (lv_sub hl [] rfl)
    · have hf := if_f c5 hf
      refine lv_aload_n hx hb dX13_paint_21 rfl (lv_at hl 0 rfl) ?_
      refine lv_iconst (v := (0 : Int32)) hx hb dX13_paint_22 (by decide) ?_
      refine lv_iload_n hx hb dX13_paint_23 rfl (lv_at hl 1 rfl) ?_
      refine lv_iload_n hx hb dX13_paint_24 rfl (lv_at hl 2 rfl) ?_
      refine lv_iload_n hx hb dX13_paint_25 rfl (lv_at hl 3 rfl) ?_
      obtain ⟨r6, v7, hr6, hf⟩ := bd2_elim hf
      refine b_callVi [.int (0 : Int32), .int x1, .int x2, .int x3] [] hM hml hl.1 hW hc rfl (by decide) (c_X13_mayPaint l G fu _ a v1 _ _ _ _ hc hr6) (cwV 4 hM.2.2.2.1 (gV mk_RX13_382 im_X13_mayPaint se_X13_mayPaint it_RX13 cd_X13_mayPaint) rfl rfl rfl (by decide +kernel) ⟨Nat.le_of_ble_eq_true rfl, Nat.le_of_ble_eq_true rfl⟩) rfl rfl (Nat.le_of_ble_eq_true rfl) ⟨Nat.zero_le _, Nat.zero_le _⟩ dX13_paint_26 (fun H locs hW hk => ?_)
      have hc := keep_at hc hk
      refine lv_if_ne (tgt := 34) hx hb dX13_paint_29 (by decide) (fun c8 => ?_) (fun c8 => ?_)
      · have hf := if_f c8 hf
        refine lv_aload_n hx hb dX13_paint_34 rfl (lv_at hl 0 rfl) ?_
        obtain ⟨v10, hr9, hf⟩ := bd_elim hf
        refine b_callVv [] [] hM hml hl.1 hW hc rfl (by decide) (c_X13_keeps l G fu _ a v7 hc hr9) (cwV 0 hM.2.2.2.1 (gV mk_RX13_370 im_X13_keeps se_X13_keeps it_RX13 cd_X13_keeps) rfl rfl rfl (by decide +kernel) ⟨Nat.le_of_ble_eq_true rfl, Nat.le_of_ble_eq_true rfl⟩) rfl rfl (Nat.le_of_ble_eq_true rfl) ⟨Nat.zero_le _, Nat.zero_le _⟩ dX13_paint_35 (fun H locs hW hk => ?_)
        have hc := keep_at hc hk
        refine lv_aload_n hx hb dX13_paint_38 rfl (lv_at hl 0 rfl) ?_
        refine lv_iconst (v := (0 : Int32)) hx hb dX13_paint_39 (by decide) ?_
        refine lv_iload_n hx hb dX13_paint_40 rfl (lv_at hl 1 rfl) ?_
        refine lv_iload_n hx hb dX13_paint_41 rfl (lv_at hl 2 rfl) ?_
        refine lv_iload_n hx hb dX13_paint_42 rfl (lv_at hl 3 rfl) ?_
        obtain ⟨r11, v12, hr11, hf⟩ := bd2_elim hf
        refine b_callVi [.int (0 : Int32), .int x1, .int x2, .int x3] [] hM hml hl.1 hW hc rfl (by decide) (c_X13_paints l G fu _ a v10 _ _ _ _ hc hr11) (cwV 4 hM.2.2.2.1 (gV mk_RX13_386 im_X13_paints se_X13_paints it_RX13 cd_X13_paints) rfl rfl rfl (by decide +kernel) ⟨Nat.le_of_ble_eq_true rfl, Nat.le_of_ble_eq_true rfl⟩) rfl rfl (Nat.le_of_ble_eq_true rfl) ⟨Nat.zero_le _, Nat.zero_le _⟩ dX13_paint_43 (fun H locs hW hk => ?_)
        have hc := keep_at hc hk
        cases hf
        exact W.iret hx hb hr (b_ret0 hW (keep_s2 hc0 hc) _) hW.2.2.2 dX13_paint_46 hlk
      · have hf := if_t c8 hf
        exact t_X13_paint_32 (fu := fu) hM hml hr hlk hc0 hf hc _ _ hW _ (lv_sub hl [] rfl)
noncomputable def f_X13_paint (fu : Nat) (v : GV) (x1 : Int32) (x2 : Int32) (x3 : Int32) : Option (Int32 × GV) := f_X13_paint_0 fu v x1 x2 x3
set_option maxHeartbeats 4000000 in
set_option maxRecDepth 100000 in
theorem c_X13_paint (l : Launch) (G : GG) (fu : Nat) (S : ST) (a : Nat) (v : GV) (x1 : Int32) (x2 : Int32) (x3 : Int32) {z : Int32} {w : GV} (hc : gC v = 12) (hf : f_X13_paint fu v x1 x2 x3 = some (z, w)) : Ct l yX13_paint w_X13_paint RM_X13_paint G (st S a v) [.ref a, .int x1, .int x2, .int x3] (some (.int z)) (st S a w) 0 0 := by
  refine Met.ofW (cc := cX13_paint) (maxL := 4) (ret := (some .int)) (by decide) rfl ?_
  intro p e s m args below meth c s₁ B hml hv
  obtain ⟨rfl, hB, hK, hz⟩ := hv
  have hM : MC G p s m _ c cX13_paint w_X13_paint RX13 := ⟨B.exec, B.bytes, findClass_of_methodNamed B.named, atoms_spec (ws := w_X13_paint) B.pre, hK, hz⟩
  have hW : WB G (st S a v) s s.heap [] := ⟨hB, va_S.rf⟩
  have hl := lv_entry ([.ref a, .int x1, .int x2, .int x3]) (n := 4) (Nat.le_of_ble_eq_true rfl)
  rw [lg_entry_eq]
  generalize (lg_sl ([.ref a, .int x1, .int x2, .int x3]) ++ List.replicate (4 - (lg_sl ([.ref a, .int x1, .int x2, .int x3])).length) Slot.unset).toArray = ls at hl ⊢
  have hl : lv_has ls 4 [(0, .ref a), (1, .int x1), (2, .int x2), (3, .int x3)] := hl
  exact t_X13_paint_0 hM hml B.returns B.notSynchronized hc hf hc _ _ hW _ (lv_sub hl [0, 1, 2, 3] rfl)
abbrev w_X13_sells : List Cond := Cond.code yX13_sells cX13_sells 5 (some .int) :: wsL_law0
abbrev RM_X13_sells : Room := { frames := 3, cells := 0, slots := 0, locals := 69 }
noncomputable def f_X13_sells_0 (fu : Nat)  (v : GV) (x1 : Int32) (x2 : Int32) (x3 : Int32) : Option (Int32 × GV) :=
  bd2 (f_X13_worthOf fu v x1 x3) fun r1 v2 =>
  ck (inb ((x1 + (11 : Int32)) + x3) 1518) <|
  nm (sA v2 24 ((x1 + (11 : Int32)) + x3).toNatClampNeg (6 : Int32)) fun v4 =>
  nm (((x1 + (43 : Int32)) + x2)) fun y5 =>
  ck (inb y5 1518) <|
  nm (((gA v4 24 y5.toNatClampNeg) + r1)) fun y7 =>
  ck (inb y5 1518) <|
  nm (sA v4 24 y5.toNatClampNeg y7) fun v9 =>
  some (r1, v9)
set_option maxHeartbeats 4000000 in
set_option maxRecDepth 100000 in
theorem t_X13_sells_0 {G : GG} {p : Program} {l : Launch} {e : Env} {s : State} {m : MethodId} {args : Array Value} {below : List Frame} {meth : Method} {c : Code} {S : ST} {fu : Nat} {z : Int32 × GV} {a : Nat} {v0 : GV}  {v : GV} {x1 : Int32} {x2 : Int32} {x3 : Int32} (hM : MC G p s m args c cX13_sells w_X13_sells RX13) (hml : c.maxLocals = 5) (hr : meth.sig.returnType = (some .int)) (hlk : meth.locks = false) (hc0 : gC v0 = 12)  (hf : f_X13_sells_0 fu  v x1 x2 x3 = some z) : gC v = 12 → ∀ (H : Heap) (locs : List Loc), WB G (st S a v) s H locs → ∀ (ls : Array Slot), lv_has ls 5 [(0, .ref a), (1, .int x1), (2, .int x2), (3, .int x3)] → W p l e RM_X13_sells s m args below meth c H locs 0 0 (QR G below args s (some (.int z.1)) (st S a v0) (st S a z.2)) (F0 m 0 ls []) := by
  intro hc H locs hW ls hl
  have hx := hM.1
  have hb := hM.2.1
  refine lv_aload_n hx hb dX13_sells_0 rfl (lv_at hl 0 rfl) ?_
  refine lv_iload_n hx hb dX13_sells_1 rfl (lv_at hl 1 rfl) ?_
  refine lv_iload_n hx hb dX13_sells_2 rfl (lv_at hl 3 rfl) ?_
  obtain ⟨r1, v2, hr1, hf⟩ := bd2_elim hf
  refine b_callVi [.int x1, .int x3] [] hM hml hl.1 hW hc rfl (by decide) (c_X13_worthOf l G fu _ a v _ _ hc hr1) (cwV 2 hM.2.2.2.1 (gV mk_RX13_349 im_X13_worthOf se_X13_worthOf it_RX13 cd_X13_worthOf) rfl rfl rfl (by decide +kernel) ⟨Nat.le_of_ble_eq_true rfl, Nat.le_of_ble_eq_true rfl⟩) rfl rfl (Nat.le_of_ble_eq_true rfl) ⟨Nat.zero_le _, Nat.zero_le _⟩ dX13_sells_3 (fun H locs hW hk => ?_)
  have hc := keep_at hc hk
  refine lv_istore (lv' := [(4, .int r1), (0, .ref a), (1, .int x1), (2, .int x2), (3, .int x3)]) hx hb dX13_sells_6 hl (by decide) rfl (fun ls hl => ?_)
  refine lv_aload_n hx hb dX13_sells_8 rfl (lv_at hl 1 rfl) ?_
  refine b_get hM hW 11 24 hc rfl rfl (by decide) wi_X13 (wgm fk_RX13_125) (x := .ref (a + 16)) rfl dX13_sells_9 ?_
  refine lv_iload_n hx hb dX13_sells_12 rfl (lv_at hl 2 rfl) ?_
  refine lv_bipush (v := (11 : Int32)) hx hb dX13_sells_13 (by decide) ?_
  refine lv_iadd hx hb dX13_sells_15 ?_
  refine lv_iload_n hx hb dX13_sells_16 rfl (lv_at hl 4 rfl) ?_
  refine lv_iadd hx hb dX13_sells_17 ?_
  refine lv_bipush (v := (6 : Int32)) hx hb dX13_sells_18 (by decide) ?_
  obtain ⟨h3, hf⟩ := ck_elim hf
  refine b_iast (n := 1518) hM hW 11 24 hc (by decide) rfl rfl rfl rfl h3 dX13_sells_20 (fun v4 ev4 hc H locs hW => ?_)
  have hf := nm_at ev4 hf
  refine lv_aload_n hx hb dX13_sells_21 rfl (lv_at hl 1 rfl) ?_
  refine b_get hM hW 11 24 hc rfl rfl (by decide) wi_X13 (wgm fk_RX13_125) (x := .ref (a + 16)) rfl dX13_sells_22 ?_
  refine lv_iload_n hx hb dX13_sells_25 rfl (lv_at hl 2 rfl) ?_
  refine lv_bipush (v := (43 : Int32)) hx hb dX13_sells_26 (by decide) ?_
  refine lv_iadd hx hb dX13_sells_28 ?_
  refine lv_iload_n hx hb dX13_sells_29 rfl (lv_at hl 3 rfl) ?_
  refine lv_iadd hx hb dX13_sells_30 ?_
  refine lv_topi (fun y5 ey5 => ?_)
  have hf := nm_at ey5 hf
  refine lv_dup2_11 hx hb dX13_sells_31 rfl rfl ?_
  obtain ⟨h6, hf⟩ := ck_elim hf
  refine b_iald (n := 1518) hM hW 11 24 hc (by decide) rfl rfl rfl rfl h6 dX13_sells_32 ?_
  refine lv_iload hx hb dX13_sells_33 (lv_at hl 0 rfl) ?_
  refine lv_iadd hx hb dX13_sells_35 ?_
  refine lv_topi (fun y7 ey7 => ?_)
  have hf := nm_at ey7 hf
  obtain ⟨h8, hf⟩ := ck_elim hf
  refine b_iast (n := 1518) hM hW 11 24 hc (by decide) rfl rfl rfl rfl h8 dX13_sells_36 (fun v9 ev9 hc H locs hW => ?_)
  have hf := nm_at ev9 hf
  refine lv_iload hx hb dX13_sells_37 (lv_at hl 0 rfl) ?_
  cases hf
  exact W.iret hx hb hr (b_ret0 hW (keep_s2 hc0 hc) _) hW.2.2.2 dX13_sells_39 hlk
noncomputable def f_X13_sells (fu : Nat) (v : GV) (x1 : Int32) (x2 : Int32) (x3 : Int32) : Option (Int32 × GV) := f_X13_sells_0 fu v x1 x2 x3
set_option maxHeartbeats 4000000 in
set_option maxRecDepth 100000 in
theorem c_X13_sells (l : Launch) (G : GG) (fu : Nat) (S : ST) (a : Nat) (v : GV) (x1 : Int32) (x2 : Int32) (x3 : Int32) {z : Int32} {w : GV} (hc : gC v = 12) (hf : f_X13_sells fu v x1 x2 x3 = some (z, w)) : Ct l yX13_sells w_X13_sells RM_X13_sells G (st S a v) [.ref a, .int x1, .int x2, .int x3] (some (.int z)) (st S a w) 0 0 := by
  refine Met.ofW (cc := cX13_sells) (maxL := 5) (ret := (some .int)) (by decide) rfl ?_
  intro p e s m args below meth c s₁ B hml hv
  obtain ⟨rfl, hB, hK, hz⟩ := hv
  have hM : MC G p s m _ c cX13_sells w_X13_sells RX13 := ⟨B.exec, B.bytes, findClass_of_methodNamed B.named, atoms_spec (ws := w_X13_sells) B.pre, hK, hz⟩
  have hW : WB G (st S a v) s s.heap [] := ⟨hB, va_S.rf⟩
  have hl := lv_entry ([.ref a, .int x1, .int x2, .int x3]) (n := 5) (Nat.le_of_ble_eq_true rfl)
  rw [lg_entry_eq]
  generalize (lg_sl ([.ref a, .int x1, .int x2, .int x3]) ++ List.replicate (5 - (lg_sl ([.ref a, .int x1, .int x2, .int x3])).length) Slot.unset).toArray = ls at hl ⊢
  have hl : lv_has ls 5 [(0, .ref a), (1, .int x1), (2, .int x2), (3, .int x3)] := hl
  exact t_X13_sells_0 hM hml B.returns B.notSynchronized hc hf hc _ _ hW _ (lv_sub hl [0, 1, 2, 3] rfl)
abbrev w_X13_sell : List Cond := Cond.code yX13_sell cX13_sell 3 (some .int) :: wsL_law0
abbrev RM_X13_sell : Room := { frames := 4, cells := 0, slots := 0, locals := 93 }
noncomputable def f_X13_sell_23 (fu : Nat)  (v : GV) : Option (Int32 × GV) :=
  some ((-1 : Int32), v)
set_option maxHeartbeats 4000000 in
set_option maxRecDepth 100000 in
theorem t_X13_sell_23 {G : GG} {p : Program} {l : Launch} {e : Env} {s : State} {m : MethodId} {args : Array Value} {below : List Frame} {meth : Method} {c : Code} {S : ST} {fu : Nat} {z : Int32 × GV} {a : Nat} {v0 : GV}  {v : GV} (hM : MC G p s m args c cX13_sell w_X13_sell RX13) (hml : c.maxLocals = 3) (hr : meth.sig.returnType = (some .int)) (hlk : meth.locks = false) (hc0 : gC v0 = 12)  (hf : f_X13_sell_23 fu  v  = some z) : gC v = 12 → ∀ (H : Heap) (locs : List Loc), WB G (st S a v) s H locs → ∀ (ls : Array Slot), lv_has ls 3 [] → W p l e RM_X13_sell s m args below meth c H locs 0 0 (QR G below args s (some (.int z.1)) (st S a v0) (st S a z.2)) (F0 m 23 ls []) := by
  intro hc H locs hW ls hl
  have hx := hM.1
  have hb := hM.2.1
  refine lv_iconst (v := (-1 : Int32)) hx hb dX13_sell_23 (by decide) ?_
  cases hf
  exact W.iret hx hb hr (b_ret0 hW (keep_s2 hc0 hc) _) hW.2.2.2 dX13_sell_24 hlk
noncomputable def f_X13_sell_0 (fu : Nat)  (v : GV) (x1 : Int32) (x2 : Int32) : Option (Int32 × GV) :=
  nm (sI v 0 (0 : Int32)) fun v1 =>
  bd (f_X13_isThief fu v1 x1) fun r2 =>
  if r2 = 0 then
    (f_X13_sell_23 fu v1)
  else
    (bd (f_X13_hasIt fu v1 (0 : Int32) x1 x2) fun r4 =>
    if r4 = 0 then
      (f_X13_sell_23 fu v1)
    else
      (bd (f_X13_keeps fu v1) fun v7 =>
      bd2 (f_X13_sells fu v7 (0 : Int32) x1 x2) fun r8 v9 =>
      some (r8, v9)))
set_option maxHeartbeats 4000000 in
set_option maxRecDepth 100000 in
theorem t_X13_sell_0 {G : GG} {p : Program} {l : Launch} {e : Env} {s : State} {m : MethodId} {args : Array Value} {below : List Frame} {meth : Method} {c : Code} {S : ST} {fu : Nat} {z : Int32 × GV} {a : Nat} {v0 : GV}  {v : GV} {x1 : Int32} {x2 : Int32} (hM : MC G p s m args c cX13_sell w_X13_sell RX13) (hml : c.maxLocals = 3) (hr : meth.sig.returnType = (some .int)) (hlk : meth.locks = false) (hc0 : gC v0 = 12)  (hf : f_X13_sell_0 fu  v x1 x2 = some z) : gC v = 12 → ∀ (H : Heap) (locs : List Loc), WB G (st S a v) s H locs → ∀ (ls : Array Slot), lv_has ls 3 [(0, .ref a), (1, .int x1), (2, .int x2)] → W p l e RM_X13_sell s m args below meth c H locs 0 0 (QR G below args s (some (.int z.1)) (st S a v0) (st S a z.2)) (F0 m 0 ls []) := by
  intro hc H locs hW ls hl
  have hx := hM.1
  have hb := hM.2.1
  refine lv_aload_n hx hb dX13_sell_0 rfl (lv_at hl 0 rfl) ?_
  refine lv_iconst (v := (0 : Int32)) hx hb dX13_sell_1 (by decide) ?_
  refine b_putI hM hW 11 0 hc rfl rfl (by decide) wi_X13 tyX13 tyX13_ok nmX13 (wgm fk_RX13_1) rfl rfl rfl dX13_sell_2 (fun v1 ev1 hc H locs hW => ?_)
  have hf := nm_at ev1 hf
  refine lv_aload_n hx hb dX13_sell_5 rfl (lv_at hl 0 rfl) ?_
  refine lv_iload_n hx hb dX13_sell_6 rfl (lv_at hl 1 rfl) ?_
  obtain ⟨r2, hr2, hf⟩ := bd_elim hf
  refine b_callVi [.int x1] [] hM hml hl.1 hW hc rfl (by decide) (c_X13_isThief l G fu _ a v1 _ hc hr2) (cwV 1 hM.2.2.2.1 (gV mk_RX13_355 im_X13_isThief se_X13_isThief it_RX13 cd_X13_isThief) rfl rfl rfl (by decide +kernel) ⟨Nat.le_of_ble_eq_true rfl, Nat.le_of_ble_eq_true rfl⟩) rfl rfl (Nat.le_of_ble_eq_true rfl) ⟨Nat.zero_le _, Nat.zero_le _⟩ dX13_sell_7 (fun H locs hW hk => ?_)
  refine lv_if_eq (tgt := 23) hx hb dX13_sell_10 (by decide) (fun c3 => ?_) (fun c3 => ?_)
  · have hf := if_t c3 hf
    exact t_X13_sell_23 (fu := fu) hM hml hr hlk hc0 hf hc _ _ hW _ (lv_sub hl [] rfl)
  · have hf := if_f c3 hf
    refine lv_aload_n hx hb dX13_sell_13 rfl (lv_at hl 0 rfl) ?_
    refine lv_iconst (v := (0 : Int32)) hx hb dX13_sell_14 (by decide) ?_
    refine lv_iload_n hx hb dX13_sell_15 rfl (lv_at hl 1 rfl) ?_
    refine lv_iload_n hx hb dX13_sell_16 rfl (lv_at hl 2 rfl) ?_
    obtain ⟨r4, hr4, hf⟩ := bd_elim hf
    refine b_callVi [.int (0 : Int32), .int x1, .int x2] [] hM hml hl.1 hW hc rfl (by decide) (c_X13_hasIt l G fu _ a v1 _ _ _ hc hr4) (cwV 3 hM.2.2.2.1 (gV mk_RX13_361 im_X13_hasIt se_X13_hasIt it_RX13 cd_X13_hasIt) rfl rfl rfl (by decide +kernel) ⟨Nat.le_of_ble_eq_true rfl, Nat.le_of_ble_eq_true rfl⟩) rfl rfl (Nat.le_of_ble_eq_true rfl) ⟨Nat.zero_le _, Nat.zero_le _⟩ dX13_sell_17 (fun H locs hW hk => ?_)
    refine lv_if_ne (tgt := 25) hx hb dX13_sell_20 (by decide) (fun c5 => ?_) (fun c5 => ?_)
    · have hf := if_f c5 hf
      refine lv_aload_n hx hb dX13_sell_25 rfl (lv_at hl 0 rfl) ?_
      obtain ⟨v7, hr6, hf⟩ := bd_elim hf
      refine b_callVv [] [] hM hml hl.1 hW hc rfl (by decide) (c_X13_keeps l G fu _ a v1 hc hr6) (cwV 0 hM.2.2.2.1 (gV mk_RX13_370 im_X13_keeps se_X13_keeps it_RX13 cd_X13_keeps) rfl rfl rfl (by decide +kernel) ⟨Nat.le_of_ble_eq_true rfl, Nat.le_of_ble_eq_true rfl⟩) rfl rfl (Nat.le_of_ble_eq_true rfl) ⟨Nat.zero_le _, Nat.zero_le _⟩ dX13_sell_26 (fun H locs hW hk => ?_)
      have hc := keep_at hc hk
      refine lv_aload_n hx hb dX13_sell_29 rfl (lv_at hl 0 rfl) ?_
      refine lv_iconst (v := (0 : Int32)) hx hb dX13_sell_30 (by decide) ?_
      refine lv_iload_n hx hb dX13_sell_31 rfl (lv_at hl 1 rfl) ?_
      refine lv_iload_n hx hb dX13_sell_32 rfl (lv_at hl 2 rfl) ?_
      obtain ⟨r8, v9, hr8, hf⟩ := bd2_elim hf
      refine b_callVi [.int (0 : Int32), .int x1, .int x2] [] hM hml hl.1 hW hc rfl (by decide) (c_X13_sells l G fu _ a v7 _ _ _ hc hr8) (cwV 3 hM.2.2.2.1 (gV mk_RX13_390 im_X13_sells se_X13_sells it_RX13 cd_X13_sells) rfl rfl rfl (by decide +kernel) ⟨Nat.le_of_ble_eq_true rfl, Nat.le_of_ble_eq_true rfl⟩) rfl rfl (Nat.le_of_ble_eq_true rfl) ⟨Nat.zero_le _, Nat.zero_le _⟩ dX13_sell_33 (fun H locs hW hk => ?_)
      have hc := keep_at hc hk
      cases hf
      exact W.iret hx hb hr (b_ret0 hW (keep_s2 hc0 hc) _) hW.2.2.2 dX13_sell_36 hlk
    · have hf := if_t c5 hf
      exact t_X13_sell_23 (fu := fu) hM hml hr hlk hc0 hf hc _ _ hW _ (lv_sub hl [] rfl)
noncomputable def f_X13_sell (fu : Nat) (v : GV) (x1 : Int32) (x2 : Int32) : Option (Int32 × GV) := f_X13_sell_0 fu v x1 x2
set_option maxHeartbeats 4000000 in
set_option maxRecDepth 100000 in
theorem c_X13_sell (l : Launch) (G : GG) (fu : Nat) (S : ST) (a : Nat) (v : GV) (x1 : Int32) (x2 : Int32) {z : Int32} {w : GV} (hc : gC v = 12) (hf : f_X13_sell fu v x1 x2 = some (z, w)) : Ct l yX13_sell w_X13_sell RM_X13_sell G (st S a v) [.ref a, .int x1, .int x2] (some (.int z)) (st S a w) 0 0 := by
  refine Met.ofW (cc := cX13_sell) (maxL := 3) (ret := (some .int)) (by decide) rfl ?_
  intro p e s m args below meth c s₁ B hml hv
  obtain ⟨rfl, hB, hK, hz⟩ := hv
  have hM : MC G p s m _ c cX13_sell w_X13_sell RX13 := ⟨B.exec, B.bytes, findClass_of_methodNamed B.named, atoms_spec (ws := w_X13_sell) B.pre, hK, hz⟩
  have hW : WB G (st S a v) s s.heap [] := ⟨hB, va_S.rf⟩
  have hl := lv_entry ([.ref a, .int x1, .int x2]) (n := 3) (Nat.le_of_ble_eq_true rfl)
  rw [lg_entry_eq]
  generalize (lg_sl ([.ref a, .int x1, .int x2]) ++ List.replicate (3 - (lg_sl ([.ref a, .int x1, .int x2])).length) Slot.unset).toArray = ls at hl ⊢
  have hl : lv_has ls 3 [(0, .ref a), (1, .int x1), (2, .int x2)] := hl
  exact t_X13_sell_0 hM hml B.returns B.notSynchronized hc hf hc _ _ hW _ (lv_sub hl [0, 1, 2] rfl)
abbrev w_X13_guard : List Cond := Cond.code yX13_guard cX13_guard 2 (some .boolean) :: wsL_law0
abbrev RM_X13_guard : Room := { frames := 2, cells := 0, slots := 0, locals := 45 }
noncomputable def f_X13_guard_29 (fu : Nat)  (v : GV) : Option (Int32 × GV) :=
  some ((0 : Int32), v)
set_option maxHeartbeats 4000000 in
set_option maxRecDepth 100000 in
theorem t_X13_guard_29 {G : GG} {p : Program} {l : Launch} {e : Env} {s : State} {m : MethodId} {args : Array Value} {below : List Frame} {meth : Method} {c : Code} {S : ST} {fu : Nat} {z : Int32 × GV} {a : Nat} {v0 : GV}  {v : GV} (hM : MC G p s m args c cX13_guard w_X13_guard RX13) (hml : c.maxLocals = 2) (hr : meth.sig.returnType = (some .boolean)) (hlk : meth.locks = false) (hc0 : gC v0 = 12)  (hf : f_X13_guard_29 fu  v  = some z) : gC v = 12 → ∀ (H : Heap) (locs : List Loc), WB G (st S a v) s H locs → ∀ (ls : Array Slot), lv_has ls 2 [] → W p l e RM_X13_guard s m args below meth c H locs 0 0 (QR G below args s (some (.int z.1)) (st S a v0) (st S a z.2)) (F0 m 29 ls []) := by
  intro hc H locs hW ls hl
  have hx := hM.1
  have hb := hM.2.1
  refine lv_iconst (v := (0 : Int32)) hx hb dX13_guard_29 (by decide) ?_
  cases hf
  exact W.zret (v := (0 : Int32)) hx hb hr (by decide) (b_ret0 hW (keep_s2 hc0 hc) _) hW.2.2.2 dX13_guard_30 hlk
noncomputable def f_X13_guard_0 (fu : Nat)  (v : GV) (x1 : Int32) : Option (Int32 × GV) :=
  nm (sI v 0 (0 : Int32)) fun v1 =>
  bd (f_X13_within fu x1 (0 : Int32) (23 : Int32)) fun r2 =>
  if r2 = 0 then
    (f_X13_guard_29 fu v1)
  else
    (if (((gA v1 24 (1 : Int32).toNatClampNeg) >>> (x1 &&& 31)) &&& (1 : Int32)) = (1 : Int32) then
      (f_X13_guard_29 fu v1)
    else
      (bd (f_X13_keeps fu v1) fun v6 =>
      nm (((gA v6 24 (1 : Int32).toNatClampNeg) ||| ((1 : Int32) <<< (x1 &&& 31)))) fun y7 =>
      nm (sA v6 24 (1 : Int32).toNatClampNeg y7) fun v8 =>
      some ((1 : Int32), v8)))
set_option maxHeartbeats 4000000 in
set_option maxRecDepth 100000 in
theorem t_X13_guard_0 {G : GG} {p : Program} {l : Launch} {e : Env} {s : State} {m : MethodId} {args : Array Value} {below : List Frame} {meth : Method} {c : Code} {S : ST} {fu : Nat} {z : Int32 × GV} {a : Nat} {v0 : GV}  {v : GV} {x1 : Int32} (hM : MC G p s m args c cX13_guard w_X13_guard RX13) (hml : c.maxLocals = 2) (hr : meth.sig.returnType = (some .boolean)) (hlk : meth.locks = false) (hc0 : gC v0 = 12)  (hf : f_X13_guard_0 fu  v x1 = some z) : gC v = 12 → ∀ (H : Heap) (locs : List Loc), WB G (st S a v) s H locs → ∀ (ls : Array Slot), lv_has ls 2 [(0, .ref a), (1, .int x1)] → W p l e RM_X13_guard s m args below meth c H locs 0 0 (QR G below args s (some (.int z.1)) (st S a v0) (st S a z.2)) (F0 m 0 ls []) := by
  intro hc H locs hW ls hl
  have hx := hM.1
  have hb := hM.2.1
  refine lv_aload_n hx hb dX13_guard_0 rfl (lv_at hl 0 rfl) ?_
  refine lv_iconst (v := (0 : Int32)) hx hb dX13_guard_1 (by decide) ?_
  refine b_putI hM hW 11 0 hc rfl rfl (by decide) wi_X13 tyX13 tyX13_ok nmX13 (wgm fk_RX13_1) rfl rfl rfl dX13_guard_2 (fun v1 ev1 hc H locs hW => ?_)
  have hf := nm_at ev1 hf
  refine lv_iload_n hx hb dX13_guard_5 rfl (lv_at hl 1 rfl) ?_
  refine lv_iconst (v := (0 : Int32)) hx hb dX13_guard_6 (by decide) ?_
  refine lv_bipush (v := (23 : Int32)) hx hb dX13_guard_7 (by decide) ?_
  obtain ⟨r2, hr2, hf⟩ := bd_elim hf
  refine b_callSi [.int x1, .int (0 : Int32), .int (23 : Int32)] [] hM hml hl.1 hW (c_X13_within l G fu _ _ _ _ hr2) (va_cwS 3 hM.2.2.2.1 (gS mk_RX13_231 sm_X13_within it_RX13 cd_X13_within) rfl rfl rfl (by decide +kernel) ⟨Nat.le_of_ble_eq_true rfl, Nat.le_of_ble_eq_true rfl⟩) rfl rfl (Nat.le_of_ble_eq_true rfl) ⟨Nat.zero_le _, Nat.zero_le _⟩ dX13_guard_9 (fun H locs hW hk => ?_)
  refine lv_if_eq (tgt := 29) hx hb dX13_guard_12 (by decide) (fun c3 => ?_) (fun c3 => ?_)
  · have hf := if_t c3 hf
    exact t_X13_guard_29 (fu := fu) hM hml hr hlk hc0 hf hc _ _ hW _ (lv_sub hl [] rfl)
  · have hf := if_f c3 hf
    refine lv_aload_n hx hb dX13_guard_15 rfl (lv_at hl 0 rfl) ?_
    refine b_get hM hW 11 24 hc rfl rfl (by decide) wi_X13 (wgm fk_RX13_125) (x := .ref (a + 16)) rfl dX13_guard_16 ?_
    refine lv_iconst (v := (1 : Int32)) hx hb dX13_guard_19 (by decide) ?_
    refine b_iald (n := 1518) hM hW 11 24 hc (by decide) rfl rfl rfl rfl (by decide) dX13_guard_20 ?_
    refine lv_iload_n hx hb dX13_guard_21 rfl (lv_at hl 1 rfl) ?_
    refine lv_ishr hx hb dX13_guard_22 ?_
    refine lv_iconst (v := (1 : Int32)) hx hb dX13_guard_23 (by decide) ?_
    refine lv_iand hx hb dX13_guard_24 ?_
    refine lv_iconst (v := (1 : Int32)) hx hb dX13_guard_25 (by decide) ?_
    refine lv_icmp_ne (tgt := 31) hx hb dX13_guard_26 (by decide) (fun c4 => ?_) (fun c4 => ?_)
    · have hf := if_f c4 hf
      refine lv_aload_n hx hb dX13_guard_31 rfl (lv_at hl 0 rfl) ?_
      obtain ⟨v6, hr5, hf⟩ := bd_elim hf
      refine b_callVv [] [] hM hml hl.1 hW hc rfl (by decide) (c_X13_keeps l G fu _ a v1 hc hr5) (cwV 0 hM.2.2.2.1 (gV mk_RX13_370 im_X13_keeps se_X13_keeps it_RX13 cd_X13_keeps) rfl rfl rfl (by decide +kernel) ⟨Nat.le_of_ble_eq_true rfl, Nat.le_of_ble_eq_true rfl⟩) rfl rfl (Nat.le_of_ble_eq_true rfl) ⟨Nat.zero_le _, Nat.zero_le _⟩ dX13_guard_32 (fun H locs hW hk => ?_)
      have hc := keep_at hc hk
      refine lv_aload_n hx hb dX13_guard_35 rfl (lv_at hl 0 rfl) ?_
      refine b_get hM hW 11 24 hc rfl rfl (by decide) wi_X13 (wgm fk_RX13_125) (x := .ref (a + 16)) rfl dX13_guard_36 ?_
      refine lv_iconst (v := (1 : Int32)) hx hb dX13_guard_39 (by decide) ?_
      refine lv_dup2_11 hx hb dX13_guard_40 rfl rfl ?_
      refine b_iald (n := 1518) hM hW 11 24 hc (by decide) rfl rfl rfl rfl (by decide) dX13_guard_41 ?_
      refine lv_iconst (v := (1 : Int32)) hx hb dX13_guard_42 (by decide) ?_
      refine lv_iload_n hx hb dX13_guard_43 rfl (lv_at hl 1 rfl) ?_
      refine lv_ishl hx hb dX13_guard_44 ?_
      refine lv_ior hx hb dX13_guard_45 ?_
      refine lv_topi (fun y7 ey7 => ?_)
      have hf := nm_at ey7 hf
      refine b_iast (n := 1518) hM hW 11 24 hc (by decide) rfl rfl rfl rfl (by decide) dX13_guard_46 (fun v8 ev8 hc H locs hW => ?_)
      have hf := nm_at ev8 hf
      refine lv_iconst (v := (1 : Int32)) hx hb dX13_guard_47 (by decide) ?_
      cases hf
      exact W.zret (v := (1 : Int32)) hx hb hr (by decide) (b_ret0 hW (keep_s2 hc0 hc) _) hW.2.2.2 dX13_guard_48 hlk
    · have hf := if_t c4 hf
      exact t_X13_guard_29 (fu := fu) hM hml hr hlk hc0 hf hc _ _ hW _ (lv_sub hl [] rfl)
noncomputable def f_X13_guard (fu : Nat) (v : GV) (x1 : Int32) : Option (Int32 × GV) := f_X13_guard_0 fu v x1
set_option maxHeartbeats 4000000 in
set_option maxRecDepth 100000 in
theorem c_X13_guard (l : Launch) (G : GG) (fu : Nat) (S : ST) (a : Nat) (v : GV) (x1 : Int32) {z : Int32} {w : GV} (hc : gC v = 12) (hf : f_X13_guard fu v x1 = some (z, w)) : Ct l yX13_guard w_X13_guard RM_X13_guard G (st S a v) [.ref a, .int x1] (some (.int z)) (st S a w) 0 0 := by
  refine Met.ofW (cc := cX13_guard) (maxL := 2) (ret := (some .boolean)) (by decide) rfl ?_
  intro p e s m args below meth c s₁ B hml hv
  obtain ⟨rfl, hB, hK, hz⟩ := hv
  have hM : MC G p s m _ c cX13_guard w_X13_guard RX13 := ⟨B.exec, B.bytes, findClass_of_methodNamed B.named, atoms_spec (ws := w_X13_guard) B.pre, hK, hz⟩
  have hW : WB G (st S a v) s s.heap [] := ⟨hB, va_S.rf⟩
  have hl := lv_entry ([.ref a, .int x1]) (n := 2) (Nat.le_of_ble_eq_true rfl)
  rw [lg_entry_eq]
  generalize (lg_sl ([.ref a, .int x1]) ++ List.replicate (2 - (lg_sl ([.ref a, .int x1])).length) Slot.unset).toArray = ls at hl ⊢
  have hl : lv_has ls 2 [(0, .ref a), (1, .int x1)] := hl
  exact t_X13_guard_0 hM hml B.returns B.notSynchronized hc hf hc _ _ hW _ (lv_sub hl [0, 1] rfl)
abbrev w_X13_passes : List Cond := Cond.code yX13_passes cX13_passes 2 none :: wsL_law0
abbrev RM_X13_passes : Room := { frames := 1, cells := 0, slots := 0, locals := 23 }
noncomputable def f_X13_passes_0 (fu : Nat)  (v : GV) (x1 : Int32) : Option (GV) :=
  bd (f_X13_hanging fu v x1) fun r1 =>
  nm (((x1 + (19 : Int32)) + r1)) fun y2 =>
  ck (inb y2 1518) <|
  nm (((gA v 24 y2.toNatClampNeg) + (1 : Int32))) fun y4 =>
  ck (inb y2 1518) <|
  nm (sA v 24 y2.toNatClampNeg y4) fun v6 =>
  ck (inb (x1 + (1 : Int32)) 1518) <|
  nm (sA v6 24 (x1 + (1 : Int32)).toNatClampNeg (0 : Int32)) fun v8 =>
  nm ((x1 + (0 : Int32))) fun y9 =>
  ck (inb y9 1518) <|
  nm (((gA v8 24 y9.toNatClampNeg) + (1 : Int32))) fun y11 =>
  ck (inb y9 1518) <|
  nm (sA v8 24 y9.toNatClampNeg y11) fun v13 =>
  some v13
set_option maxHeartbeats 4000000 in
set_option maxRecDepth 100000 in
theorem t_X13_passes_0 {G : GG} {p : Program} {l : Launch} {e : Env} {s : State} {m : MethodId} {args : Array Value} {below : List Frame} {meth : Method} {c : Code} {S : ST} {fu : Nat} {z : GV} {a : Nat} {v0 : GV}  {v : GV} {x1 : Int32} (hM : MC G p s m args c cX13_passes w_X13_passes RX13) (hml : c.maxLocals = 2) (hr : meth.sig.returnType = none) (hlk : meth.locks = false) (hc0 : gC v0 = 12)  (hf : f_X13_passes_0 fu  v x1 = some z) : gC v = 12 → ∀ (H : Heap) (locs : List Loc), WB G (st S a v) s H locs → ∀ (ls : Array Slot), lv_has ls 2 [(0, .ref a), (1, .int x1)] → W p l e RM_X13_passes s m args below meth c H locs 0 0 (QR G below args s none (st S a v0) (st S a z)) (F0 m 0 ls []) := by
  intro hc H locs hW ls hl
  have hx := hM.1
  have hb := hM.2.1
  refine lv_aload_n hx hb dX13_passes_0 rfl (lv_at hl 0 rfl) ?_
  refine b_get hM hW 11 24 hc rfl rfl (by decide) wi_X13 (wgm fk_RX13_125) (x := .ref (a + 16)) rfl dX13_passes_1 ?_
  refine lv_iload_n hx hb dX13_passes_4 rfl (lv_at hl 1 rfl) ?_
  refine lv_bipush (v := (19 : Int32)) hx hb dX13_passes_5 (by decide) ?_
  refine lv_iadd hx hb dX13_passes_7 ?_
  refine lv_aload_n hx hb dX13_passes_8 rfl (lv_at hl 0 rfl) ?_
  refine lv_iload_n hx hb dX13_passes_9 rfl (lv_at hl 1 rfl) ?_
  obtain ⟨r1, hr1, hf⟩ := bd_elim hf
  refine b_callVi [.int x1] [.int (x1 + (19 : Int32)), .ref (a + 16)] hM hml hl.1 hW hc rfl (by decide) (c_X13_hanging l G fu _ a v _ hc hr1) (cwV 1 hM.2.2.2.1 (gV mk_RX13_364 im_X13_hanging se_X13_hanging it_RX13 cd_X13_hanging) rfl rfl rfl (by decide +kernel) ⟨Nat.le_of_ble_eq_true rfl, Nat.le_of_ble_eq_true rfl⟩) rfl rfl (Nat.le_of_ble_eq_true rfl) ⟨Nat.zero_le _, Nat.zero_le _⟩ dX13_passes_10 (fun H locs hW hk => ?_)
  refine lv_iadd hx hb dX13_passes_13 ?_
  refine lv_topi (fun y2 ey2 => ?_)
  have hf := nm_at ey2 hf
  refine lv_dup2_11 hx hb dX13_passes_14 rfl rfl ?_
  obtain ⟨h3, hf⟩ := ck_elim hf
  refine b_iald (n := 1518) hM hW 11 24 hc (by decide) rfl rfl rfl rfl h3 dX13_passes_15 ?_
  refine lv_iconst (v := (1 : Int32)) hx hb dX13_passes_16 (by decide) ?_
  refine lv_iadd hx hb dX13_passes_17 ?_
  refine lv_topi (fun y4 ey4 => ?_)
  have hf := nm_at ey4 hf
  obtain ⟨h5, hf⟩ := ck_elim hf
  refine b_iast (n := 1518) hM hW 11 24 hc (by decide) rfl rfl rfl rfl h5 dX13_passes_18 (fun v6 ev6 hc H locs hW => ?_)
  have hf := nm_at ev6 hf
  refine lv_aload_n hx hb dX13_passes_19 rfl (lv_at hl 0 rfl) ?_
  refine b_get hM hW 11 24 hc rfl rfl (by decide) wi_X13 (wgm fk_RX13_125) (x := .ref (a + 16)) rfl dX13_passes_20 ?_
  refine lv_iload_n hx hb dX13_passes_23 rfl (lv_at hl 1 rfl) ?_
  refine lv_iconst (v := (1 : Int32)) hx hb dX13_passes_24 (by decide) ?_
  refine lv_iadd hx hb dX13_passes_25 ?_
  refine lv_iconst (v := (0 : Int32)) hx hb dX13_passes_26 (by decide) ?_
  obtain ⟨h7, hf⟩ := ck_elim hf
  refine b_iast (n := 1518) hM hW 11 24 hc (by decide) rfl rfl rfl rfl h7 dX13_passes_27 (fun v8 ev8 hc H locs hW => ?_)
  have hf := nm_at ev8 hf
  refine lv_aload_n hx hb dX13_passes_28 rfl (lv_at hl 0 rfl) ?_
  refine b_get hM hW 11 24 hc rfl rfl (by decide) wi_X13 (wgm fk_RX13_125) (x := .ref (a + 16)) rfl dX13_passes_29 ?_
  refine lv_iload_n hx hb dX13_passes_32 rfl (lv_at hl 1 rfl) ?_
  refine lv_iconst (v := (0 : Int32)) hx hb dX13_passes_33 (by decide) ?_
  refine lv_iadd hx hb dX13_passes_34 ?_
  refine lv_topi (fun y9 ey9 => ?_)
  have hf := nm_at ey9 hf
  refine lv_dup2_11 hx hb dX13_passes_35 rfl rfl ?_
  obtain ⟨h10, hf⟩ := ck_elim hf
  refine b_iald (n := 1518) hM hW 11 24 hc (by decide) rfl rfl rfl rfl h10 dX13_passes_36 ?_
  refine lv_iconst (v := (1 : Int32)) hx hb dX13_passes_37 (by decide) ?_
  refine lv_iadd hx hb dX13_passes_38 ?_
  refine lv_topi (fun y11 ey11 => ?_)
  have hf := nm_at ey11 hf
  obtain ⟨h12, hf⟩ := ck_elim hf
  refine b_iast (n := 1518) hM hW 11 24 hc (by decide) rfl rfl rfl rfl h12 dX13_passes_39 (fun v13 ev13 hc H locs hW => ?_)
  have hf := nm_at ev13 hf
  cases hf
  exact W.vret hx hb hr (b_ret0 hW (keep_s2 hc0 hc) _) hW.2.2.2 dX13_passes_40 hlk
noncomputable def f_X13_passes (fu : Nat) (v : GV) (x1 : Int32) : Option (GV) := f_X13_passes_0 fu v x1
set_option maxHeartbeats 4000000 in
set_option maxRecDepth 100000 in
theorem c_X13_passes (l : Launch) (G : GG) (fu : Nat) (S : ST) (a : Nat) (v : GV) (x1 : Int32) {z : GV} (hc : gC v = 12) (hf : f_X13_passes fu v x1 = some z) : Ct l yX13_passes w_X13_passes RM_X13_passes G (st S a v) [.ref a, .int x1] none (st S a z) 0 0 := by
  refine Met.ofW (cc := cX13_passes) (maxL := 2) (ret := none) (by decide) rfl ?_
  intro p e s m args below meth c s₁ B hml hv
  obtain ⟨rfl, hB, hK, hz⟩ := hv
  have hM : MC G p s m _ c cX13_passes w_X13_passes RX13 := ⟨B.exec, B.bytes, findClass_of_methodNamed B.named, atoms_spec (ws := w_X13_passes) B.pre, hK, hz⟩
  have hW : WB G (st S a v) s s.heap [] := ⟨hB, va_S.rf⟩
  have hl := lv_entry ([.ref a, .int x1]) (n := 2) (Nat.le_of_ble_eq_true rfl)
  rw [lg_entry_eq]
  generalize (lg_sl ([.ref a, .int x1]) ++ List.replicate (2 - (lg_sl ([.ref a, .int x1])).length) Slot.unset).toArray = ls at hl ⊢
  have hl : lv_has ls 2 [(0, .ref a), (1, .int x1)] := hl
  exact t_X13_passes_0 hM hml B.returns B.notSynchronized hc hf hc _ _ hW _ (lv_sub hl [0, 1] rfl)
abbrev w_X13_night : List Cond := Cond.code yX13_night cX13_night 1 (some .int) :: wsL_law0
abbrev RM_X13_night : Room := { frames := 2, cells := 0, slots := 0, locals := 45 }
noncomputable def f_X13_night_0 (fu : Nat)  (v : GV) : Option (Int32 × GV) :=
  nm (sI v 0 (0 : Int32)) fun v1 =>
  bd (f_X13_keeps fu v1) fun v3 =>
  bd (f_X13_passes fu v3 (0 : Int32)) fun v5 =>
  some ((gA v5 24 (0 : Int32).toNatClampNeg), v5)
set_option maxHeartbeats 4000000 in
set_option maxRecDepth 100000 in
theorem t_X13_night_0 {G : GG} {p : Program} {l : Launch} {e : Env} {s : State} {m : MethodId} {args : Array Value} {below : List Frame} {meth : Method} {c : Code} {S : ST} {fu : Nat} {z : Int32 × GV} {a : Nat} {v0 : GV}  {v : GV} (hM : MC G p s m args c cX13_night w_X13_night RX13) (hml : c.maxLocals = 1) (hr : meth.sig.returnType = (some .int)) (hlk : meth.locks = false) (hc0 : gC v0 = 12)  (hf : f_X13_night_0 fu  v  = some z) : gC v = 12 → ∀ (H : Heap) (locs : List Loc), WB G (st S a v) s H locs → ∀ (ls : Array Slot), lv_has ls 1 [(0, .ref a)] → W p l e RM_X13_night s m args below meth c H locs 0 0 (QR G below args s (some (.int z.1)) (st S a v0) (st S a z.2)) (F0 m 0 ls []) := by
  intro hc H locs hW ls hl
  have hx := hM.1
  have hb := hM.2.1
  refine lv_aload_n hx hb dX13_night_0 rfl (lv_at hl 0 rfl) ?_
  refine lv_iconst (v := (0 : Int32)) hx hb dX13_night_1 (by decide) ?_
  refine b_putI hM hW 11 0 hc rfl rfl (by decide) wi_X13 tyX13 tyX13_ok nmX13 (wgm fk_RX13_1) rfl rfl rfl dX13_night_2 (fun v1 ev1 hc H locs hW => ?_)
  have hf := nm_at ev1 hf
  refine lv_aload_n hx hb dX13_night_5 rfl (lv_at hl 0 rfl) ?_
  obtain ⟨v3, hr2, hf⟩ := bd_elim hf
  refine b_callVv [] [] hM hml hl.1 hW hc rfl (by decide) (c_X13_keeps l G fu _ a v1 hc hr2) (cwV 0 hM.2.2.2.1 (gV mk_RX13_370 im_X13_keeps se_X13_keeps it_RX13 cd_X13_keeps) rfl rfl rfl (by decide +kernel) ⟨Nat.le_of_ble_eq_true rfl, Nat.le_of_ble_eq_true rfl⟩) rfl rfl (Nat.le_of_ble_eq_true rfl) ⟨Nat.zero_le _, Nat.zero_le _⟩ dX13_night_6 (fun H locs hW hk => ?_)
  have hc := keep_at hc hk
  refine lv_aload_n hx hb dX13_night_9 rfl (lv_at hl 0 rfl) ?_
  refine lv_iconst (v := (0 : Int32)) hx hb dX13_night_10 (by decide) ?_
  obtain ⟨v5, hr4, hf⟩ := bd_elim hf
  refine b_callVv [.int (0 : Int32)] [] hM hml hl.1 hW hc rfl (by decide) (c_X13_passes l G fu _ a v3 _ hc hr4) (cwV 1 hM.2.2.2.1 (gV mk_RX13_393 im_X13_passes se_X13_passes it_RX13 cd_X13_passes) rfl rfl rfl (by decide +kernel) ⟨Nat.le_of_ble_eq_true rfl, Nat.le_of_ble_eq_true rfl⟩) rfl rfl (Nat.le_of_ble_eq_true rfl) ⟨Nat.zero_le _, Nat.zero_le _⟩ dX13_night_11 (fun H locs hW hk => ?_)
  have hc := keep_at hc hk
  refine lv_aload_n hx hb dX13_night_14 rfl (lv_at hl 0 rfl) ?_
  refine b_get hM hW 11 24 hc rfl rfl (by decide) wi_X13 (wgm fk_RX13_125) (x := .ref (a + 16)) rfl dX13_night_15 ?_
  refine lv_iconst (v := (0 : Int32)) hx hb dX13_night_18 (by decide) ?_
  refine b_iald (n := 1518) hM hW 11 24 hc (by decide) rfl rfl rfl rfl (by decide) dX13_night_19 ?_
  cases hf
  exact W.iret hx hb hr (b_ret0 hW (keep_s2 hc0 hc) _) hW.2.2.2 dX13_night_20 hlk
noncomputable def f_X13_night (fu : Nat) (v : GV) : Option (Int32 × GV) := f_X13_night_0 fu v
set_option maxHeartbeats 4000000 in
set_option maxRecDepth 100000 in
theorem c_X13_night (l : Launch) (G : GG) (fu : Nat) (S : ST) (a : Nat) (v : GV) {z : Int32} {w : GV} (hc : gC v = 12) (hf : f_X13_night fu v = some (z, w)) : Ct l yX13_night w_X13_night RM_X13_night G (st S a v) [.ref a] (some (.int z)) (st S a w) 0 0 := by
  refine Met.ofW (cc := cX13_night) (maxL := 1) (ret := (some .int)) (by decide) rfl ?_
  intro p e s m args below meth c s₁ B hml hv
  obtain ⟨rfl, hB, hK, hz⟩ := hv
  have hM : MC G p s m _ c cX13_night w_X13_night RX13 := ⟨B.exec, B.bytes, findClass_of_methodNamed B.named, atoms_spec (ws := w_X13_night) B.pre, hK, hz⟩
  have hW : WB G (st S a v) s s.heap [] := ⟨hB, va_S.rf⟩
  have hl := lv_entry ([.ref a]) (n := 1) (Nat.le_of_ble_eq_true rfl)
  rw [lg_entry_eq]
  generalize (lg_sl ([.ref a]) ++ List.replicate (1 - (lg_sl ([.ref a])).length) Slot.unset).toArray = ls at hl ⊢
  have hl : lv_has ls 1 [(0, .ref a)] := hl
  exact t_X13_night_0 hM hml B.returns B.notSynchronized hc hf hc _ _ hW _ (lv_sub hl [0] rfl)
abbrev w_X13_undo : List Cond := Cond.code yX13_undo cX13_undo 1 (some .boolean) :: wsL_law0
abbrev RM_X13_undo : Room := { frames := 1, cells := 0, slots := 0, locals := 24 }
noncomputable def f_X13_undo_0 (fu : Nat)  (v : GV) : Option (Int32 × GV) :=
  nm (sI v 0 (0 : Int32)) fun v1 =>
  if (gI v1 25) = 0 then
    (some ((0 : Int32), v1))
  else
    (nm (sI v1 25 ((gI v1 25) - (1 : Int32))) fun v3 =>
    bd (f_X13_copies fu v3 ((66 : Int32) * ((5 : Int32) + (gI v3 25))) (0 : Int32) (48 : Int32)) fun v5 =>
    some ((1 : Int32), v5))
set_option maxHeartbeats 4000000 in
set_option maxRecDepth 100000 in
theorem t_X13_undo_0 {G : GG} {p : Program} {l : Launch} {e : Env} {s : State} {m : MethodId} {args : Array Value} {below : List Frame} {meth : Method} {c : Code} {S : ST} {fu : Nat} {z : Int32 × GV} {a : Nat} {v0 : GV}  {v : GV} (hM : MC G p s m args c cX13_undo w_X13_undo RX13) (hml : c.maxLocals = 1) (hr : meth.sig.returnType = (some .boolean)) (hlk : meth.locks = false) (hc0 : gC v0 = 12)  (hf : f_X13_undo_0 fu  v  = some z) : gC v = 12 → ∀ (H : Heap) (locs : List Loc), WB G (st S a v) s H locs → ∀ (ls : Array Slot), lv_has ls 1 [(0, .ref a)] → W p l e RM_X13_undo s m args below meth c H locs 0 0 (QR G below args s (some (.int z.1)) (st S a v0) (st S a z.2)) (F0 m 0 ls []) := by
  intro hc H locs hW ls hl
  have hx := hM.1
  have hb := hM.2.1
  refine lv_aload_n hx hb dX13_undo_0 rfl (lv_at hl 0 rfl) ?_
  refine lv_iconst (v := (0 : Int32)) hx hb dX13_undo_1 (by decide) ?_
  refine b_putI hM hW 11 0 hc rfl rfl (by decide) wi_X13 tyX13 tyX13_ok nmX13 (wgm fk_RX13_1) rfl rfl rfl dX13_undo_2 (fun v1 ev1 hc H locs hW => ?_)
  have hf := nm_at ev1 hf
  refine lv_aload_n hx hb dX13_undo_5 rfl (lv_at hl 0 rfl) ?_
  refine b_get hM hW 11 25 hc rfl rfl (by decide) wi_X13 (wgm fk_RX13_329) (x := .int (gI v1 25)) rfl dX13_undo_6 ?_
  refine lv_if_ne (tgt := 14) hx hb dX13_undo_9 (by decide) (fun c2 => ?_) (fun c2 => ?_)
  · have hf := if_f c2 hf
    refine lv_aload_n hx hb dX13_undo_14 rfl (lv_at hl 0 rfl) ?_
    refine lv_dup hx hb dX13_undo_15 rfl ?_
    refine b_get hM hW 11 25 hc rfl rfl (by decide) wi_X13 (wgm fk_RX13_329) (x := .int (gI v1 25)) rfl dX13_undo_16 ?_
    refine lv_iconst (v := (1 : Int32)) hx hb dX13_undo_19 (by decide) ?_
    refine lv_isub hx hb dX13_undo_20 ?_
    refine b_putI hM hW 11 25 hc rfl rfl (by decide) wi_X13 tyX13 tyX13_ok nmX13 (wgm fk_RX13_329) rfl rfl rfl dX13_undo_21 (fun v3 ev3 hc H locs hW => ?_)
    have hf := nm_at ev3 hf
    refine lv_aload_n hx hb dX13_undo_24 rfl (lv_at hl 0 rfl) ?_
    refine lv_bipush (v := (66 : Int32)) hx hb dX13_undo_25 (by decide) ?_
    refine lv_iconst (v := (5 : Int32)) hx hb dX13_undo_27 (by decide) ?_
    refine lv_aload_n hx hb dX13_undo_28 rfl (lv_at hl 0 rfl) ?_
    refine b_get hM hW 11 25 hc rfl rfl (by decide) wi_X13 (wgm fk_RX13_329) (x := .int (gI v3 25)) rfl dX13_undo_29 ?_
    refine lv_iadd hx hb dX13_undo_32 ?_
    refine lv_imul hx hb dX13_undo_33 ?_
    refine lv_iconst (v := (0 : Int32)) hx hb dX13_undo_34 (by decide) ?_
    refine lv_bipush (v := (48 : Int32)) hx hb dX13_undo_35 (by decide) ?_
    obtain ⟨v5, hr4, hf⟩ := bd_elim hf
    refine b_callVv [.int ((66 : Int32) * ((5 : Int32) + (gI v3 25))), .int (0 : Int32), .int (48 : Int32)] [] hM hml hl.1 hW hc rfl (by decide) (c_X13_copies l G fu _ a v3 _ _ _ hc hr4) (cwV 3 hM.2.2.2.1 (gV mk_RX13_332 im_X13_copies se_X13_copies it_RX13 cd_X13_copies) rfl rfl rfl (by decide +kernel) ⟨Nat.le_of_ble_eq_true rfl, Nat.le_of_ble_eq_true rfl⟩) rfl rfl (Nat.le_of_ble_eq_true rfl) ⟨Nat.zero_le _, Nat.zero_le _⟩ dX13_undo_37 (fun H locs hW hk => ?_)
    have hc := keep_at hc hk
    refine lv_iconst (v := (1 : Int32)) hx hb dX13_undo_40 (by decide) ?_
    cases hf
    exact W.zret (v := (1 : Int32)) hx hb hr (by decide) (b_ret0 hW (keep_s2 hc0 hc) _) hW.2.2.2 dX13_undo_41 hlk
  · have hf := if_t c2 hf
    refine lv_iconst (v := (0 : Int32)) hx hb dX13_undo_12 (by decide) ?_
    cases hf
    exact W.zret (v := (0 : Int32)) hx hb hr (by decide) (b_ret0 hW (keep_s2 hc0 hc) _) hW.2.2.2 dX13_undo_13 hlk
noncomputable def f_X13_undo (fu : Nat) (v : GV) : Option (Int32 × GV) := f_X13_undo_0 fu v
set_option maxHeartbeats 4000000 in
set_option maxRecDepth 100000 in
theorem c_X13_undo (l : Launch) (G : GG) (fu : Nat) (S : ST) (a : Nat) (v : GV) {z : Int32} {w : GV} (hc : gC v = 12) (hf : f_X13_undo fu v = some (z, w)) : Ct l yX13_undo w_X13_undo RM_X13_undo G (st S a v) [.ref a] (some (.int z)) (st S a w) 0 0 := by
  refine Met.ofW (cc := cX13_undo) (maxL := 1) (ret := (some .boolean)) (by decide) rfl ?_
  intro p e s m args below meth c s₁ B hml hv
  obtain ⟨rfl, hB, hK, hz⟩ := hv
  have hM : MC G p s m _ c cX13_undo w_X13_undo RX13 := ⟨B.exec, B.bytes, findClass_of_methodNamed B.named, atoms_spec (ws := w_X13_undo) B.pre, hK, hz⟩
  have hW : WB G (st S a v) s s.heap [] := ⟨hB, va_S.rf⟩
  have hl := lv_entry ([.ref a]) (n := 1) (Nat.le_of_ble_eq_true rfl)
  rw [lg_entry_eq]
  generalize (lg_sl ([.ref a]) ++ List.replicate (1 - (lg_sl ([.ref a])).length) Slot.unset).toArray = ls at hl ⊢
  have hl : lv_has ls 1 [(0, .ref a)] := hl
  exact t_X13_undo_0 hM hml B.returns B.notSynchronized hc hf hc _ _ hW _ (lv_sub hl [0] rfl)
abbrev w_X13_doesSo : List Cond := Cond.code yX13_doesSo cX13_doesSo 5 none :: wsL_law0
abbrev RM_X13_doesSo : Room := { frames := 4, cells := 0, slots := 0, locals := 93 }
noncomputable def f_X13_doesSo_0 (fu : Nat)  (v : GV) (x1 : Int32) (x2 : Int32) (x3 : Int32) (x4 : Int32) : Option (GV) :=
  if x1 = 0 then
    (bd2 (f_X13_steals fu v (1386 : Int32) x2 x3) fun r13 v14 =>
    some v14)
  else
    (if x1 = (1 : Int32) then
      (bd2 (f_X13_paints fu v (1386 : Int32) x2 x3 x4) fun r11 v12 =>
      some v12)
    else
      (if x1 = (2 : Int32) then
        (bd2 (f_X13_sells fu v (1386 : Int32) x2 x3) fun r9 v10 =>
        some v10)
      else
        (if x1 = (3 : Int32) then
          (nm (((gA v 24 (1387 : Int32).toNatClampNeg) ||| ((1 : Int32) <<< (x2 &&& 31)))) fun y7 =>
          nm (sA v 24 (1387 : Int32).toNatClampNeg y7) fun v8 =>
          some v8)
        else
          (bd (f_X13_passes fu v (1386 : Int32)) fun v6 =>
          some v6))))
set_option maxHeartbeats 4000000 in
set_option maxRecDepth 100000 in
theorem t_X13_doesSo_0 {G : GG} {p : Program} {l : Launch} {e : Env} {s : State} {m : MethodId} {args : Array Value} {below : List Frame} {meth : Method} {c : Code} {S : ST} {fu : Nat} {z : GV} {a : Nat} {v0 : GV}  {v : GV} {x1 : Int32} {x2 : Int32} {x3 : Int32} {x4 : Int32} (hM : MC G p s m args c cX13_doesSo w_X13_doesSo RX13) (hml : c.maxLocals = 5) (hr : meth.sig.returnType = none) (hlk : meth.locks = false) (hc0 : gC v0 = 12)  (hf : f_X13_doesSo_0 fu  v x1 x2 x3 x4 = some z) : gC v = 12 → ∀ (H : Heap) (locs : List Loc), WB G (st S a v) s H locs → ∀ (ls : Array Slot), lv_has ls 5 [(0, .ref a), (1, .int x1), (2, .int x2), (3, .int x3), (4, .int x4)] → W p l e RM_X13_doesSo s m args below meth c H locs 0 0 (QR G below args s none (st S a v0) (st S a z)) (F0 m 0 ls []) := by
  intro hc H locs hW ls hl
  have hx := hM.1
  have hb := hM.2.1
  refine lv_iload_n hx hb dX13_doesSo_0 rfl (lv_at hl 1 rfl) ?_
  refine lv_if_ne (tgt := 17) hx hb dX13_doesSo_1 (by decide) (fun c1 => ?_) (fun c1 => ?_)
  · have hf := if_f c1 hf
    refine lv_iload_n hx hb dX13_doesSo_17 rfl (lv_at hl 1 rfl) ?_
    refine lv_iconst (v := (1 : Int32)) hx hb dX13_doesSo_18 (by decide) ?_
    refine lv_icmp_ne (tgt := 37) hx hb dX13_doesSo_19 (by decide) (fun c2 => ?_) (fun c2 => ?_)
    · have hf := if_f c2 hf
      refine lv_iload_n hx hb dX13_doesSo_37 rfl (lv_at hl 1 rfl) ?_
      refine lv_iconst (v := (2 : Int32)) hx hb dX13_doesSo_38 (by decide) ?_
      refine lv_icmp_ne (tgt := 55) hx hb dX13_doesSo_39 (by decide) (fun c3 => ?_) (fun c3 => ?_)
      · have hf := if_f c3 hf
        refine lv_iload_n hx hb dX13_doesSo_55 rfl (lv_at hl 1 rfl) ?_
        refine lv_iconst (v := (3 : Int32)) hx hb dX13_doesSo_56 (by decide) ?_
        refine lv_icmp_ne (tgt := 77) hx hb dX13_doesSo_57 (by decide) (fun c4 => ?_) (fun c4 => ?_)
        · have hf := if_f c4 hf
          refine lv_aload_n hx hb dX13_doesSo_77 rfl (lv_at hl 0 rfl) ?_
          refine lv_sipush (v := (1386 : Int32)) hx hb dX13_doesSo_78 (by decide) ?_
          obtain ⟨v6, hr5, hf⟩ := bd_elim hf
          refine b_callVv [.int (1386 : Int32)] [] hM hml hl.1 hW hc rfl (by decide) (c_X13_passes l G fu _ a v _ hc hr5) (cwV 1 hM.2.2.2.1 (gV mk_RX13_393 im_X13_passes se_X13_passes it_RX13 cd_X13_passes) rfl rfl rfl (by decide +kernel) ⟨Nat.le_of_ble_eq_true rfl, Nat.le_of_ble_eq_true rfl⟩) rfl rfl (Nat.le_of_ble_eq_true rfl) ⟨Nat.zero_le _, Nat.zero_le _⟩ dX13_doesSo_81 (fun H locs hW hk => ?_)
          have hc := keep_at hc hk
          cases hf
          exact W.vret hx hb hr (b_ret0 hW (keep_s2 hc0 hc) _) hW.2.2.2 dX13_doesSo_84 hlk
        · have hf := if_t c4 hf
          refine lv_aload_n hx hb dX13_doesSo_60 rfl (lv_at hl 0 rfl) ?_
          refine b_get hM hW 11 24 hc rfl rfl (by decide) wi_X13 (wgm fk_RX13_125) (x := .ref (a + 16)) rfl dX13_doesSo_61 ?_
          refine lv_sipush (v := (1387 : Int32)) hx hb dX13_doesSo_64 (by decide) ?_
          refine lv_dup2_11 hx hb dX13_doesSo_67 rfl rfl ?_
          refine b_iald (n := 1518) hM hW 11 24 hc (by decide) rfl rfl rfl rfl (by decide) dX13_doesSo_68 ?_
          refine lv_iconst (v := (1 : Int32)) hx hb dX13_doesSo_69 (by decide) ?_
          refine lv_iload_n hx hb dX13_doesSo_70 rfl (lv_at hl 2 rfl) ?_
          refine lv_ishl hx hb dX13_doesSo_71 ?_
          refine lv_ior hx hb dX13_doesSo_72 ?_
          refine lv_topi (fun y7 ey7 => ?_)
          have hf := nm_at ey7 hf
          refine b_iast (n := 1518) hM hW 11 24 hc (by decide) rfl rfl rfl rfl (by decide) dX13_doesSo_73 (fun v8 ev8 hc H locs hW => ?_)
          have hf := nm_at ev8 hf
          refine lv_goto (tgt := 84) hx hb dX13_doesSo_74 (by decide) ?_
          cases hf
          exact W.vret hx hb hr (b_ret0 hW (keep_s2 hc0 hc) _) hW.2.2.2 dX13_doesSo_84 hlk
      · have hf := if_t c3 hf
        refine lv_aload_n hx hb dX13_doesSo_42 rfl (lv_at hl 0 rfl) ?_
        refine lv_sipush (v := (1386 : Int32)) hx hb dX13_doesSo_43 (by decide) ?_
        refine lv_iload_n hx hb dX13_doesSo_46 rfl (lv_at hl 2 rfl) ?_
        refine lv_iload_n hx hb dX13_doesSo_47 rfl (lv_at hl 3 rfl) ?_
        obtain ⟨r9, v10, hr9, hf⟩ := bd2_elim hf
        refine b_callVi [.int (1386 : Int32), .int x2, .int x3] [] hM hml hl.1 hW hc rfl (by decide) (c_X13_sells l G fu _ a v _ _ _ hc hr9) (cwV 3 hM.2.2.2.1 (gV mk_RX13_390 im_X13_sells se_X13_sells it_RX13 cd_X13_sells) rfl rfl rfl (by decide +kernel) ⟨Nat.le_of_ble_eq_true rfl, Nat.le_of_ble_eq_true rfl⟩) rfl rfl (Nat.le_of_ble_eq_true rfl) ⟨Nat.zero_le _, Nat.zero_le _⟩ dX13_doesSo_48 (fun H locs hW hk => ?_)
        have hc := keep_at hc hk
        refine lv_pop hx hb dX13_doesSo_51 rfl ?_
        refine lv_goto (tgt := 84) hx hb dX13_doesSo_52 (by decide) ?_
        cases hf
        exact W.vret hx hb hr (b_ret0 hW (keep_s2 hc0 hc) _) hW.2.2.2 dX13_doesSo_84 hlk
    · have hf := if_t c2 hf
      refine lv_aload_n hx hb dX13_doesSo_22 rfl (lv_at hl 0 rfl) ?_
      refine lv_sipush (v := (1386 : Int32)) hx hb dX13_doesSo_23 (by decide) ?_
      refine lv_iload_n hx hb dX13_doesSo_26 rfl (lv_at hl 2 rfl) ?_
      refine lv_iload_n hx hb dX13_doesSo_27 rfl (lv_at hl 3 rfl) ?_
      refine lv_iload hx hb dX13_doesSo_28 (lv_at hl 4 rfl) ?_
      obtain ⟨r11, v12, hr11, hf⟩ := bd2_elim hf
      refine b_callVi [.int (1386 : Int32), .int x2, .int x3, .int x4] [] hM hml hl.1 hW hc rfl (by decide) (c_X13_paints l G fu _ a v _ _ _ _ hc hr11) (cwV 4 hM.2.2.2.1 (gV mk_RX13_386 im_X13_paints se_X13_paints it_RX13 cd_X13_paints) rfl rfl rfl (by decide +kernel) ⟨Nat.le_of_ble_eq_true rfl, Nat.le_of_ble_eq_true rfl⟩) rfl rfl (Nat.le_of_ble_eq_true rfl) ⟨Nat.zero_le _, Nat.zero_le _⟩ dX13_doesSo_30 (fun H locs hW hk => ?_)
      have hc := keep_at hc hk
      refine lv_pop hx hb dX13_doesSo_33 rfl ?_
      refine lv_goto (tgt := 84) hx hb dX13_doesSo_34 (by decide) ?_
      cases hf
      exact W.vret hx hb hr (b_ret0 hW (keep_s2 hc0 hc) _) hW.2.2.2 dX13_doesSo_84 hlk
  · have hf := if_t c1 hf
    refine lv_aload_n hx hb dX13_doesSo_4 rfl (lv_at hl 0 rfl) ?_
    refine lv_sipush (v := (1386 : Int32)) hx hb dX13_doesSo_5 (by decide) ?_
    refine lv_iload_n hx hb dX13_doesSo_8 rfl (lv_at hl 2 rfl) ?_
    refine lv_iload_n hx hb dX13_doesSo_9 rfl (lv_at hl 3 rfl) ?_
    obtain ⟨r13, v14, hr13, hf⟩ := bd2_elim hf
    refine b_callVi [.int (1386 : Int32), .int x2, .int x3] [] hM hml hl.1 hW hc rfl (by decide) (c_X13_steals l G fu _ a v _ _ _ hc hr13) (cwV 3 hM.2.2.2.1 (gV mk_RX13_373 im_X13_steals se_X13_steals it_RX13 cd_X13_steals) rfl rfl rfl (by decide +kernel) ⟨Nat.le_of_ble_eq_true rfl, Nat.le_of_ble_eq_true rfl⟩) rfl rfl (Nat.le_of_ble_eq_true rfl) ⟨Nat.zero_le _, Nat.zero_le _⟩ dX13_doesSo_10 (fun H locs hW hk => ?_)
    have hc := keep_at hc hk
    refine lv_pop hx hb dX13_doesSo_13 rfl ?_
    refine lv_goto (tgt := 84) hx hb dX13_doesSo_14 (by decide) ?_
    cases hf
    exact W.vret hx hb hr (b_ret0 hW (keep_s2 hc0 hc) _) hW.2.2.2 dX13_doesSo_84 hlk
noncomputable def f_X13_doesSo (fu : Nat) (v : GV) (x1 : Int32) (x2 : Int32) (x3 : Int32) (x4 : Int32) : Option (GV) := f_X13_doesSo_0 fu v x1 x2 x3 x4
set_option maxHeartbeats 4000000 in
set_option maxRecDepth 100000 in
theorem c_X13_doesSo (l : Launch) (G : GG) (fu : Nat) (S : ST) (a : Nat) (v : GV) (x1 : Int32) (x2 : Int32) (x3 : Int32) (x4 : Int32) {z : GV} (hc : gC v = 12) (hf : f_X13_doesSo fu v x1 x2 x3 x4 = some z) : Ct l yX13_doesSo w_X13_doesSo RM_X13_doesSo G (st S a v) [.ref a, .int x1, .int x2, .int x3, .int x4] none (st S a z) 0 0 := by
  refine Met.ofW (cc := cX13_doesSo) (maxL := 5) (ret := none) (by decide) rfl ?_
  intro p e s m args below meth c s₁ B hml hv
  obtain ⟨rfl, hB, hK, hz⟩ := hv
  have hM : MC G p s m _ c cX13_doesSo w_X13_doesSo RX13 := ⟨B.exec, B.bytes, findClass_of_methodNamed B.named, atoms_spec (ws := w_X13_doesSo) B.pre, hK, hz⟩
  have hW : WB G (st S a v) s s.heap [] := ⟨hB, va_S.rf⟩
  have hl := lv_entry ([.ref a, .int x1, .int x2, .int x3, .int x4]) (n := 5) (Nat.le_of_ble_eq_true rfl)
  rw [lg_entry_eq]
  generalize (lg_sl ([.ref a, .int x1, .int x2, .int x3, .int x4]) ++ List.replicate (5 - (lg_sl ([.ref a, .int x1, .int x2, .int x3, .int x4])).length) Slot.unset).toArray = ls at hl ⊢
  have hl : lv_has ls 5 [(0, .ref a), (1, .int x1), (2, .int x2), (3, .int x3), (4, .int x4)] := hl
  exact t_X13_doesSo_0 hM hml B.returns B.notSynchronized hc hf hc _ _ hW _ (lv_sub hl [0, 1, 2, 3, 4] rfl)
abbrev w_X13_does : List Cond := Cond.code yX13_does cX13_does 7 (some .boolean) :: wsL_law0
abbrev RM_X13_does : Room := { frames := 5, cells := 0, slots := 0, locals := 117 }
noncomputable def f_X13_does_151 (fu : Nat)  (v : GV) (x6 : Int32) : Option (Int32 × GV) :=
  ck (isB x6) <|
  some (x6, v)
set_option maxHeartbeats 4000000 in
set_option maxRecDepth 100000 in
theorem t_X13_does_151 {G : GG} {p : Program} {l : Launch} {e : Env} {s : State} {m : MethodId} {args : Array Value} {below : List Frame} {meth : Method} {c : Code} {S : ST} {fu : Nat} {z : Int32 × GV} {a : Nat} {v0 : GV}  {v : GV} {x6 : Int32} (hM : MC G p s m args c cX13_does w_X13_does RX13) (hml : c.maxLocals = 7) (hr : meth.sig.returnType = (some .boolean)) (hlk : meth.locks = false) (hc0 : gC v0 = 12)  (hf : f_X13_does_151 fu  v x6 = some z) : gC v = 12 → ∀ (H : Heap) (locs : List Loc), WB G (st S a v) s H locs → ∀ (ls : Array Slot), lv_has ls 7 [(6, .int x6)] → W p l e RM_X13_does s m args below meth c H locs 0 0 (QR G below args s (some (.int z.1)) (st S a v0) (st S a z.2)) (F0 m 151 ls []) := by
  intro hc H locs hW ls hl
  have hx := hM.1
  have hb := hM.2.1
  refine lv_iload hx hb dX13_does_151 (lv_at hl 0 rfl) ?_
  obtain ⟨h1, hf⟩ := ck_elim hf
  cases hf
  exact W.zret (v := _) hx hb hr (isB_nar h1) (b_ret0 hW (keep_s2 hc0 hc) _) hW.2.2.2 dX13_does_153 hlk
noncomputable def f_X13_does_136 (fu : Nat)  (v : GV) (x2 : Int32) (x3 : Int32) (x4 : Int32) (x5 : Int32) (x6 : Int32) : Option (Int32 × GV) :=
  if x6 = 0 then
    (f_X13_does_151 fu v x6)
  else
    (bd (f_X13_doesSo fu v x2 x3 x4 x5) fun v3 =>
    f_X13_does_151 fu v3 x6)
set_option maxHeartbeats 4000000 in
set_option maxRecDepth 100000 in
theorem t_X13_does_136 {G : GG} {p : Program} {l : Launch} {e : Env} {s : State} {m : MethodId} {args : Array Value} {below : List Frame} {meth : Method} {c : Code} {S : ST} {fu : Nat} {z : Int32 × GV} {a : Nat} {v0 : GV}  {v : GV} {x2 : Int32} {x3 : Int32} {x4 : Int32} {x5 : Int32} {x6 : Int32} (hM : MC G p s m args c cX13_does w_X13_does RX13) (hml : c.maxLocals = 7) (hr : meth.sig.returnType = (some .boolean)) (hlk : meth.locks = false) (hc0 : gC v0 = 12)  (hf : f_X13_does_136 fu  v x2 x3 x4 x5 x6 = some z) : gC v = 12 → ∀ (H : Heap) (locs : List Loc), WB G (st S a v) s H locs → ∀ (ls : Array Slot), lv_has ls 7 [(0, .ref a), (2, .int x2), (3, .int x3), (4, .int x4), (5, .int x5), (6, .int x6)] → W p l e RM_X13_does s m args below meth c H locs 0 0 (QR G below args s (some (.int z.1)) (st S a v0) (st S a z.2)) (F0 m 136 ls []) := by
  intro hc H locs hW ls hl
  have hx := hM.1
  have hb := hM.2.1
  refine lv_iload hx hb dX13_does_136 (lv_at hl 5 rfl) ?_
  refine lv_if_eq (tgt := 151) hx hb dX13_does_138 (by decide) (fun c1 => ?_) (fun c1 => ?_)
  · have hf := if_t c1 hf
    exact t_X13_does_151 (fu := fu) hM hml hr hlk hc0 hf hc _ _ hW _ (lv_sub hl [5] rfl)
  · have hf := if_f c1 hf
    refine lv_aload_n hx hb dX13_does_141 rfl (lv_at hl 0 rfl) ?_
    refine lv_iload_n hx hb dX13_does_142 rfl (lv_at hl 1 rfl) ?_
    refine lv_iload_n hx hb dX13_does_143 rfl (lv_at hl 2 rfl) ?_
    refine lv_iload hx hb dX13_does_144 (lv_at hl 3 rfl) ?_
    refine lv_iload hx hb dX13_does_146 (lv_at hl 4 rfl) ?_
    obtain ⟨v3, hr2, hf⟩ := bd_elim hf
    refine b_callVv [.int x2, .int x3, .int x4, .int x5] [] hM hml hl.1 hW hc rfl (by decide) (c_X13_doesSo l G fu _ a v _ _ _ _ hc hr2) (cwV 4 hM.2.2.2.1 (gV mk_RX13_396 im_X13_doesSo se_X13_doesSo it_RX13 cd_X13_doesSo) rfl rfl rfl (by decide +kernel) ⟨Nat.le_of_ble_eq_true rfl, Nat.le_of_ble_eq_true rfl⟩) rfl rfl (Nat.le_of_ble_eq_true rfl) ⟨Nat.zero_le _, Nat.zero_le _⟩ dX13_does_148 (fun H locs hW hk => ?_)
    have hc := keep_at hc hk
    exact t_X13_does_151 (fu := fu) hM hml hr hlk hc0 hf hc _ _ hW _ (lv_sub hl [5] rfl)
noncomputable def f_X13_does_134 (fu : Nat)  (v : GV) (x2 : Int32) (x3 : Int32) (x4 : Int32) (x5 : Int32) (t0 : Int32) : Option (Int32 × GV) :=
  f_X13_does_136 fu v x2 x3 x4 x5 t0
set_option maxHeartbeats 4000000 in
set_option maxRecDepth 100000 in
theorem t_X13_does_134 {G : GG} {p : Program} {l : Launch} {e : Env} {s : State} {m : MethodId} {args : Array Value} {below : List Frame} {meth : Method} {c : Code} {S : ST} {fu : Nat} {z : Int32 × GV} {a : Nat} {v0 : GV}  {v : GV} {x2 : Int32} {x3 : Int32} {x4 : Int32} {x5 : Int32} {t0 : Int32} (hM : MC G p s m args c cX13_does w_X13_does RX13) (hml : c.maxLocals = 7) (hr : meth.sig.returnType = (some .boolean)) (hlk : meth.locks = false) (hc0 : gC v0 = 12)  (hf : f_X13_does_134 fu  v x2 x3 x4 x5 t0 = some z) : gC v = 12 → ∀ (H : Heap) (locs : List Loc), WB G (st S a v) s H locs → ∀ (ls : Array Slot), lv_has ls 7 [(0, .ref a), (2, .int x2), (3, .int x3), (4, .int x4), (5, .int x5)] → W p l e RM_X13_does s m args below meth c H locs 0 0 (QR G below args s (some (.int z.1)) (st S a v0) (st S a z.2)) (F0 m 134 ls [.int t0]) := by
  intro hc H locs hW ls hl
  have hx := hM.1
  have hb := hM.2.1
  refine lv_istore (lv' := [(6, .int t0), (0, .ref a), (2, .int x2), (3, .int x3), (4, .int x4), (5, .int x5)]) hx hb dX13_does_134 hl (by decide) rfl (fun ls hl => ?_)
  exact t_X13_does_136 (fu := fu) hM hml hr hlk hc0 hf hc _ _ hW _ (lv_sub hl [1, 2, 3, 4, 5, 0] rfl)
noncomputable def f_X13_does_46 (fu : Nat)  (v : GV) (x2 : Int32) (x3 : Int32) (x4 : Int32) (x5 : Int32) (t0 : Int32) : Option (Int32 × GV) :=
  if x2 = 0 then
    (bd (f_X13_maySteal fu v (1386 : Int32) x3 x4) fun r9 =>
    f_X13_does_136 fu v x2 x3 x4 x5 r9)
  else
    (if x2 = (1 : Int32) then
      (bd2 (f_X13_mayPaint fu v (1386 : Int32) x3 x4 x5) fun r7 v8 =>
      f_X13_does_136 fu v8 x2 x3 x4 x5 r7)
    else
      (if x2 = (2 : Int32) then
        (bd (f_X13_hasIt fu v (1386 : Int32) x3 x4) fun r6 =>
        f_X13_does_136 fu v x2 x3 x4 x5 r6)
      else
        (if x2 = (3 : Int32) then
          (if (((gA v 24 (1387 : Int32).toNatClampNeg) >>> (x3 &&& 31)) &&& (1 : Int32)) = 0 then
            (f_X13_does_134 fu v x2 x3 x4 x5 (1 : Int32))
          else
            (f_X13_does_134 fu v x2 x3 x4 x5 (0 : Int32)))
        else
          (f_X13_does_136 fu v x2 x3 x4 x5 t0))))
set_option maxHeartbeats 4000000 in
set_option maxRecDepth 100000 in
theorem t_X13_does_46 {G : GG} {p : Program} {l : Launch} {e : Env} {s : State} {m : MethodId} {args : Array Value} {below : List Frame} {meth : Method} {c : Code} {S : ST} {fu : Nat} {z : Int32 × GV} {a : Nat} {v0 : GV}  {v : GV} {x2 : Int32} {x3 : Int32} {x4 : Int32} {x5 : Int32} {t0 : Int32} (hM : MC G p s m args c cX13_does w_X13_does RX13) (hml : c.maxLocals = 7) (hr : meth.sig.returnType = (some .boolean)) (hlk : meth.locks = false) (hc0 : gC v0 = 12)  (hf : f_X13_does_46 fu  v x2 x3 x4 x5 t0 = some z) : gC v = 12 → ∀ (H : Heap) (locs : List Loc), WB G (st S a v) s H locs → ∀ (ls : Array Slot), lv_has ls 7 [(0, .ref a), (2, .int x2), (3, .int x3), (4, .int x4), (5, .int x5)] → W p l e RM_X13_does s m args below meth c H locs 0 0 (QR G below args s (some (.int z.1)) (st S a v0) (st S a z.2)) (F0 m 46 ls [.int t0]) := by
  intro hc H locs hW ls hl
  have hx := hM.1
  have hb := hM.2.1
  refine lv_istore (lv' := [(6, .int t0), (0, .ref a), (2, .int x2), (3, .int x3), (4, .int x4), (5, .int x5)]) hx hb dX13_does_46 hl (by decide) rfl (fun ls hl => ?_)
  refine lv_iload_n hx hb dX13_does_48 rfl (lv_at hl 2 rfl) ?_
  refine lv_if_ne (tgt := 67) hx hb dX13_does_49 (by decide) (fun c1 => ?_) (fun c1 => ?_)
  · have hf := if_f c1 hf
    refine lv_iload_n hx hb dX13_does_67 rfl (lv_at hl 2 rfl) ?_
    refine lv_iconst (v := (1 : Int32)) hx hb dX13_does_68 (by decide) ?_
    refine lv_icmp_ne (tgt := 89) hx hb dX13_does_69 (by decide) (fun c2 => ?_) (fun c2 => ?_)
    · have hf := if_f c2 hf
      refine lv_iload_n hx hb dX13_does_89 rfl (lv_at hl 2 rfl) ?_
      refine lv_iconst (v := (2 : Int32)) hx hb dX13_does_90 (by decide) ?_
      refine lv_icmp_ne (tgt := 109) hx hb dX13_does_91 (by decide) (fun c3 => ?_) (fun c3 => ?_)
      · have hf := if_f c3 hf
        refine lv_iload_n hx hb dX13_does_109 rfl (lv_at hl 2 rfl) ?_
        refine lv_iconst (v := (3 : Int32)) hx hb dX13_does_110 (by decide) ?_
        refine lv_icmp_ne (tgt := 136) hx hb dX13_does_111 (by decide) (fun c4 => ?_) (fun c4 => ?_)
        · have hf := if_f c4 hf
          exact t_X13_does_136 (fu := fu) hM hml hr hlk hc0 hf hc _ _ hW _ (lv_sub hl [1, 2, 3, 4, 5, 0] rfl)
        · have hf := if_t c4 hf
          refine lv_aload_n hx hb dX13_does_114 rfl (lv_at hl 1 rfl) ?_
          refine b_get hM hW 11 24 hc rfl rfl (by decide) wi_X13 (wgm fk_RX13_125) (x := .ref (a + 16)) rfl dX13_does_115 ?_
          refine lv_sipush (v := (1387 : Int32)) hx hb dX13_does_118 (by decide) ?_
          refine b_iald (n := 1518) hM hW 11 24 hc (by decide) rfl rfl rfl rfl (by decide) dX13_does_121 ?_
          refine lv_iload_n hx hb dX13_does_122 rfl (lv_at hl 3 rfl) ?_
          refine lv_ishr hx hb dX13_does_123 ?_
          refine lv_iconst (v := (1 : Int32)) hx hb dX13_does_124 (by decide) ?_
          refine lv_iand hx hb dX13_does_125 ?_
          refine lv_if_ne (tgt := 133) hx hb dX13_does_126 (by decide) (fun c5 => ?_) (fun c5 => ?_)
          · have hf := if_f c5 hf
            refine lv_iconst (v := (0 : Int32)) hx hb dX13_does_133 (by decide) ?_
            exact t_X13_does_134 (fu := fu) hM hml hr hlk hc0 hf hc _ _ hW _ (lv_sub hl [1, 2, 3, 4, 5] rfl)
          · have hf := if_t c5 hf
            refine lv_iconst (v := (1 : Int32)) hx hb dX13_does_129 (by decide) ?_
            refine lv_goto (tgt := 134) hx hb dX13_does_130 (by decide) ?_
            exact t_X13_does_134 (fu := fu) hM hml hr hlk hc0 hf hc _ _ hW _ (lv_sub hl [1, 2, 3, 4, 5] rfl)
      · have hf := if_t c3 hf
        refine lv_aload_n hx hb dX13_does_94 rfl (lv_at hl 1 rfl) ?_
        refine lv_sipush (v := (1386 : Int32)) hx hb dX13_does_95 (by decide) ?_
        refine lv_iload_n hx hb dX13_does_98 rfl (lv_at hl 3 rfl) ?_
        refine lv_iload hx hb dX13_does_99 (lv_at hl 4 rfl) ?_
        obtain ⟨r6, hr6, hf⟩ := bd_elim hf
        refine b_callVi [.int (1386 : Int32), .int x3, .int x4] [] hM hml hl.1 hW hc rfl (by decide) (c_X13_hasIt l G fu _ a v _ _ _ hc hr6) (cwV 3 hM.2.2.2.1 (gV mk_RX13_361 im_X13_hasIt se_X13_hasIt it_RX13 cd_X13_hasIt) rfl rfl rfl (by decide +kernel) ⟨Nat.le_of_ble_eq_true rfl, Nat.le_of_ble_eq_true rfl⟩) rfl rfl (Nat.le_of_ble_eq_true rfl) ⟨Nat.zero_le _, Nat.zero_le _⟩ dX13_does_101 (fun H locs hW hk => ?_)
        refine lv_istore (lv' := [(6, .int r6), (0, .ref a), (2, .int x2), (3, .int x3), (4, .int x4), (5, .int x5)]) hx hb dX13_does_104 hl (by decide) rfl (fun ls hl => ?_)
        refine lv_goto (tgt := 136) hx hb dX13_does_106 (by decide) ?_
        exact t_X13_does_136 (fu := fu) hM hml hr hlk hc0 hf hc _ _ hW _ (lv_sub hl [1, 2, 3, 4, 5, 0] rfl)
    · have hf := if_t c2 hf
      refine lv_aload_n hx hb dX13_does_72 rfl (lv_at hl 1 rfl) ?_
      refine lv_sipush (v := (1386 : Int32)) hx hb dX13_does_73 (by decide) ?_
      refine lv_iload_n hx hb dX13_does_76 rfl (lv_at hl 3 rfl) ?_
      refine lv_iload hx hb dX13_does_77 (lv_at hl 4 rfl) ?_
      refine lv_iload hx hb dX13_does_79 (lv_at hl 5 rfl) ?_
      obtain ⟨r7, v8, hr7, hf⟩ := bd2_elim hf
      refine b_callVi [.int (1386 : Int32), .int x3, .int x4, .int x5] [] hM hml hl.1 hW hc rfl (by decide) (c_X13_mayPaint l G fu _ a v _ _ _ _ hc hr7) (cwV 4 hM.2.2.2.1 (gV mk_RX13_382 im_X13_mayPaint se_X13_mayPaint it_RX13 cd_X13_mayPaint) rfl rfl rfl (by decide +kernel) ⟨Nat.le_of_ble_eq_true rfl, Nat.le_of_ble_eq_true rfl⟩) rfl rfl (Nat.le_of_ble_eq_true rfl) ⟨Nat.zero_le _, Nat.zero_le _⟩ dX13_does_81 (fun H locs hW hk => ?_)
      have hc := keep_at hc hk
      refine lv_istore (lv' := [(6, .int r7), (0, .ref a), (2, .int x2), (3, .int x3), (4, .int x4), (5, .int x5)]) hx hb dX13_does_84 hl (by decide) rfl (fun ls hl => ?_)
      refine lv_goto (tgt := 136) hx hb dX13_does_86 (by decide) ?_
      exact t_X13_does_136 (fu := fu) hM hml hr hlk hc0 hf hc _ _ hW _ (lv_sub hl [1, 2, 3, 4, 5, 0] rfl)
  · have hf := if_t c1 hf
    refine lv_aload_n hx hb dX13_does_52 rfl (lv_at hl 1 rfl) ?_
    refine lv_sipush (v := (1386 : Int32)) hx hb dX13_does_53 (by decide) ?_
    refine lv_iload_n hx hb dX13_does_56 rfl (lv_at hl 3 rfl) ?_
    refine lv_iload hx hb dX13_does_57 (lv_at hl 4 rfl) ?_
    obtain ⟨r9, hr9, hf⟩ := bd_elim hf
    refine b_callVi [.int (1386 : Int32), .int x3, .int x4] [] hM hml hl.1 hW hc rfl (by decide) (c_X13_maySteal l G fu _ a v _ _ _ hc hr9) (cwV 3 hM.2.2.2.1 (gV mk_RX13_367 im_X13_maySteal se_X13_maySteal it_RX13 cd_X13_maySteal) rfl rfl rfl (by decide +kernel) ⟨Nat.le_of_ble_eq_true rfl, Nat.le_of_ble_eq_true rfl⟩) rfl rfl (Nat.le_of_ble_eq_true rfl) ⟨Nat.zero_le _, Nat.zero_le _⟩ dX13_does_59 (fun H locs hW hk => ?_)
    refine lv_istore (lv' := [(6, .int r9), (0, .ref a), (2, .int x2), (3, .int x3), (4, .int x4), (5, .int x5)]) hx hb dX13_does_62 hl (by decide) rfl (fun ls hl => ?_)
    refine lv_goto (tgt := 136) hx hb dX13_does_64 (by decide) ?_
    exact t_X13_does_136 (fu := fu) hM hml hr hlk hc0 hf hc _ _ hW _ (lv_sub hl [1, 2, 3, 4, 5, 0] rfl)
noncomputable def f_X13_does_0 (fu : Nat)  (v : GV) (x1 : Int32) : Option (Int32 × GV) :=
  ck (inb x1 250) <|
  nm ((gA v 21 x1.toNatClampNeg)) fun y2 =>
  nm ((x1 + (1 : Int32))) fun y3 =>
  ck (inb y3 250) <|
  nm ((gA v 21 y3.toNatClampNeg)) fun y5 =>
  nm ((x1 + (2 : Int32))) fun y6 =>
  ck (inb y6 250) <|
  nm ((gA v 21 y6.toNatClampNeg)) fun y8 =>
  nm ((x1 + (3 : Int32))) fun y9 =>
  ck (inb y9 250) <|
  nm ((gA v 21 y9.toNatClampNeg)) fun y11 =>
  if y2 = (4 : Int32) then
    (f_X13_does_46 fu v y2 y5 y8 y11 (1 : Int32))
  else
    (f_X13_does_46 fu v y2 y5 y8 y11 (0 : Int32))
set_option maxHeartbeats 4000000 in
set_option maxRecDepth 100000 in
theorem t_X13_does_0 {G : GG} {p : Program} {l : Launch} {e : Env} {s : State} {m : MethodId} {args : Array Value} {below : List Frame} {meth : Method} {c : Code} {S : ST} {fu : Nat} {z : Int32 × GV} {a : Nat} {v0 : GV}  {v : GV} {x1 : Int32} (hM : MC G p s m args c cX13_does w_X13_does RX13) (hml : c.maxLocals = 7) (hr : meth.sig.returnType = (some .boolean)) (hlk : meth.locks = false) (hc0 : gC v0 = 12)  (hf : f_X13_does_0 fu  v x1 = some z) : gC v = 12 → ∀ (H : Heap) (locs : List Loc), WB G (st S a v) s H locs → ∀ (ls : Array Slot), lv_has ls 7 [(0, .ref a), (1, .int x1)] → W p l e RM_X13_does s m args below meth c H locs 0 0 (QR G below args s (some (.int z.1)) (st S a v0) (st S a z.2)) (F0 m 0 ls []) := by
  intro hc H locs hW ls hl
  have hx := hM.1
  have hb := hM.2.1
  refine lv_aload_n hx hb dX13_does_0 rfl (lv_at hl 0 rfl) ?_
  refine b_get hM hW 11 21 hc rfl rfl (by decide) wi_X13 (wgm fk_RX13_116) (x := .ref (a + 13)) rfl dX13_does_1 ?_
  refine lv_iload_n hx hb dX13_does_4 rfl (lv_at hl 1 rfl) ?_
  obtain ⟨h1, hf⟩ := ck_elim hf
  refine b_iald (n := 250) hM hW 11 21 hc (by decide) rfl rfl rfl rfl h1 dX13_does_5 ?_
  refine lv_topi (fun y2 ey2 => ?_)
  have hf := nm_at ey2 hf
  refine lv_istore_n (lv' := [(2, .int y2), (0, .ref a), (1, .int x1)]) hx hb dX13_does_6 rfl hl (by decide) rfl (fun ls hl => ?_)
  refine lv_aload_n hx hb dX13_does_7 rfl (lv_at hl 1 rfl) ?_
  refine b_get hM hW 11 21 hc rfl rfl (by decide) wi_X13 (wgm fk_RX13_116) (x := .ref (a + 13)) rfl dX13_does_8 ?_
  refine lv_iload_n hx hb dX13_does_11 rfl (lv_at hl 2 rfl) ?_
  refine lv_iconst (v := (1 : Int32)) hx hb dX13_does_12 (by decide) ?_
  refine lv_iadd hx hb dX13_does_13 ?_
  refine lv_topi (fun y3 ey3 => ?_)
  have hf := nm_at ey3 hf
  obtain ⟨h4, hf⟩ := ck_elim hf
  refine b_iald (n := 250) hM hW 11 21 hc (by decide) rfl rfl rfl rfl h4 dX13_does_14 ?_
  refine lv_topi (fun y5 ey5 => ?_)
  have hf := nm_at ey5 hf
  refine lv_istore_n (lv' := [(3, .int y5), (2, .int y2), (0, .ref a), (1, .int x1)]) hx hb dX13_does_15 rfl hl (by decide) rfl (fun ls hl => ?_)
  refine lv_aload_n hx hb dX13_does_16 rfl (lv_at hl 2 rfl) ?_
  refine b_get hM hW 11 21 hc rfl rfl (by decide) wi_X13 (wgm fk_RX13_116) (x := .ref (a + 13)) rfl dX13_does_17 ?_
  refine lv_iload_n hx hb dX13_does_20 rfl (lv_at hl 3 rfl) ?_
  refine lv_iconst (v := (2 : Int32)) hx hb dX13_does_21 (by decide) ?_
  refine lv_iadd hx hb dX13_does_22 ?_
  refine lv_topi (fun y6 ey6 => ?_)
  have hf := nm_at ey6 hf
  obtain ⟨h7, hf⟩ := ck_elim hf
  refine b_iald (n := 250) hM hW 11 21 hc (by decide) rfl rfl rfl rfl h7 dX13_does_23 ?_
  refine lv_topi (fun y8 ey8 => ?_)
  have hf := nm_at ey8 hf
  refine lv_istore (lv' := [(4, .int y8), (3, .int y5), (2, .int y2), (0, .ref a), (1, .int x1)]) hx hb dX13_does_24 hl (by decide) rfl (fun ls hl => ?_)
  refine lv_aload_n hx hb dX13_does_26 rfl (lv_at hl 3 rfl) ?_
  refine b_get hM hW 11 21 hc rfl rfl (by decide) wi_X13 (wgm fk_RX13_116) (x := .ref (a + 13)) rfl dX13_does_27 ?_
  refine lv_iload_n hx hb dX13_does_30 rfl (lv_at hl 4 rfl) ?_
  refine lv_iconst (v := (3 : Int32)) hx hb dX13_does_31 (by decide) ?_
  refine lv_iadd hx hb dX13_does_32 ?_
  refine lv_topi (fun y9 ey9 => ?_)
  have hf := nm_at ey9 hf
  obtain ⟨h10, hf⟩ := ck_elim hf
  refine b_iald (n := 250) hM hW 11 21 hc (by decide) rfl rfl rfl rfl h10 dX13_does_33 ?_
  refine lv_topi (fun y11 ey11 => ?_)
  have hf := nm_at ey11 hf
  refine lv_istore (lv' := [(5, .int y11), (4, .int y8), (3, .int y5), (2, .int y2), (0, .ref a), (1, .int x1)]) hx hb dX13_does_34 hl (by decide) rfl (fun ls hl => ?_)
  refine lv_iload_n hx hb dX13_does_36 rfl (lv_at hl 3 rfl) ?_
  refine lv_iconst (v := (4 : Int32)) hx hb dX13_does_37 (by decide) ?_
  refine lv_icmp_ne (tgt := 45) hx hb dX13_does_38 (by decide) (fun c12 => ?_) (fun c12 => ?_)
  · have hf := if_f c12 hf
    refine lv_iconst (v := (0 : Int32)) hx hb dX13_does_45 (by decide) ?_
    exact t_X13_does_46 (fu := fu) hM hml hr hlk hc0 hf hc _ _ hW _ (lv_sub hl [4, 3, 2, 1, 0] rfl)
  · have hf := if_t c12 hf
    refine lv_iconst (v := (1 : Int32)) hx hb dX13_does_41 (by decide) ?_
    refine lv_goto (tgt := 46) hx hb dX13_does_42 (by decide) ?_
    exact t_X13_does_46 (fu := fu) hM hml hr hlk hc0 hf hc _ _ hW _ (lv_sub hl [4, 3, 2, 1, 0] rfl)
noncomputable def f_X13_does (fu : Nat) (v : GV) (x1 : Int32) : Option (Int32 × GV) := f_X13_does_0 fu v x1
set_option maxHeartbeats 4000000 in
set_option maxRecDepth 100000 in
theorem c_X13_does (l : Launch) (G : GG) (fu : Nat) (S : ST) (a : Nat) (v : GV) (x1 : Int32) {z : Int32} {w : GV} (hc : gC v = 12) (hf : f_X13_does fu v x1 = some (z, w)) : Ct l yX13_does w_X13_does RM_X13_does G (st S a v) [.ref a, .int x1] (some (.int z)) (st S a w) 0 0 := by
  refine Met.ofW (cc := cX13_does) (maxL := 7) (ret := (some .boolean)) (by decide) rfl ?_
  intro p e s m args below meth c s₁ B hml hv
  obtain ⟨rfl, hB, hK, hz⟩ := hv
  have hM : MC G p s m _ c cX13_does w_X13_does RX13 := ⟨B.exec, B.bytes, findClass_of_methodNamed B.named, atoms_spec (ws := w_X13_does) B.pre, hK, hz⟩
  have hW : WB G (st S a v) s s.heap [] := ⟨hB, va_S.rf⟩
  have hl := lv_entry ([.ref a, .int x1]) (n := 7) (Nat.le_of_ble_eq_true rfl)
  rw [lg_entry_eq]
  generalize (lg_sl ([.ref a, .int x1]) ++ List.replicate (7 - (lg_sl ([.ref a, .int x1])).length) Slot.unset).toArray = ls at hl ⊢
  have hl : lv_has ls 7 [(0, .ref a), (1, .int x1)] := hl
  exact t_X13_does_0 hM hml B.returns B.notSynchronized hc hf hc _ _ hW _ (lv_sub hl [0, 1] rfl)
abbrev w_X13_coinsOf : List Cond := Cond.code yX13_coinsOf cX13_coinsOf 4 (some .int) :: wsL_law0
abbrev RM_X13_coinsOf : Room := { frames := 1, cells := 0, slots := 0, locals := 20 }
noncomputable def f_X13_coinsOf_4s (fu : Nat)  (k4 : Int32 → Int32 → Option (Int32)) (v : GV) (x1 : Int32) (x2 : Int32) (x3 : Int32) : Option (Int32) :=
  bd (f_X13_thieves fu v) fun r1 =>
  if r1 ≤ x3 then
    (some x2)
  else
    (nm (((x1 + (43 : Int32)) + x3)) fun y3 =>
    ck (inb y3 1518) <|
    nm ((x2 + (gA v 24 y3.toNatClampNeg))) fun y5 =>
    nm (x3 + (1 : Int32)) fun y6 =>
    k4 y5 y6)
noncomputable def f_X13_coinsOf_4 (fu n : Nat)  (v : GV) (x1 : Int32) : Int32 → Int32 → Option (Int32) :=
  lq_2 (fun k4 => f_X13_coinsOf_4s fu  k4 v x1) n
set_option maxHeartbeats 4000000 in
set_option maxRecDepth 100000 in
theorem t_X13_coinsOf_4s {G : GG} {p : Program} {l : Launch} {e : Env} {s : State} {m : MethodId} {args : Array Value} {below : List Frame} {meth : Method} {c : Code} {S : ST} {fu : Nat} {z : Int32} {a : Nat} {v : GV}  (hM : MC G p s m args c cX13_coinsOf w_X13_coinsOf RX13) (hml : c.maxLocals = 4) (hr : meth.sig.returnType = (some .int)) (hlk : meth.locks = false) (hc0 : gC v = 12) {k4 : Int32 → Int32 → Option (Int32)} {x1 : Int32}  (hk4 : ∀ (x2 : Int32) (x3 : Int32), k4 x2 x3 = some z → ∀ (H : Heap) (locs : List Loc), WB G (st S a v) s H locs → ∀ (ls : Array Slot), lv_has ls 4 [(0, .ref a), (1, .int x1), (2, .int x2), (3, .int x3)] → W p l e RM_X13_coinsOf s m args below meth c H locs 0 0 (QR G below args s (some (.int z)) (st S a v) (st S a v)) (F0 m 4 ls [])) : ∀ (x2 : Int32) (x3 : Int32), f_X13_coinsOf_4s fu  k4 v x1 x2 x3 = some z → ∀ (H : Heap) (locs : List Loc), WB G (st S a v) s H locs → ∀ (ls : Array Slot), lv_has ls 4 [(0, .ref a), (1, .int x1), (2, .int x2), (3, .int x3)] → W p l e RM_X13_coinsOf s m args below meth c H locs 0 0 (QR G below args s (some (.int z)) (st S a v) (st S a v)) (F0 m 4 ls []) := by
  intro x2 x3 hf H locs hW ls hl
  have hx := hM.1
  have hb := hM.2.1
  have hc := hc0
  refine lv_iload_n hx hb dX13_coinsOf_4 rfl (lv_at hl 3 rfl) ?_
  refine lv_aload_n hx hb dX13_coinsOf_5 rfl (lv_at hl 0 rfl) ?_
  obtain ⟨r1, hr1, hf⟩ := bd_elim hf
  refine b_callVi [] [.int x3] hM hml hl.1 hW hc rfl (by decide) (c_X13_thieves l G fu _ a v hc hr1) (cwV 0 hM.2.2.2.1 (gV mk_RX13_320 im_X13_thieves se_X13_thieves it_RX13 cd_X13_thieves) rfl rfl rfl (by decide +kernel) ⟨Nat.le_of_ble_eq_true rfl, Nat.le_of_ble_eq_true rfl⟩) rfl rfl (Nat.le_of_ble_eq_true rfl) ⟨Nat.zero_le _, Nat.zero_le _⟩ dX13_coinsOf_6 (fun H locs hW hk => ?_)
  refine lv_icmp_ge (tgt := 32) hx hb dX13_coinsOf_9 (by decide) (fun c2 => ?_) (fun c2 => ?_)
  · have hf := if_t c2 hf
    refine lv_iload_n hx hb dX13_coinsOf_32 rfl (lv_at hl 2 rfl) ?_
    cases hf
    exact W.iret hx hb hr (b_ret0 hW (fun _ _ => rfl) _) hW.2.2.2 dX13_coinsOf_33 hlk
  · have hf := if_f c2 hf
    refine lv_iload_n hx hb dX13_coinsOf_12 rfl (lv_at hl 2 rfl) ?_
    refine lv_aload_n hx hb dX13_coinsOf_13 rfl (lv_at hl 0 rfl) ?_
    refine b_get hM hW 11 24 hc rfl rfl (by decide) wi_X13 (wgm fk_RX13_125) (x := .ref (a + 16)) rfl dX13_coinsOf_14 ?_
    refine lv_iload_n hx hb dX13_coinsOf_17 rfl (lv_at hl 1 rfl) ?_
    refine lv_bipush (v := (43 : Int32)) hx hb dX13_coinsOf_18 (by decide) ?_
    refine lv_iadd hx hb dX13_coinsOf_20 ?_
    refine lv_iload_n hx hb dX13_coinsOf_21 rfl (lv_at hl 3 rfl) ?_
    refine lv_iadd hx hb dX13_coinsOf_22 ?_
    refine lv_topi (fun y3 ey3 => ?_)
    have hf := nm_at ey3 hf
    obtain ⟨h4, hf⟩ := ck_elim hf
    refine b_iald (n := 1518) hM hW 11 24 hc (by decide) rfl rfl rfl rfl h4 dX13_coinsOf_23 ?_
    refine lv_iadd hx hb dX13_coinsOf_24 ?_
    refine lv_topi (fun y5 ey5 => ?_)
    have hf := nm_at ey5 hf
    refine lv_istore_n (lv' := [(2, .int y5), (0, .ref a), (1, .int x1), (3, .int x3)]) hx hb dX13_coinsOf_25 rfl hl (by decide) rfl (fun ls hl => ?_)
    obtain ⟨y6, ey6⟩ : ∃ y : Int32, y = x3 + (1 : Int32) := ⟨_, rfl⟩
    have hf := nm_at ey6 hf
    refine lv_iinc (v := y6) (lv' := [(3, .int y6), (2, .int y5), (0, .ref a), (1, .int x1)]) hx hb dX13_coinsOf_26 hl (k := 3) rfl (by rw [ey6]; rfl) (by decide) rfl (fun ls hl => ?_)
    refine lv_goto (tgt := 4) hx hb dX13_coinsOf_29 (by decide) ?_
    exact hk4 _ _ hf _ _ hW _ (lv_sub hl [2, 3, 1, 0] rfl)
theorem t_X13_coinsOf_4 {G : GG} {p : Program} {l : Launch} {e : Env} {s : State} {m : MethodId} {args : Array Value} {below : List Frame} {meth : Method} {c : Code} {S : ST} {fu : Nat} {z : Int32} {a : Nat} {v : GV}  {x1 : Int32} (hM : MC G p s m args c cX13_coinsOf w_X13_coinsOf RX13) (hml : c.maxLocals = 4) (hr : meth.sig.returnType = (some .int)) (hlk : meth.locks = false) (hc0 : gC v = 12)  : ∀ {n : Nat} (x2 : Int32) (x3 : Int32), f_X13_coinsOf_4 fu n  v x1 x2 x3 = some z → ∀ (H : Heap) (locs : List Loc), WB G (st S a v) s H locs → ∀ (ls : Array Slot), lv_has ls 4 [(0, .ref a), (1, .int x1), (2, .int x2), (3, .int x3)] → W p l e RM_X13_coinsOf s m args below meth c H locs 0 0 (QR G below args s (some (.int z)) (st S a v) (st S a v)) (F0 m 4 ls []) := by
  intro n
  induction n with
  | zero => intro x2 x3 hf; cases hf
  | succ n ih => intro x2 x3 hf; exact t_X13_coinsOf_4s (fu := fu) hM hml hr hlk hc0  (k4 := f_X13_coinsOf_4 fu n  v x1) ih _ _ hf
noncomputable def f_X13_coinsOf_0 (fu : Nat)  (v : GV) (x1 : Int32) : Option (Int32) :=
  f_X13_coinsOf_4 fu fu v x1 (0 : Int32) (0 : Int32)
set_option maxHeartbeats 4000000 in
set_option maxRecDepth 100000 in
theorem t_X13_coinsOf_0 {G : GG} {p : Program} {l : Launch} {e : Env} {s : State} {m : MethodId} {args : Array Value} {below : List Frame} {meth : Method} {c : Code} {S : ST} {fu : Nat} {z : Int32} {a : Nat} {v : GV}  {x1 : Int32} (hM : MC G p s m args c cX13_coinsOf w_X13_coinsOf RX13) (hml : c.maxLocals = 4) (hr : meth.sig.returnType = (some .int)) (hlk : meth.locks = false) (hc0 : gC v = 12)  (hf : f_X13_coinsOf_0 fu  v x1 = some z) : ∀ (H : Heap) (locs : List Loc), WB G (st S a v) s H locs → ∀ (ls : Array Slot), lv_has ls 4 [(0, .ref a), (1, .int x1)] → W p l e RM_X13_coinsOf s m args below meth c H locs 0 0 (QR G below args s (some (.int z)) (st S a v) (st S a v)) (F0 m 0 ls []) := by
  intro H locs hW ls hl
  have hx := hM.1
  have hb := hM.2.1
  have hc := hc0
  refine lv_iconst (v := (0 : Int32)) hx hb dX13_coinsOf_0 (by decide) ?_
  refine lv_istore_n (lv' := [(2, .int (0 : Int32)), (0, .ref a), (1, .int x1)]) hx hb dX13_coinsOf_1 rfl hl (by decide) rfl (fun ls hl => ?_)
  refine lv_iconst (v := (0 : Int32)) hx hb dX13_coinsOf_2 (by decide) ?_
  refine lv_istore_n (lv' := [(3, .int (0 : Int32)), (2, .int (0 : Int32)), (0, .ref a), (1, .int x1)]) hx hb dX13_coinsOf_3 rfl hl (by decide) rfl (fun ls hl => ?_)
  exact t_X13_coinsOf_4 (fu := fu) hM hml hr hlk hc0 _ _ hf _ _ hW _ (lv_sub hl [2, 3, 1, 0] rfl)
noncomputable def f_X13_coinsOf (fu : Nat) (v : GV) (x1 : Int32) : Option (Int32) := f_X13_coinsOf_0 fu v x1
set_option maxHeartbeats 4000000 in
set_option maxRecDepth 100000 in
theorem c_X13_coinsOf (l : Launch) (G : GG) (fu : Nat) (S : ST) (a : Nat) (v : GV) (x1 : Int32) {z : Int32} (hc : gC v = 12) (hf : f_X13_coinsOf fu v x1 = some z) : Ct l yX13_coinsOf w_X13_coinsOf RM_X13_coinsOf G (st S a v) [.ref a, .int x1] (some (.int z)) (st S a v) 0 0 := by
  refine Met.ofW (cc := cX13_coinsOf) (maxL := 4) (ret := (some .int)) (by decide) rfl ?_
  intro p e s m args below meth c s₁ B hml hv
  obtain ⟨rfl, hB, hK, hz⟩ := hv
  have hM : MC G p s m _ c cX13_coinsOf w_X13_coinsOf RX13 := ⟨B.exec, B.bytes, findClass_of_methodNamed B.named, atoms_spec (ws := w_X13_coinsOf) B.pre, hK, hz⟩
  have hW : WB G (st S a v) s s.heap [] := ⟨hB, va_S.rf⟩
  have hl := lv_entry ([.ref a, .int x1]) (n := 4) (Nat.le_of_ble_eq_true rfl)
  rw [lg_entry_eq]
  generalize (lg_sl ([.ref a, .int x1]) ++ List.replicate (4 - (lg_sl ([.ref a, .int x1])).length) Slot.unset).toArray = ls at hl ⊢
  have hl : lv_has ls 4 [(0, .ref a), (1, .int x1)] := hl
  exact t_X13_coinsOf_0 hM hml B.returns B.notSynchronized hc hf _ _ hW _ (lv_sub hl [0, 1] rfl)
abbrev w_X13_judged : List Cond := Cond.code yX13_judged cX13_judged 5 (some .int) :: wsL_law0
abbrev RM_X13_judged : Room := { frames := 6, cells := 0, slots := 0, locals := 143 }
noncomputable def f_X13_judged_63 (fu : Nat) (k28 : Int32 → Int32 → GV → Option (Int32 × GV)) (v : GV) (x1 : Int32) (x3 : Int32) (t0 : Int32) : Option (Int32 × GV) :=
  nm (x3 + (1 : Int32)) fun y1 =>
  k28 t0 y1 v
set_option maxHeartbeats 4000000 in
set_option maxRecDepth 100000 in
theorem t_X13_judged_63 {G : GG} {p : Program} {l : Launch} {e : Env} {s : State} {m : MethodId} {args : Array Value} {below : List Frame} {meth : Method} {c : Code} {S : ST} {fu : Nat} {z : Int32 × GV} {a : Nat} {v0 : GV} {k28 : Int32 → Int32 → GV → Option (Int32 × GV)} {v : GV} {x1 : Int32} {x3 : Int32} {t0 : Int32} (hM : MC G p s m args c cX13_judged w_X13_judged RX13) (hml : c.maxLocals = 5) (hr : meth.sig.returnType = (some .int)) (hlk : meth.locks = false) (hc0 : gC v0 = 12) (hk28 : ∀ (x2 : Int32) (x3 : Int32) (v : GV), k28 x2 x3 v = some z → gC v = 12 → ∀ (H : Heap) (locs : List Loc), WB G (st S a v) s H locs → ∀ (ls : Array Slot), lv_has ls 5 [(0, .ref a), (1, .int x1), (2, .int x2), (3, .int x3)] → W p l e RM_X13_judged s m args below meth c H locs 0 0 (QR G below args s (some (.int z.1)) (st S a v0) (st S a z.2)) (F0 m 28 ls [])) (hf : f_X13_judged_63 fu k28 v x1 x3 t0 = some z) : gC v = 12 → ∀ (H : Heap) (locs : List Loc), WB G (st S a v) s H locs → ∀ (ls : Array Slot), lv_has ls 5 [(0, .ref a), (1, .int x1), (3, .int x3)] → W p l e RM_X13_judged s m args below meth c H locs 0 0 (QR G below args s (some (.int z.1)) (st S a v0) (st S a z.2)) (F0 m 63 ls [.int t0]) := by
  intro hc H locs hW ls hl
  have hx := hM.1
  have hb := hM.2.1
  refine lv_istore_n (lv' := [(2, .int t0), (0, .ref a), (1, .int x1), (3, .int x3)]) hx hb dX13_judged_63 rfl hl (by decide) rfl (fun ls hl => ?_)
  obtain ⟨y1, ey1⟩ : ∃ y : Int32, y = x3 + (1 : Int32) := ⟨_, rfl⟩
  have hf := nm_at ey1 hf
  refine lv_iinc (v := y1) (lv' := [(3, .int y1), (2, .int t0), (0, .ref a), (1, .int x1)]) hx hb dX13_judged_64 hl (k := 3) rfl (by rw [ey1]; rfl) (by decide) rfl (fun ls hl => ?_)
  refine lv_goto (tgt := 28) hx hb dX13_judged_67 (by decide) ?_
  exact hk28 _ _ _ hf hc _ _ hW _ (lv_sub hl [2, 3, 1, 0] rfl)
noncomputable def f_X13_judged_62 (fu : Nat) (k28 : Int32 → Int32 → GV → Option (Int32 × GV)) (v : GV) (x1 : Int32) (x2 : Int32) (x3 : Int32) : Option (Int32 × GV) :=
  f_X13_judged_63 fu k28 v x1 x3 x2
set_option maxHeartbeats 4000000 in
set_option maxRecDepth 100000 in
theorem t_X13_judged_62 {G : GG} {p : Program} {l : Launch} {e : Env} {s : State} {m : MethodId} {args : Array Value} {below : List Frame} {meth : Method} {c : Code} {S : ST} {fu : Nat} {z : Int32 × GV} {a : Nat} {v0 : GV} {k28 : Int32 → Int32 → GV → Option (Int32 × GV)} {v : GV} {x1 : Int32} {x2 : Int32} {x3 : Int32} (hM : MC G p s m args c cX13_judged w_X13_judged RX13) (hml : c.maxLocals = 5) (hr : meth.sig.returnType = (some .int)) (hlk : meth.locks = false) (hc0 : gC v0 = 12) (hk28 : ∀ (x2 : Int32) (x3 : Int32) (v : GV), k28 x2 x3 v = some z → gC v = 12 → ∀ (H : Heap) (locs : List Loc), WB G (st S a v) s H locs → ∀ (ls : Array Slot), lv_has ls 5 [(0, .ref a), (1, .int x1), (2, .int x2), (3, .int x3)] → W p l e RM_X13_judged s m args below meth c H locs 0 0 (QR G below args s (some (.int z.1)) (st S a v0) (st S a z.2)) (F0 m 28 ls [])) (hf : f_X13_judged_62 fu k28 v x1 x2 x3 = some z) : gC v = 12 → ∀ (H : Heap) (locs : List Loc), WB G (st S a v) s H locs → ∀ (ls : Array Slot), lv_has ls 5 [(0, .ref a), (1, .int x1), (2, .int x2), (3, .int x3)] → W p l e RM_X13_judged s m args below meth c H locs 0 0 (QR G below args s (some (.int z.1)) (st S a v0) (st S a z.2)) (F0 m 62 ls []) := by
  intro hc H locs hW ls hl
  have hx := hM.1
  have hb := hM.2.1
  refine lv_iload_n hx hb dX13_judged_62 rfl (lv_at hl 2 rfl) ?_
  exact t_X13_judged_63 (fu := fu) hM hml hr hlk hc0 hk28 hf hc _ _ hW _ (lv_sub hl [0, 1, 3] rfl)
noncomputable def f_X13_judged_28s (fu : Nat)  (k28 : Int32 → Int32 → GV → Option (Int32 × GV)) (x1 : Int32) (x2 : Int32) (x3 : Int32) (v : GV) : Option (Int32 × GV) :=
  if (gA v 21 (0 : Int32).toNatClampNeg) ≤ x3 then
    (if x1 = 0 then
      (some (x2, v))
    else
      (if x1 = (1 : Int32) then
        (bd (f_X13_hanging fu v (1386 : Int32)) fun r5 =>
        some (r5, v))
      else
        (bd (f_X13_coinsOf fu v (1386 : Int32)) fun r4 =>
        some (r4, v))))
  else
    (bd2 (f_X13_does fu v ((1 : Int32) + ((4 : Int32) * x3))) fun r6 v7 =>
    if r6 = 0 then
      (if 0 ≤ x2 then
        (f_X13_judged_62 fu k28 v7 x1 x2 x3)
      else
        (f_X13_judged_63 fu k28 v7 x1 x3 x3))
    else
      (f_X13_judged_62 fu k28 v7 x1 x2 x3))
noncomputable def f_X13_judged_28 (fu n : Nat)  (x1 : Int32) : Int32 → Int32 → GV → Option (Int32 × GV) :=
  lq_3 (fun k28 => f_X13_judged_28s fu  k28 x1) n
set_option maxHeartbeats 4000000 in
set_option maxRecDepth 100000 in
theorem t_X13_judged_28s {G : GG} {p : Program} {l : Launch} {e : Env} {s : State} {m : MethodId} {args : Array Value} {below : List Frame} {meth : Method} {c : Code} {S : ST} {fu : Nat} {z : Int32 × GV} {a : Nat} {v0 : GV}  (hM : MC G p s m args c cX13_judged w_X13_judged RX13) (hml : c.maxLocals = 5) (hr : meth.sig.returnType = (some .int)) (hlk : meth.locks = false) (hc0 : gC v0 = 12) {k28 : Int32 → Int32 → GV → Option (Int32 × GV)} {x1 : Int32}  (hk28 : ∀ (x2 : Int32) (x3 : Int32) (v : GV), k28 x2 x3 v = some z → gC v = 12 → ∀ (H : Heap) (locs : List Loc), WB G (st S a v) s H locs → ∀ (ls : Array Slot), lv_has ls 5 [(0, .ref a), (1, .int x1), (2, .int x2), (3, .int x3)] → W p l e RM_X13_judged s m args below meth c H locs 0 0 (QR G below args s (some (.int z.1)) (st S a v0) (st S a z.2)) (F0 m 28 ls [])) : ∀ (x2 : Int32) (x3 : Int32) (v : GV), f_X13_judged_28s fu  k28 x1 x2 x3 v = some z → gC v = 12 → ∀ (H : Heap) (locs : List Loc), WB G (st S a v) s H locs → ∀ (ls : Array Slot), lv_has ls 5 [(0, .ref a), (1, .int x1), (2, .int x2), (3, .int x3)] → W p l e RM_X13_judged s m args below meth c H locs 0 0 (QR G below args s (some (.int z.1)) (st S a v0) (st S a z.2)) (F0 m 28 ls []) := by
  intro x2 x3 v hf hc H locs hW ls hl
  have hx := hM.1
  have hb := hM.2.1
  refine lv_iload_n hx hb dX13_judged_28 rfl (lv_at hl 3 rfl) ?_
  refine lv_aload_n hx hb dX13_judged_29 rfl (lv_at hl 0 rfl) ?_
  refine b_get hM hW 11 21 hc rfl rfl (by decide) wi_X13 (wgm fk_RX13_116) (x := .ref (a + 13)) rfl dX13_judged_30 ?_
  refine lv_iconst (v := (0 : Int32)) hx hb dX13_judged_33 (by decide) ?_
  refine b_iald (n := 250) hM hW 11 21 hc (by decide) rfl rfl rfl rfl (by decide) dX13_judged_34 ?_
  refine lv_icmp_ge (tgt := 70) hx hb dX13_judged_35 (by decide) (fun c1 => ?_) (fun c1 => ?_)
  · have hf := if_t c1 hf
    refine lv_iload_n hx hb dX13_judged_70 rfl (lv_at hl 1 rfl) ?_
    refine lv_if_ne (tgt := 78) hx hb dX13_judged_71 (by decide) (fun c2 => ?_) (fun c2 => ?_)
    · have hf := if_f c2 hf
      refine lv_iload_n hx hb dX13_judged_78 rfl (lv_at hl 1 rfl) ?_
      refine lv_iconst (v := (1 : Int32)) hx hb dX13_judged_79 (by decide) ?_
      refine lv_icmp_ne (tgt := 93) hx hb dX13_judged_80 (by decide) (fun c3 => ?_) (fun c3 => ?_)
      · have hf := if_f c3 hf
        refine lv_aload_n hx hb dX13_judged_93 rfl (lv_at hl 0 rfl) ?_
        refine lv_sipush (v := (1386 : Int32)) hx hb dX13_judged_94 (by decide) ?_
        obtain ⟨r4, hr4, hf⟩ := bd_elim hf
        refine b_callVi [.int (1386 : Int32)] [] hM hml hl.1 hW hc rfl (by decide) (c_X13_coinsOf l G fu _ a v _ hc hr4) (cwV 1 hM.2.2.2.1 (gV mk_RX13_403 im_X13_coinsOf se_X13_coinsOf it_RX13 cd_X13_coinsOf) rfl rfl rfl (by decide +kernel) ⟨Nat.le_of_ble_eq_true rfl, Nat.le_of_ble_eq_true rfl⟩) rfl rfl (Nat.le_of_ble_eq_true rfl) ⟨Nat.zero_le _, Nat.zero_le _⟩ dX13_judged_97 (fun H locs hW hk => ?_)
        cases hf
        exact W.iret hx hb hr (b_ret0 hW (keep_s2 hc0 hc) _) hW.2.2.2 dX13_judged_100 hlk
      · have hf := if_t c3 hf
        refine lv_aload_n hx hb dX13_judged_83 rfl (lv_at hl 0 rfl) ?_
        refine lv_sipush (v := (1386 : Int32)) hx hb dX13_judged_84 (by decide) ?_
        obtain ⟨r5, hr5, hf⟩ := bd_elim hf
        refine b_callVi [.int (1386 : Int32)] [] hM hml hl.1 hW hc rfl (by decide) (c_X13_hanging l G fu _ a v _ hc hr5) (cwV 1 hM.2.2.2.1 (gV mk_RX13_364 im_X13_hanging se_X13_hanging it_RX13 cd_X13_hanging) rfl rfl rfl (by decide +kernel) ⟨Nat.le_of_ble_eq_true rfl, Nat.le_of_ble_eq_true rfl⟩) rfl rfl (Nat.le_of_ble_eq_true rfl) ⟨Nat.zero_le _, Nat.zero_le _⟩ dX13_judged_87 (fun H locs hW hk => ?_)
        refine lv_goto (tgt := 100) hx hb dX13_judged_90 (by decide) ?_
        cases hf
        exact W.iret hx hb hr (b_ret0 hW (keep_s2 hc0 hc) _) hW.2.2.2 dX13_judged_100 hlk
    · have hf := if_t c2 hf
      refine lv_iload_n hx hb dX13_judged_74 rfl (lv_at hl 2 rfl) ?_
      refine lv_goto (tgt := 100) hx hb dX13_judged_75 (by decide) ?_
      cases hf
      exact W.iret hx hb hr (b_ret0 hW (keep_s2 hc0 hc) _) hW.2.2.2 dX13_judged_100 hlk
  · have hf := if_f c1 hf
    refine lv_aload_n hx hb dX13_judged_38 rfl (lv_at hl 0 rfl) ?_
    refine lv_iconst (v := (1 : Int32)) hx hb dX13_judged_39 (by decide) ?_
    refine lv_iconst (v := (4 : Int32)) hx hb dX13_judged_40 (by decide) ?_
    refine lv_iload_n hx hb dX13_judged_41 rfl (lv_at hl 3 rfl) ?_
    refine lv_imul hx hb dX13_judged_42 ?_
    refine lv_iadd hx hb dX13_judged_43 ?_
    obtain ⟨r6, v7, hr6, hf⟩ := bd2_elim hf
    refine b_callVi [.int ((1 : Int32) + ((4 : Int32) * x3))] [] hM hml hl.1 hW hc rfl (by decide) (c_X13_does l G fu _ a v _ hc hr6) (cwV 1 hM.2.2.2.1 (gV mk_RX13_400 im_X13_does se_X13_does it_RX13 cd_X13_does) rfl rfl rfl (by decide +kernel) ⟨Nat.le_of_ble_eq_true rfl, Nat.le_of_ble_eq_true rfl⟩) rfl rfl (Nat.le_of_ble_eq_true rfl) ⟨Nat.zero_le _, Nat.zero_le _⟩ dX13_judged_44 (fun H locs hW hk => ?_)
    have hc := keep_at hc hk
    refine lv_istore (lv' := [(4, .int r6), (0, .ref a), (1, .int x1), (2, .int x2), (3, .int x3)]) hx hb dX13_judged_47 hl (by decide) rfl (fun ls hl => ?_)
    refine lv_iload hx hb dX13_judged_49 (lv_at hl 0 rfl) ?_
    refine lv_if_ne (tgt := 62) hx hb dX13_judged_51 (by decide) (fun c8 => ?_) (fun c8 => ?_)
    · have hf := if_f c8 hf
      exact t_X13_judged_62 (fu := fu) hM hml hr hlk hc0 hk28 hf hc _ _ hW _ (lv_sub hl [1, 2, 3, 4] rfl)
    · have hf := if_t c8 hf
      refine lv_iload_n hx hb dX13_judged_54 rfl (lv_at hl 3 rfl) ?_
      refine lv_if_ge (tgt := 62) hx hb dX13_judged_55 (by decide) (fun c9 => ?_) (fun c9 => ?_)
      · have hf := if_t c9 hf
        exact t_X13_judged_62 (fu := fu) hM hml hr hlk hc0 hk28 hf hc _ _ hW _ (lv_sub hl [1, 2, 3, 4] rfl)
      · have hf := if_f c9 hf
        refine lv_iload_n hx hb dX13_judged_58 rfl (lv_at hl 4 rfl) ?_
        refine lv_goto (tgt := 63) hx hb dX13_judged_59 (by decide) ?_
        exact t_X13_judged_63 (fu := fu) hM hml hr hlk hc0 hk28 hf hc _ _ hW _ (lv_sub hl [1, 2, 4] rfl)
theorem t_X13_judged_28 {G : GG} {p : Program} {l : Launch} {e : Env} {s : State} {m : MethodId} {args : Array Value} {below : List Frame} {meth : Method} {c : Code} {S : ST} {fu : Nat} {z : Int32 × GV} {a : Nat} {v0 : GV}  {x1 : Int32} (hM : MC G p s m args c cX13_judged w_X13_judged RX13) (hml : c.maxLocals = 5) (hr : meth.sig.returnType = (some .int)) (hlk : meth.locks = false) (hc0 : gC v0 = 12)  : ∀ {n : Nat} (x2 : Int32) (x3 : Int32) (v : GV), f_X13_judged_28 fu n  x1 x2 x3 v = some z → gC v = 12 → ∀ (H : Heap) (locs : List Loc), WB G (st S a v) s H locs → ∀ (ls : Array Slot), lv_has ls 5 [(0, .ref a), (1, .int x1), (2, .int x2), (3, .int x3)] → W p l e RM_X13_judged s m args below meth c H locs 0 0 (QR G below args s (some (.int z.1)) (st S a v0) (st S a z.2)) (F0 m 28 ls []) := by
  intro n
  induction n with
  | zero => intro x2 x3 v hf; cases hf
  | succ n ih => intro x2 x3 v hf; exact t_X13_judged_28s (fu := fu) hM hml hr hlk hc0  (k28 := f_X13_judged_28 fu n  x1) ih _ _ _ hf
noncomputable def f_X13_judged_0 (fu : Nat)  (v : GV) (x1 : Int32) : Option (Int32 × GV) :=
  nm (sI v 0 (0 : Int32)) fun v1 =>
  bd (f_X13_within fu x1 (0 : Int32) (2 : Int32)) fun r2 =>
  if r2 = 0 then
    (some ((-2 : Int32), v1))
  else
    (bd (f_X13_starts fu v1 (1386 : Int32)) fun v5 =>
    f_X13_judged_28 fu fu x1 (-1 : Int32) (0 : Int32) v5)
set_option maxHeartbeats 4000000 in
set_option maxRecDepth 100000 in
theorem t_X13_judged_0 {G : GG} {p : Program} {l : Launch} {e : Env} {s : State} {m : MethodId} {args : Array Value} {below : List Frame} {meth : Method} {c : Code} {S : ST} {fu : Nat} {z : Int32 × GV} {a : Nat} {v0 : GV}  {v : GV} {x1 : Int32} (hM : MC G p s m args c cX13_judged w_X13_judged RX13) (hml : c.maxLocals = 5) (hr : meth.sig.returnType = (some .int)) (hlk : meth.locks = false) (hc0 : gC v0 = 12)  (hf : f_X13_judged_0 fu  v x1 = some z) : gC v = 12 → ∀ (H : Heap) (locs : List Loc), WB G (st S a v) s H locs → ∀ (ls : Array Slot), lv_has ls 5 [(0, .ref a), (1, .int x1)] → W p l e RM_X13_judged s m args below meth c H locs 0 0 (QR G below args s (some (.int z.1)) (st S a v0) (st S a z.2)) (F0 m 0 ls []) := by
  intro hc H locs hW ls hl
  have hx := hM.1
  have hb := hM.2.1
  refine lv_aload_n hx hb dX13_judged_0 rfl (lv_at hl 0 rfl) ?_
  refine lv_iconst (v := (0 : Int32)) hx hb dX13_judged_1 (by decide) ?_
  refine b_putI hM hW 11 0 hc rfl rfl (by decide) wi_X13 tyX13 tyX13_ok nmX13 (wgm fk_RX13_1) rfl rfl rfl dX13_judged_2 (fun v1 ev1 hc H locs hW => ?_)
  have hf := nm_at ev1 hf
  refine lv_iload_n hx hb dX13_judged_5 rfl (lv_at hl 1 rfl) ?_
  refine lv_iconst (v := (0 : Int32)) hx hb dX13_judged_6 (by decide) ?_
  refine lv_iconst (v := (2 : Int32)) hx hb dX13_judged_7 (by decide) ?_
  obtain ⟨r2, hr2, hf⟩ := bd_elim hf
  refine b_callSi [.int x1, .int (0 : Int32), .int (2 : Int32)] [] hM hml hl.1 hW (c_X13_within l G fu _ _ _ _ hr2) (va_cwS 3 hM.2.2.2.1 (gS mk_RX13_231 sm_X13_within it_RX13 cd_X13_within) rfl rfl rfl (by decide +kernel) ⟨Nat.le_of_ble_eq_true rfl, Nat.le_of_ble_eq_true rfl⟩) rfl rfl (Nat.le_of_ble_eq_true rfl) ⟨Nat.zero_le _, Nat.zero_le _⟩ dX13_judged_8 (fun H locs hW hk => ?_)
  refine lv_if_ne (tgt := 17) hx hb dX13_judged_11 (by decide) (fun c3 => ?_) (fun c3 => ?_)
  · have hf := if_f c3 hf
    refine lv_aload_n hx hb dX13_judged_17 rfl (lv_at hl 0 rfl) ?_
    refine lv_sipush (v := (1386 : Int32)) hx hb dX13_judged_18 (by decide) ?_
    obtain ⟨v5, hr4, hf⟩ := bd_elim hf
    refine b_callVv [.int (1386 : Int32)] [] hM hml hl.1 hW hc rfl (by decide) (c_X13_starts l G fu _ a v1 _ hc hr4) (cwV 1 hM.2.2.2.1 (gV mk_RX13_326 im_X13_starts se_X13_starts it_RX13 cd_X13_starts) rfl rfl rfl (by decide +kernel) ⟨Nat.le_of_ble_eq_true rfl, Nat.le_of_ble_eq_true rfl⟩) rfl rfl (Nat.le_of_ble_eq_true rfl) ⟨Nat.zero_le _, Nat.zero_le _⟩ dX13_judged_21 (fun H locs hW hk => ?_)
    have hc := keep_at hc hk
    refine lv_iconst (v := (-1 : Int32)) hx hb dX13_judged_24 (by decide) ?_
    refine lv_istore_n (lv' := [(2, .int (-1 : Int32)), (0, .ref a), (1, .int x1)]) hx hb dX13_judged_25 rfl hl (by decide) rfl (fun ls hl => ?_)
    refine lv_iconst (v := (0 : Int32)) hx hb dX13_judged_26 (by decide) ?_
    refine lv_istore_n (lv' := [(3, .int (0 : Int32)), (2, .int (-1 : Int32)), (0, .ref a), (1, .int x1)]) hx hb dX13_judged_27 rfl hl (by decide) rfl (fun ls hl => ?_)
    exact t_X13_judged_28 (fu := fu) hM hml hr hlk hc0 _ _ _ hf hc _ _ hW _ (lv_sub hl [2, 3, 1, 0] rfl)
  · have hf := if_t c3 hf
    refine lv_bipush (v := (-2 : Int32)) hx hb dX13_judged_14 (by decide) ?_
    cases hf
    exact W.iret hx hb hr (b_ret0 hW (keep_s2 hc0 hc) _) hW.2.2.2 dX13_judged_16 hlk
noncomputable def f_X13_judged (fu : Nat) (v : GV) (x1 : Int32) : Option (Int32 × GV) := f_X13_judged_0 fu v x1
set_option maxHeartbeats 4000000 in
set_option maxRecDepth 100000 in
theorem c_X13_judged (l : Launch) (G : GG) (fu : Nat) (S : ST) (a : Nat) (v : GV) (x1 : Int32) {z : Int32} {w : GV} (hc : gC v = 12) (hf : f_X13_judged fu v x1 = some (z, w)) : Ct l yX13_judged w_X13_judged RM_X13_judged G (st S a v) [.ref a, .int x1] (some (.int z)) (st S a w) 0 0 := by
  refine Met.ofW (cc := cX13_judged) (maxL := 5) (ret := (some .int)) (by decide) rfl ?_
  intro p e s m args below meth c s₁ B hml hv
  obtain ⟨rfl, hB, hK, hz⟩ := hv
  have hM : MC G p s m _ c cX13_judged w_X13_judged RX13 := ⟨B.exec, B.bytes, findClass_of_methodNamed B.named, atoms_spec (ws := w_X13_judged) B.pre, hK, hz⟩
  have hW : WB G (st S a v) s s.heap [] := ⟨hB, va_S.rf⟩
  have hl := lv_entry ([.ref a, .int x1]) (n := 5) (Nat.le_of_ble_eq_true rfl)
  rw [lg_entry_eq]
  generalize (lg_sl ([.ref a, .int x1]) ++ List.replicate (5 - (lg_sl ([.ref a, .int x1])).length) Slot.unset).toArray = ls at hl ⊢
  have hl : lv_has ls 5 [(0, .ref a), (1, .int x1)] := hl
  exact t_X13_judged_0 hM hml B.returns B.notSynchronized hc hf hc _ _ hW _ (lv_sub hl [0, 1] rfl)
abbrev w_X13_isTree : List Cond := Cond.code yX13_isTree cX13_isTree 6 (some .boolean) :: wsL_law0
abbrev RM_X13_isTree : Room := { frames := 0, cells := 0, slots := 0, locals := 0 }
noncomputable def f_X13_isTree_66 (fu : Nat)  (v : GV) (x2 : Int32) : Option (Int32) :=
  ck (isB x2) <|
  some x2
set_option maxHeartbeats 4000000 in
set_option maxRecDepth 100000 in
theorem t_X13_isTree_66 {G : GG} {p : Program} {l : Launch} {e : Env} {s : State} {m : MethodId} {args : Array Value} {below : List Frame} {meth : Method} {c : Code} {S : ST} {fu : Nat} {z : Int32} {a : Nat} {v : GV}  {x2 : Int32} (hM : MC G p s m args c cX13_isTree w_X13_isTree RX13) (hml : c.maxLocals = 6) (hr : meth.sig.returnType = (some .boolean)) (hlk : meth.locks = false) (hc0 : gC v = 12)  (hf : f_X13_isTree_66 fu  v x2 = some z) : ∀ (H : Heap) (locs : List Loc), WB G (st S a v) s H locs → ∀ (ls : Array Slot), lv_has ls 6 [(2, .int x2)] → W p l e RM_X13_isTree s m args below meth c H locs 0 0 (QR G below args s (some (.int z)) (st S a v) (st S a v)) (F0 m 66 ls []) := by
  intro H locs hW ls hl
  have hx := hM.1
  have hb := hM.2.1
  have hc := hc0
  refine lv_iload_n hx hb dX13_isTree_66 rfl (lv_at hl 0 rfl) ?_
  obtain ⟨h1, hf⟩ := ck_elim hf
  cases hf
  exact W.zret (v := _) hx hb hr (isB_nar h1) (b_ret0 hW (fun _ _ => rfl) _) hW.2.2.2 dX13_isTree_67 hlk
noncomputable def f_X13_isTree_59 (fu : Nat) (k4 : Int32 → Int32 → Option (Int32)) (v : GV) (x1 : Int32) (x3 : Int32) (t0 : Int32) : Option (Int32) :=
  nm (x3 + (1 : Int32)) fun y1 =>
  k4 t0 y1
set_option maxHeartbeats 4000000 in
set_option maxRecDepth 100000 in
theorem t_X13_isTree_59 {G : GG} {p : Program} {l : Launch} {e : Env} {s : State} {m : MethodId} {args : Array Value} {below : List Frame} {meth : Method} {c : Code} {S : ST} {fu : Nat} {z : Int32} {a : Nat} {v : GV} {k4 : Int32 → Int32 → Option (Int32)} {x1 : Int32} {x3 : Int32} {t0 : Int32} (hM : MC G p s m args c cX13_isTree w_X13_isTree RX13) (hml : c.maxLocals = 6) (hr : meth.sig.returnType = (some .boolean)) (hlk : meth.locks = false) (hc0 : gC v = 12) (hk4 : ∀ (x2 : Int32) (x3 : Int32), k4 x2 x3 = some z → ∀ (H : Heap) (locs : List Loc), WB G (st S a v) s H locs → ∀ (ls : Array Slot), lv_has ls 6 [(0, .ref a), (1, .int x1), (2, .int x2), (3, .int x3)] → W p l e RM_X13_isTree s m args below meth c H locs 0 0 (QR G below args s (some (.int z)) (st S a v) (st S a v)) (F0 m 4 ls [])) (hf : f_X13_isTree_59 fu k4 v x1 x3 t0 = some z) : ∀ (H : Heap) (locs : List Loc), WB G (st S a v) s H locs → ∀ (ls : Array Slot), lv_has ls 6 [(0, .ref a), (1, .int x1), (3, .int x3)] → W p l e RM_X13_isTree s m args below meth c H locs 0 0 (QR G below args s (some (.int z)) (st S a v) (st S a v)) (F0 m 59 ls [.int t0]) := by
  intro H locs hW ls hl
  have hx := hM.1
  have hb := hM.2.1
  have hc := hc0
  refine lv_istore_n (lv' := [(2, .int t0), (0, .ref a), (1, .int x1), (3, .int x3)]) hx hb dX13_isTree_59 rfl hl (by decide) rfl (fun ls hl => ?_)
  obtain ⟨y1, ey1⟩ : ∃ y : Int32, y = x3 + (1 : Int32) := ⟨_, rfl⟩
  have hf := nm_at ey1 hf
  refine lv_iinc (v := y1) (lv' := [(3, .int y1), (2, .int t0), (0, .ref a), (1, .int x1)]) hx hb dX13_isTree_60 hl (k := 3) rfl (by rw [ey1]; rfl) (by decide) rfl (fun ls hl => ?_)
  refine lv_goto (tgt := 4) hx hb dX13_isTree_63 (by decide) ?_
  exact hk4 _ _ hf _ _ hW _ (lv_sub hl [2, 3, 1, 0] rfl)
noncomputable def f_X13_isTree_41 (fu : Nat) (k4 : Int32 → Int32 → Option (Int32)) (k19 : Int32 → Int32 → Option (Int32)) (v : GV) (x1 : Int32) (x3 : Int32) (x5 : Int32) (t0 : Int32) : Option (Int32) :=
  nm (x5 + (1 : Int32)) fun y1 =>
  k19 t0 y1
set_option maxHeartbeats 4000000 in
set_option maxRecDepth 100000 in
theorem t_X13_isTree_41 {G : GG} {p : Program} {l : Launch} {e : Env} {s : State} {m : MethodId} {args : Array Value} {below : List Frame} {meth : Method} {c : Code} {S : ST} {fu : Nat} {z : Int32} {a : Nat} {v : GV} {k4 : Int32 → Int32 → Option (Int32)} {k19 : Int32 → Int32 → Option (Int32)} {x1 : Int32} {x3 : Int32} {x5 : Int32} {t0 : Int32} (hM : MC G p s m args c cX13_isTree w_X13_isTree RX13) (hml : c.maxLocals = 6) (hr : meth.sig.returnType = (some .boolean)) (hlk : meth.locks = false) (hc0 : gC v = 12) (hk4 : ∀ (x2 : Int32) (x3 : Int32), k4 x2 x3 = some z → ∀ (H : Heap) (locs : List Loc), WB G (st S a v) s H locs → ∀ (ls : Array Slot), lv_has ls 6 [(0, .ref a), (1, .int x1), (2, .int x2), (3, .int x3)] → W p l e RM_X13_isTree s m args below meth c H locs 0 0 (QR G below args s (some (.int z)) (st S a v) (st S a v)) (F0 m 4 ls [])) (hk19 : ∀ (x4 : Int32) (x5 : Int32), k19 x4 x5 = some z → ∀ (H : Heap) (locs : List Loc), WB G (st S a v) s H locs → ∀ (ls : Array Slot), lv_has ls 6 [(0, .ref a), (1, .int x1), (3, .int x3), (4, .int x4), (5, .int x5)] → W p l e RM_X13_isTree s m args below meth c H locs 0 0 (QR G below args s (some (.int z)) (st S a v) (st S a v)) (F0 m 19 ls [])) (hf : f_X13_isTree_41 fu k4 k19 v x1 x3 x5 t0 = some z) : ∀ (H : Heap) (locs : List Loc), WB G (st S a v) s H locs → ∀ (ls : Array Slot), lv_has ls 6 [(0, .ref a), (1, .int x1), (3, .int x3), (5, .int x5)] → W p l e RM_X13_isTree s m args below meth c H locs 0 0 (QR G below args s (some (.int z)) (st S a v) (st S a v)) (F0 m 41 ls [.int t0]) := by
  intro H locs hW ls hl
  have hx := hM.1
  have hb := hM.2.1
  have hc := hc0
  refine lv_istore (lv' := [(4, .int t0), (0, .ref a), (1, .int x1), (3, .int x3), (5, .int x5)]) hx hb dX13_isTree_41 hl (by decide) rfl (fun ls hl => ?_)
  obtain ⟨y1, ey1⟩ : ∃ y : Int32, y = x5 + (1 : Int32) := ⟨_, rfl⟩
  have hf := nm_at ey1 hf
  refine lv_iinc (v := y1) (lv' := [(5, .int y1), (4, .int t0), (0, .ref a), (1, .int x1), (3, .int x3)]) hx hb dX13_isTree_43 hl (k := 4) rfl (by rw [ey1]; rfl) (by decide) rfl (fun ls hl => ?_)
  refine lv_goto (tgt := 19) hx hb dX13_isTree_46 (by decide) ?_
  exact hk19 _ _ hf _ _ hW _ (lv_sub hl [2, 3, 4, 1, 0] rfl)
noncomputable def f_X13_isTree_19s (fu : Nat) (k4 : Int32 → Int32 → Option (Int32)) (k19 : Int32 → Int32 → Option (Int32)) (v : GV) (x1 : Int32) (x3 : Int32) (x4 : Int32) (x5 : Int32) : Option (Int32) :=
  if x1 ≤ x5 then
    (if x4 = 0 then
      (f_X13_isTree_59 fu k4 v x1 x3 (1 : Int32))
    else
      (f_X13_isTree_59 fu k4 v x1 x3 (0 : Int32)))
  else
    (if x4 = 0 then
      (f_X13_isTree_41 fu k4 k19 v x1 x3 x5 (0 : Int32))
    else
      (ck (inb x4 6) <|
      f_X13_isTree_41 fu k4 k19 v x1 x3 x5 (gA v 28 x4.toNatClampNeg)))
noncomputable def f_X13_isTree_19 (fu n : Nat) (k4 : Int32 → Int32 → Option (Int32)) (v : GV) (x1 : Int32) (x3 : Int32) : Int32 → Int32 → Option (Int32) :=
  lq_2 (fun k19 => f_X13_isTree_19s fu k4 k19 v x1 x3) n
set_option maxHeartbeats 4000000 in
set_option maxRecDepth 100000 in
theorem t_X13_isTree_19s {G : GG} {p : Program} {l : Launch} {e : Env} {s : State} {m : MethodId} {args : Array Value} {below : List Frame} {meth : Method} {c : Code} {S : ST} {fu : Nat} {z : Int32} {a : Nat} {v : GV} {k4 : Int32 → Int32 → Option (Int32)} (hM : MC G p s m args c cX13_isTree w_X13_isTree RX13) (hml : c.maxLocals = 6) (hr : meth.sig.returnType = (some .boolean)) (hlk : meth.locks = false) (hc0 : gC v = 12) {k19 : Int32 → Int32 → Option (Int32)} {x1 : Int32} {x3 : Int32} (hk4 : ∀ (x2 : Int32) (x3 : Int32), k4 x2 x3 = some z → ∀ (H : Heap) (locs : List Loc), WB G (st S a v) s H locs → ∀ (ls : Array Slot), lv_has ls 6 [(0, .ref a), (1, .int x1), (2, .int x2), (3, .int x3)] → W p l e RM_X13_isTree s m args below meth c H locs 0 0 (QR G below args s (some (.int z)) (st S a v) (st S a v)) (F0 m 4 ls [])) (hk19 : ∀ (x4 : Int32) (x5 : Int32), k19 x4 x5 = some z → ∀ (H : Heap) (locs : List Loc), WB G (st S a v) s H locs → ∀ (ls : Array Slot), lv_has ls 6 [(0, .ref a), (1, .int x1), (3, .int x3), (4, .int x4), (5, .int x5)] → W p l e RM_X13_isTree s m args below meth c H locs 0 0 (QR G below args s (some (.int z)) (st S a v) (st S a v)) (F0 m 19 ls [])) : ∀ (x4 : Int32) (x5 : Int32), f_X13_isTree_19s fu k4 k19 v x1 x3 x4 x5 = some z → ∀ (H : Heap) (locs : List Loc), WB G (st S a v) s H locs → ∀ (ls : Array Slot), lv_has ls 6 [(0, .ref a), (1, .int x1), (3, .int x3), (4, .int x4), (5, .int x5)] → W p l e RM_X13_isTree s m args below meth c H locs 0 0 (QR G below args s (some (.int z)) (st S a v) (st S a v)) (F0 m 19 ls []) := by
  intro x4 x5 hf H locs hW ls hl
  have hx := hM.1
  have hb := hM.2.1
  have hc := hc0
  refine lv_iload hx hb dX13_isTree_19 (lv_at hl 4 rfl) ?_
  refine lv_iload_n hx hb dX13_isTree_21 rfl (lv_at hl 1 rfl) ?_
  refine lv_icmp_ge (tgt := 49) hx hb dX13_isTree_22 (by decide) (fun c1 => ?_) (fun c1 => ?_)
  · have hf := if_t c1 hf
    refine lv_iload hx hb dX13_isTree_49 (lv_at hl 3 rfl) ?_
    refine lv_if_ne (tgt := 58) hx hb dX13_isTree_51 (by decide) (fun c2 => ?_) (fun c2 => ?_)
    · have hf := if_f c2 hf
      refine lv_iconst (v := (0 : Int32)) hx hb dX13_isTree_58 (by decide) ?_
      exact t_X13_isTree_59 (fu := fu) hM hml hr hlk hc0 hk4 hf _ _ hW _ (lv_sub hl [0, 1, 2] rfl)
    · have hf := if_t c2 hf
      refine lv_iconst (v := (1 : Int32)) hx hb dX13_isTree_54 (by decide) ?_
      refine lv_goto (tgt := 59) hx hb dX13_isTree_55 (by decide) ?_
      exact t_X13_isTree_59 (fu := fu) hM hml hr hlk hc0 hk4 hf _ _ hW _ (lv_sub hl [0, 1, 2] rfl)
  · have hf := if_f c1 hf
    refine lv_iload hx hb dX13_isTree_25 (lv_at hl 3 rfl) ?_
    refine lv_if_ne (tgt := 34) hx hb dX13_isTree_27 (by decide) (fun c3 => ?_) (fun c3 => ?_)
    · have hf := if_f c3 hf
      refine lv_aload_n hx hb dX13_isTree_34 rfl (lv_at hl 0 rfl) ?_
      refine b_get hM hW 11 28 hc rfl rfl (by decide) wi_X13 (wgm fk_RX13_135) (x := .ref (a + 19)) rfl dX13_isTree_35 ?_
      refine lv_iload hx hb dX13_isTree_38 (lv_at hl 3 rfl) ?_
      obtain ⟨h4, hf⟩ := ck_elim hf
      refine b_iald (n := 6) hM hW 11 28 hc (by decide) rfl rfl rfl rfl h4 dX13_isTree_40 ?_
      exact t_X13_isTree_41 (fu := fu) hM hml hr hlk hc0 hk4 hk19 hf _ _ hW _ (lv_sub hl [0, 1, 2, 4] rfl)
    · have hf := if_t c3 hf
      refine lv_iconst (v := (0 : Int32)) hx hb dX13_isTree_30 (by decide) ?_
      refine lv_goto (tgt := 41) hx hb dX13_isTree_31 (by decide) ?_
      exact t_X13_isTree_41 (fu := fu) hM hml hr hlk hc0 hk4 hk19 hf _ _ hW _ (lv_sub hl [0, 1, 2, 4] rfl)
theorem t_X13_isTree_19 {G : GG} {p : Program} {l : Launch} {e : Env} {s : State} {m : MethodId} {args : Array Value} {below : List Frame} {meth : Method} {c : Code} {S : ST} {fu : Nat} {z : Int32} {a : Nat} {v : GV} {k4 : Int32 → Int32 → Option (Int32)} {x1 : Int32} {x3 : Int32} (hM : MC G p s m args c cX13_isTree w_X13_isTree RX13) (hml : c.maxLocals = 6) (hr : meth.sig.returnType = (some .boolean)) (hlk : meth.locks = false) (hc0 : gC v = 12) (hk4 : ∀ (x2 : Int32) (x3 : Int32), k4 x2 x3 = some z → ∀ (H : Heap) (locs : List Loc), WB G (st S a v) s H locs → ∀ (ls : Array Slot), lv_has ls 6 [(0, .ref a), (1, .int x1), (2, .int x2), (3, .int x3)] → W p l e RM_X13_isTree s m args below meth c H locs 0 0 (QR G below args s (some (.int z)) (st S a v) (st S a v)) (F0 m 4 ls [])) : ∀ {n : Nat} (x4 : Int32) (x5 : Int32), f_X13_isTree_19 fu n k4 v x1 x3 x4 x5 = some z → ∀ (H : Heap) (locs : List Loc), WB G (st S a v) s H locs → ∀ (ls : Array Slot), lv_has ls 6 [(0, .ref a), (1, .int x1), (3, .int x3), (4, .int x4), (5, .int x5)] → W p l e RM_X13_isTree s m args below meth c H locs 0 0 (QR G below args s (some (.int z)) (st S a v) (st S a v)) (F0 m 19 ls []) := by
  intro n
  induction n with
  | zero => intro x4 x5 hf; cases hf
  | succ n ih => intro x4 x5 hf; exact t_X13_isTree_19s (fu := fu) hM hml hr hlk hc0 hk4 (k19 := f_X13_isTree_19 fu n k4 v x1 x3) ih _ _ hf
noncomputable def f_X13_isTree_4s (fu : Nat)  (k4 : Int32 → Int32 → Option (Int32)) (v : GV) (x1 : Int32) (x2 : Int32) (x3 : Int32) : Option (Int32) :=
  if x1 ≤ x3 then
    (f_X13_isTree_66 fu v x2)
  else
    (if x2 = 0 then
      (f_X13_isTree_66 fu v x2)
    else
      (f_X13_isTree_19 fu fu k4 v x1 x3 x3 (0 : Int32)))
noncomputable def f_X13_isTree_4 (fu n : Nat)  (v : GV) (x1 : Int32) : Int32 → Int32 → Option (Int32) :=
  lq_2 (fun k4 => f_X13_isTree_4s fu  k4 v x1) n
set_option maxHeartbeats 4000000 in
set_option maxRecDepth 100000 in
theorem t_X13_isTree_4s {G : GG} {p : Program} {l : Launch} {e : Env} {s : State} {m : MethodId} {args : Array Value} {below : List Frame} {meth : Method} {c : Code} {S : ST} {fu : Nat} {z : Int32} {a : Nat} {v : GV}  (hM : MC G p s m args c cX13_isTree w_X13_isTree RX13) (hml : c.maxLocals = 6) (hr : meth.sig.returnType = (some .boolean)) (hlk : meth.locks = false) (hc0 : gC v = 12) {k4 : Int32 → Int32 → Option (Int32)} {x1 : Int32}  (hk4 : ∀ (x2 : Int32) (x3 : Int32), k4 x2 x3 = some z → ∀ (H : Heap) (locs : List Loc), WB G (st S a v) s H locs → ∀ (ls : Array Slot), lv_has ls 6 [(0, .ref a), (1, .int x1), (2, .int x2), (3, .int x3)] → W p l e RM_X13_isTree s m args below meth c H locs 0 0 (QR G below args s (some (.int z)) (st S a v) (st S a v)) (F0 m 4 ls [])) : ∀ (x2 : Int32) (x3 : Int32), f_X13_isTree_4s fu  k4 v x1 x2 x3 = some z → ∀ (H : Heap) (locs : List Loc), WB G (st S a v) s H locs → ∀ (ls : Array Slot), lv_has ls 6 [(0, .ref a), (1, .int x1), (2, .int x2), (3, .int x3)] → W p l e RM_X13_isTree s m args below meth c H locs 0 0 (QR G below args s (some (.int z)) (st S a v) (st S a v)) (F0 m 4 ls []) := by
  intro x2 x3 hf H locs hW ls hl
  have hx := hM.1
  have hb := hM.2.1
  have hc := hc0
  refine lv_iload_n hx hb dX13_isTree_4 rfl (lv_at hl 3 rfl) ?_
  refine lv_iload_n hx hb dX13_isTree_5 rfl (lv_at hl 1 rfl) ?_
  refine lv_icmp_ge (tgt := 66) hx hb dX13_isTree_6 (by decide) (fun c1 => ?_) (fun c1 => ?_)
  · have hf := if_t c1 hf
    exact t_X13_isTree_66 (fu := fu) hM hml hr hlk hc0 hf _ _ hW _ (lv_sub hl [2] rfl)
  · have hf := if_f c1 hf
    refine lv_iload_n hx hb dX13_isTree_9 rfl (lv_at hl 2 rfl) ?_
    refine lv_if_eq (tgt := 66) hx hb dX13_isTree_10 (by decide) (fun c2 => ?_) (fun c2 => ?_)
    · have hf := if_t c2 hf
      exact t_X13_isTree_66 (fu := fu) hM hml hr hlk hc0 hf _ _ hW _ (lv_sub hl [2] rfl)
    · have hf := if_f c2 hf
      refine lv_iload_n hx hb dX13_isTree_13 rfl (lv_at hl 3 rfl) ?_
      refine lv_istore (lv' := [(4, .int x3), (0, .ref a), (1, .int x1), (2, .int x2), (3, .int x3)]) hx hb dX13_isTree_14 hl (by decide) rfl (fun ls hl => ?_)
      refine lv_iconst (v := (0 : Int32)) hx hb dX13_isTree_16 (by decide) ?_
      refine lv_istore (lv' := [(5, .int (0 : Int32)), (4, .int x3), (0, .ref a), (1, .int x1), (2, .int x2), (3, .int x3)]) hx hb dX13_isTree_17 hl (by decide) rfl (fun ls hl => ?_)
      exact t_X13_isTree_19 (fu := fu) hM hml hr hlk hc0 hk4 _ _ hf _ _ hW _ (lv_sub hl [2, 3, 5, 1, 0] rfl)
theorem t_X13_isTree_4 {G : GG} {p : Program} {l : Launch} {e : Env} {s : State} {m : MethodId} {args : Array Value} {below : List Frame} {meth : Method} {c : Code} {S : ST} {fu : Nat} {z : Int32} {a : Nat} {v : GV}  {x1 : Int32} (hM : MC G p s m args c cX13_isTree w_X13_isTree RX13) (hml : c.maxLocals = 6) (hr : meth.sig.returnType = (some .boolean)) (hlk : meth.locks = false) (hc0 : gC v = 12)  : ∀ {n : Nat} (x2 : Int32) (x3 : Int32), f_X13_isTree_4 fu n  v x1 x2 x3 = some z → ∀ (H : Heap) (locs : List Loc), WB G (st S a v) s H locs → ∀ (ls : Array Slot), lv_has ls 6 [(0, .ref a), (1, .int x1), (2, .int x2), (3, .int x3)] → W p l e RM_X13_isTree s m args below meth c H locs 0 0 (QR G below args s (some (.int z)) (st S a v) (st S a v)) (F0 m 4 ls []) := by
  intro n
  induction n with
  | zero => intro x2 x3 hf; cases hf
  | succ n ih => intro x2 x3 hf; exact t_X13_isTree_4s (fu := fu) hM hml hr hlk hc0  (k4 := f_X13_isTree_4 fu n  v x1) ih _ _ hf
noncomputable def f_X13_isTree_0 (fu : Nat)  (v : GV) (x1 : Int32) : Option (Int32) :=
  f_X13_isTree_4 fu fu v x1 (1 : Int32) (1 : Int32)
set_option maxHeartbeats 4000000 in
set_option maxRecDepth 100000 in
theorem t_X13_isTree_0 {G : GG} {p : Program} {l : Launch} {e : Env} {s : State} {m : MethodId} {args : Array Value} {below : List Frame} {meth : Method} {c : Code} {S : ST} {fu : Nat} {z : Int32} {a : Nat} {v : GV}  {x1 : Int32} (hM : MC G p s m args c cX13_isTree w_X13_isTree RX13) (hml : c.maxLocals = 6) (hr : meth.sig.returnType = (some .boolean)) (hlk : meth.locks = false) (hc0 : gC v = 12)  (hf : f_X13_isTree_0 fu  v x1 = some z) : ∀ (H : Heap) (locs : List Loc), WB G (st S a v) s H locs → ∀ (ls : Array Slot), lv_has ls 6 [(0, .ref a), (1, .int x1)] → W p l e RM_X13_isTree s m args below meth c H locs 0 0 (QR G below args s (some (.int z)) (st S a v) (st S a v)) (F0 m 0 ls []) := by
  intro H locs hW ls hl
  have hx := hM.1
  have hb := hM.2.1
  have hc := hc0
  refine lv_iconst (v := (1 : Int32)) hx hb dX13_isTree_0 (by decide) ?_
  refine lv_istore_n (lv' := [(2, .int (1 : Int32)), (0, .ref a), (1, .int x1)]) hx hb dX13_isTree_1 rfl hl (by decide) rfl (fun ls hl => ?_)
  refine lv_iconst (v := (1 : Int32)) hx hb dX13_isTree_2 (by decide) ?_
  refine lv_istore_n (lv' := [(3, .int (1 : Int32)), (2, .int (1 : Int32)), (0, .ref a), (1, .int x1)]) hx hb dX13_isTree_3 rfl hl (by decide) rfl (fun ls hl => ?_)
  exact t_X13_isTree_4 (fu := fu) hM hml hr hlk hc0 _ _ hf _ _ hW _ (lv_sub hl [2, 3, 1, 0] rfl)
noncomputable def f_X13_isTree (fu : Nat) (v : GV) (x1 : Int32) : Option (Int32) := f_X13_isTree_0 fu v x1
set_option maxHeartbeats 4000000 in
set_option maxRecDepth 100000 in
theorem c_X13_isTree (l : Launch) (G : GG) (fu : Nat) (S : ST) (a : Nat) (v : GV) (x1 : Int32) {z : Int32} (hc : gC v = 12) (hf : f_X13_isTree fu v x1 = some z) : Ct l yX13_isTree w_X13_isTree RM_X13_isTree G (st S a v) [.ref a, .int x1] (some (.int z)) (st S a v) 0 0 := by
  refine Met.ofW (cc := cX13_isTree) (maxL := 6) (ret := (some .boolean)) (by decide) rfl ?_
  intro p e s m args below meth c s₁ B hml hv
  obtain ⟨rfl, hB, hK, hz⟩ := hv
  have hM : MC G p s m _ c cX13_isTree w_X13_isTree RX13 := ⟨B.exec, B.bytes, findClass_of_methodNamed B.named, atoms_spec (ws := w_X13_isTree) B.pre, hK, hz⟩
  have hW : WB G (st S a v) s s.heap [] := ⟨hB, va_S.rf⟩
  have hl := lv_entry ([.ref a, .int x1]) (n := 6) (Nat.le_of_ble_eq_true rfl)
  rw [lg_entry_eq]
  generalize (lg_sl ([.ref a, .int x1]) ++ List.replicate (6 - (lg_sl ([.ref a, .int x1])).length) Slot.unset).toArray = ls at hl ⊢
  have hl : lv_has ls 6 [(0, .ref a), (1, .int x1)] := hl
  exact t_X13_isTree_0 hM hml B.returns B.notSynchronized hc hf _ _ hW _ (lv_sub hl [0, 1] rfl)
