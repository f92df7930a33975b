abbrev w_X13_looksAtTree : List Cond := Cond.code yX13_looksAtTree cX13_looksAtTree 4 none :: wsL_law0
abbrev RM_X13_looksAtTree : Room := { frames := 1, cells := 0, slots := 0, locals := 25 }
noncomputable def f_X13_looksAtTree_74 (fu : Nat)  (v : GV) : Option (GV) :=
  nm (sI v 31 ((gI v 31) + (1 : Int32))) fun v1 =>
  some v1
set_option maxHeartbeats 4000000 in
set_option maxRecDepth 100000 in
theorem t_X13_looksAtTree_74 {G : GG} {p : Program} {l : Launch} {e : Env} {s : State} {m : MethodId} {args : Array Value} {below : List Frame} {meth : Method} {c : Code} {S : ST} {fu : Nat} {z : GV} {a : Nat} {v0 : GV}  {v : GV} (hM : MC G p s m args c cX13_looksAtTree w_X13_looksAtTree RX13) (hml : c.maxLocals = 4) (hr : meth.sig.returnType = none) (hlk : meth.locks = false) (hc0 : gC v0 = 12)  (hf : f_X13_looksAtTree_74 fu  v  = some z) : gC v = 12 → ∀ (H : Heap) (locs : List Loc), WB G (st S a v) s H locs → ∀ (ls : Array Slot), lv_has ls 4 [(0, .ref a)] → W p l e RM_X13_looksAtTree s m args below meth c H locs 0 0 (QR G below args s none (st S a v0) (st S a z)) (F0 m 74 ls []) := by
  intro hc H locs hW ls hl
  have hx := hM.1
  have hb := hM.2.1
  refine lv_aload_n hx hb dX13_looksAtTree_74 rfl (lv_at hl 0 rfl) ?_
  refine lv_dup hx hb dX13_looksAtTree_75 rfl ?_
  refine b_get hM hW 11 31 hc rfl rfl (by decide) wi_X13 (wgm fk_RX13_418) (x := .int (gI v 31)) rfl dX13_looksAtTree_76 ?_
  refine lv_iconst (v := (1 : Int32)) hx hb dX13_looksAtTree_79 (by decide) ?_
  refine lv_iadd hx hb dX13_looksAtTree_80 ?_
  refine b_putI hM hW 11 31 hc rfl rfl (by decide) wi_X13 tyX13 tyX13_ok nmX13 (wgm fk_RX13_418) rfl rfl rfl dX13_looksAtTree_81 (fun v1 ev1 hc H locs hW => ?_)
  have hf := nm_at ev1 hf
  cases hf
  exact W.vret hx hb hr (b_ret0 hW (keep_s2 hc0 hc) _) hW.2.2.2 dX13_looksAtTree_84 hlk
noncomputable def f_X13_looksAtTree_51s (fu : Nat)  (k51 : Int32 → GV → Option (GV)) (x1 : Int32) (x3 : Int32) (v : GV) : Option (GV) :=
  if x1 ≤ x3 then
    (f_X13_looksAtTree_74 fu v)
  else
    (ck (inb x3 6) <|
    nm ((gA v 28 x3.toNatClampNeg)) fun y3 =>
    ck (inb x3 6) <|
    nm (sA v 29 x3.toNatClampNeg y3) fun v5 =>
    nm (x3 + (1 : Int32)) fun y6 =>
    k51 y6 v5)
noncomputable def f_X13_looksAtTree_51 (fu n : Nat)  (x1 : Int32) : Int32 → GV → Option (GV) :=
  lq_2 (fun k51 => f_X13_looksAtTree_51s fu  k51 x1) n
set_option maxHeartbeats 4000000 in
set_option maxRecDepth 100000 in
theorem t_X13_looksAtTree_51s {G : GG} {p : Program} {l : Launch} {e : Env} {s : State} {m : MethodId} {args : Array Value} {below : List Frame} {meth : Method} {c : Code} {S : ST} {fu : Nat} {z : GV} {a : Nat} {v0 : GV}  (hM : MC G p s m args c cX13_looksAtTree w_X13_looksAtTree RX13) (hml : c.maxLocals = 4) (hr : meth.sig.returnType = none) (hlk : meth.locks = false) (hc0 : gC v0 = 12) {k51 : Int32 → GV → Option (GV)} {x1 : Int32}  (hk51 : ∀ (x3 : Int32) (v : GV), k51 x3 v = some z → gC v = 12 → ∀ (H : Heap) (locs : List Loc), WB G (st S a v) s H locs → ∀ (ls : Array Slot), lv_has ls 4 [(0, .ref a), (1, .int x1), (3, .int x3)] → W p l e RM_X13_looksAtTree s m args below meth c H locs 0 0 (QR G below args s none (st S a v0) (st S a z)) (F0 m 51 ls [])) : ∀ (x3 : Int32) (v : GV), f_X13_looksAtTree_51s fu  k51 x1 x3 v = some z → gC v = 12 → ∀ (H : Heap) (locs : List Loc), WB G (st S a v) s H locs → ∀ (ls : Array Slot), lv_has ls 4 [(0, .ref a), (1, .int x1), (3, .int x3)] → W p l e RM_X13_looksAtTree s m args below meth c H locs 0 0 (QR G below args s none (st S a v0) (st S a z)) (F0 m 51 ls []) := by
  intro x3 v hf hc H locs hW ls hl
  have hx := hM.1
  have hb := hM.2.1
  refine lv_iload_n hx hb dX13_looksAtTree_51 rfl (lv_at hl 2 rfl) ?_
  refine lv_iload_n hx hb dX13_looksAtTree_52 rfl (lv_at hl 1 rfl) ?_
  refine lv_icmp_ge (tgt := 74) hx hb dX13_looksAtTree_53 (by decide) (fun c1 => ?_) (fun c1 => ?_)
  · have hf := if_t c1 hf
    exact t_X13_looksAtTree_74 (fu := fu) hM hml hr hlk hc0 hf hc _ _ hW _ (lv_sub hl [0] rfl)
  · have hf := if_f c1 hf
    refine lv_aload_n hx hb dX13_looksAtTree_56 rfl (lv_at hl 0 rfl) ?_
    refine b_get hM hW 11 29 hc rfl rfl (by decide) wi_X13 (wgm fk_RX13_138) (x := .ref (a + 20)) rfl dX13_looksAtTree_57 ?_
    refine lv_iload_n hx hb dX13_looksAtTree_60 rfl (lv_at hl 2 rfl) ?_
    refine lv_aload_n hx hb dX13_looksAtTree_61 rfl (lv_at hl 0 rfl) ?_
    refine b_get hM hW 11 28 hc rfl rfl (by decide) wi_X13 (wgm fk_RX13_135) (x := .ref (a + 19)) rfl dX13_looksAtTree_62 ?_
    refine lv_iload_n hx hb dX13_looksAtTree_65 rfl (lv_at hl 2 rfl) ?_
    obtain ⟨h2, hf⟩ := ck_elim hf
    refine b_iald (n := 6) hM hW 11 28 hc (by decide) rfl rfl rfl rfl h2 dX13_looksAtTree_66 ?_
    refine lv_topi (fun y3 ey3 => ?_)
    have hf := nm_at ey3 hf
    obtain ⟨h4, hf⟩ := ck_elim hf
    refine b_iast (n := 6) hM hW 11 29 hc (by decide) rfl rfl rfl rfl h4 dX13_looksAtTree_67 (fun v5 ev5 hc H locs hW => ?_)
    have hf := nm_at ev5 hf
    obtain ⟨y6, ey6⟩ : ∃ y : Int32, y = x3 + (1 : Int32) := ⟨_, rfl⟩
    have hf := nm_at ey6 hf
    refine lv_iinc (v := y6) (lv' := [(3, .int y6), (0, .ref a), (1, .int x1)]) hx hb dX13_looksAtTree_68 hl (k := 2) rfl (by rw [ey6]; rfl) (by decide) rfl (fun ls hl => ?_)
    refine lv_goto (tgt := 51) hx hb dX13_looksAtTree_71 (by decide) ?_
    exact hk51 _ _ hf hc _ _ hW _ (lv_sub hl [1, 2, 0] rfl)
theorem t_X13_looksAtTree_51 {G : GG} {p : Program} {l : Launch} {e : Env} {s : State} {m : MethodId} {args : Array Value} {below : List Frame} {meth : Method} {c : Code} {S : ST} {fu : Nat} {z : GV} {a : Nat} {v0 : GV}  {x1 : Int32} (hM : MC G p s m args c cX13_looksAtTree w_X13_looksAtTree RX13) (hml : c.maxLocals = 4) (hr : meth.sig.returnType = none) (hlk : meth.locks = false) (hc0 : gC v0 = 12)  : ∀ {n : Nat} (x3 : Int32) (v : GV), f_X13_looksAtTree_51 fu n  x1 x3 v = some z → gC v = 12 → ∀ (H : Heap) (locs : List Loc), WB G (st S a v) s H locs → ∀ (ls : Array Slot), lv_has ls 4 [(0, .ref a), (1, .int x1), (3, .int x3)] → W p l e RM_X13_looksAtTree s m args below meth c H locs 0 0 (QR G below args s none (st S a v0) (st S a z)) (F0 m 51 ls []) := by
  intro n
  induction n with
  | zero => intro x3 v hf; cases hf
  | succ n ih => intro x3 v hf; exact t_X13_looksAtTree_51s (fu := fu) hM hml hr hlk hc0  (k51 := f_X13_looksAtTree_51 fu n  x1) ih _ _ hf
noncomputable def f_X13_looksAtTree_39 (fu : Nat)  (v : GV) (x1 : Int32) (x2 : Int32) : Option (GV) :=
  nm (sI v 30 x2) fun v1 =>
  nm (sI v1 31 (0 : Int32)) fun v2 =>
  f_X13_looksAtTree_51 fu fu x1 (1 : Int32) v2
set_option maxHeartbeats 4000000 in
set_option maxRecDepth 100000 in
theorem t_X13_looksAtTree_39 {G : GG} {p : Program} {l : Launch} {e : Env} {s : State} {m : MethodId} {args : Array Value} {below : List Frame} {meth : Method} {c : Code} {S : ST} {fu : Nat} {z : GV} {a : Nat} {v0 : GV}  {v : GV} {x1 : Int32} {x2 : Int32} (hM : MC G p s m args c cX13_looksAtTree w_X13_looksAtTree RX13) (hml : c.maxLocals = 4) (hr : meth.sig.returnType = none) (hlk : meth.locks = false) (hc0 : gC v0 = 12)  (hf : f_X13_looksAtTree_39 fu  v x1 x2 = some z) : gC v = 12 → ∀ (H : Heap) (locs : List Loc), WB G (st S a v) s H locs → ∀ (ls : Array Slot), lv_has ls 4 [(0, .ref a), (1, .int x1), (2, .int x2)] → W p l e RM_X13_looksAtTree s m args below meth c H locs 0 0 (QR G below args s none (st S a v0) (st S a z)) (F0 m 39 ls []) := by
  intro hc H locs hW ls hl
  have hx := hM.1
  have hb := hM.2.1
  refine lv_aload_n hx hb dX13_looksAtTree_39 rfl (lv_at hl 0 rfl) ?_
  refine lv_iload_n hx hb dX13_looksAtTree_40 rfl (lv_at hl 2 rfl) ?_
  refine b_putI hM hW 11 30 hc rfl rfl (by decide) wi_X13 tyX13 tyX13_ok nmX13 (wgm fk_RX13_412) rfl rfl rfl dX13_looksAtTree_41 (fun v1 ev1 hc H locs hW => ?_)
  have hf := nm_at ev1 hf
  refine lv_aload_n hx hb dX13_looksAtTree_44 rfl (lv_at hl 0 rfl) ?_
  refine lv_iconst (v := (0 : Int32)) hx hb dX13_looksAtTree_45 (by decide) ?_
  refine b_putI hM hW 11 31 hc rfl rfl (by decide) wi_X13 tyX13 tyX13_ok nmX13 (wgm fk_RX13_418) rfl rfl rfl dX13_looksAtTree_46 (fun v2 ev2 hc H locs hW => ?_)
  have hf := nm_at ev2 hf
  refine lv_iconst (v := (1 : Int32)) hx hb dX13_looksAtTree_49 (by decide) ?_
  refine lv_istore_n (lv' := [(3, .int (1 : Int32)), (0, .ref a), (1, .int x1), (2, .int x2)]) hx hb dX13_looksAtTree_50 rfl hl (by decide) rfl (fun ls hl => ?_)
  exact t_X13_looksAtTree_51 (fu := fu) hM hml hr hlk hc0 _ _ hf hc _ _ hW _ (lv_sub hl [1, 2, 0] rfl)
noncomputable def f_X13_looksAtTree_15 (fu : Nat)  (v : GV) (x1 : Int32) (x2 : Int32) : Option (GV) :=
  bd (f_X13_isTree fu v x1) fun r1 =>
  if r1 = 0 then
    (some v)
  else
    (if (gI v 30) < 0 then
      (f_X13_looksAtTree_39 fu v x1 x2)
    else
      (if (gI v 30) ≤ x2 then
        (f_X13_looksAtTree_74 fu v)
      else
        (f_X13_looksAtTree_39 fu v x1 x2)))
set_option maxHeartbeats 4000000 in
set_option maxRecDepth 100000 in
theorem t_X13_looksAtTree_15 {G : GG} {p : Program} {l : Launch} {e : Env} {s : State} {m : MethodId} {args : Array Value} {below : List Frame} {meth : Method} {c : Code} {S : ST} {fu : Nat} {z : GV} {a : Nat} {v0 : GV}  {v : GV} {x1 : Int32} {x2 : Int32} (hM : MC G p s m args c cX13_looksAtTree w_X13_looksAtTree RX13) (hml : c.maxLocals = 4) (hr : meth.sig.returnType = none) (hlk : meth.locks = false) (hc0 : gC v0 = 12)  (hf : f_X13_looksAtTree_15 fu  v x1 x2 = some z) : gC v = 12 → ∀ (H : Heap) (locs : List Loc), WB G (st S a v) s H locs → ∀ (ls : Array Slot), lv_has ls 4 [(0, .ref a), (1, .int x1), (2, .int x2)] → W p l e RM_X13_looksAtTree s m args below meth c H locs 0 0 (QR G below args s none (st S a v0) (st S a z)) (F0 m 15 ls []) := by
  intro hc H locs hW ls hl
  have hx := hM.1
  have hb := hM.2.1
  refine lv_aload_n hx hb dX13_looksAtTree_15 rfl (lv_at hl 0 rfl) ?_
  refine lv_iload_n hx hb dX13_looksAtTree_16 rfl (lv_at hl 1 rfl) ?_
  obtain ⟨r1, hr1, hf⟩ := bd_elim hf
  refine b_callVi [.int x1] [] hM hml hl.1 hW hc rfl (by decide) (c_X13_isTree l G fu _ a v _ hc hr1) (cwV 1 hM.2.2.2.1 (gV mk_RX13_415 im_X13_isTree se_X13_isTree it_RX13 cd_X13_isTree) rfl rfl rfl (by decide +kernel) ⟨Nat.le_of_ble_eq_true rfl, Nat.le_of_ble_eq_true rfl⟩) rfl rfl (Nat.le_of_ble_eq_true rfl) ⟨Nat.zero_le _, Nat.zero_le _⟩ dX13_looksAtTree_17 (fun H locs hW hk => ?_)
  refine lv_if_ne (tgt := 24) hx hb dX13_looksAtTree_20 (by decide) (fun c2 => ?_) (fun c2 => ?_)
  · have hf := if_f c2 hf
    refine lv_aload_n hx hb dX13_looksAtTree_24 rfl (lv_at hl 0 rfl) ?_
    refine b_get hM hW 11 30 hc rfl rfl (by decide) wi_X13 (wgm fk_RX13_412) (x := .int (gI v 30)) rfl dX13_looksAtTree_25 ?_
    refine lv_if_lt (tgt := 39) hx hb dX13_looksAtTree_28 (by decide) (fun c3 => ?_) (fun c3 => ?_)
    · have hf := if_t c3 hf
      exact t_X13_looksAtTree_39 (fu := fu) hM hml hr hlk hc0 hf hc _ _ hW _ (lv_sub hl [0, 1, 2] rfl)
    · have hf := if_f c3 hf
      refine lv_iload_n hx hb dX13_looksAtTree_31 rfl (lv_at hl 2 rfl) ?_
      refine lv_aload_n hx hb dX13_looksAtTree_32 rfl (lv_at hl 0 rfl) ?_
      refine b_get hM hW 11 30 hc rfl rfl (by decide) wi_X13 (wgm fk_RX13_412) (x := .int (gI v 30)) rfl dX13_looksAtTree_33 ?_
      refine lv_icmp_ge (tgt := 74) hx hb dX13_looksAtTree_36 (by decide) (fun c4 => ?_) (fun c4 => ?_)
      · have hf := if_t c4 hf
        exact t_X13_looksAtTree_74 (fu := fu) hM hml hr hlk hc0 hf hc _ _ hW _ (lv_sub hl [0] rfl)
      · have hf := if_f c4 hf
        exact t_X13_looksAtTree_39 (fu := fu) hM hml hr hlk hc0 hf hc _ _ hW _ (lv_sub hl [0, 1, 2] rfl)
  · have hf := if_t c2 hf
    cases hf
    exact W.vret hx hb hr (b_ret0 hW (keep_s2 hc0 hc) _) hW.2.2.2 dX13_looksAtTree_23 hlk
noncomputable def f_X13_looksAtTree_0 (fu : Nat)  (v : GV) (x1 : Int32) (x2 : Int32) : Option (GV) :=
  if (gI v 30) < 0 then
    (f_X13_looksAtTree_15 fu v x1 x2)
  else
    (if (gI v 30) < x2 then
      (some v)
    else
      (f_X13_looksAtTree_15 fu v x1 x2))
set_option maxHeartbeats 4000000 in
set_option maxRecDepth 100000 in
theorem t_X13_looksAtTree_0 {G : GG} {p : Program} {l : Launch} {e : Env} {s : State} {m : MethodId} {args : Array Value} {below : List Frame} {meth : Method} {c : Code} {S : ST} {fu : Nat} {z : GV} {a : Nat} {v0 : GV}  {v : GV} {x1 : Int32} {x2 : Int32} (hM : MC G p s m args c cX13_looksAtTree w_X13_looksAtTree RX13) (hml : c.maxLocals = 4) (hr : meth.sig.returnType = none) (hlk : meth.locks = false) (hc0 : gC v0 = 12)  (hf : f_X13_looksAtTree_0 fu  v x1 x2 = some z) : gC v = 12 → ∀ (H : Heap) (locs : List Loc), WB G (st S a v) s H locs → ∀ (ls : Array Slot), lv_has ls 4 [(0, .ref a), (1, .int x1), (2, .int x2)] → W p l e RM_X13_looksAtTree s m args below meth c H locs 0 0 (QR G below args s none (st S a v0) (st S a z)) (F0 m 0 ls []) := by
  intro hc H locs hW ls hl
  have hx := hM.1
  have hb := hM.2.1
  refine lv_aload_n hx hb dX13_looksAtTree_0 rfl (lv_at hl 0 rfl) ?_
  refine b_get hM hW 11 30 hc rfl rfl (by decide) wi_X13 (wgm fk_RX13_412) (x := .int (gI v 30)) rfl dX13_looksAtTree_1 ?_
  refine lv_if_lt (tgt := 15) hx hb dX13_looksAtTree_4 (by decide) (fun c1 => ?_) (fun c1 => ?_)
  · have hf := if_t c1 hf
    exact t_X13_looksAtTree_15 (fu := fu) hM hml hr hlk hc0 hf hc _ _ hW _ (lv_sub hl [0, 1, 2] rfl)
  · have hf := if_f c1 hf
    refine lv_iload_n hx hb dX13_looksAtTree_7 rfl (lv_at hl 2 rfl) ?_
    refine lv_aload_n hx hb dX13_looksAtTree_8 rfl (lv_at hl 0 rfl) ?_
    refine b_get hM hW 11 30 hc rfl rfl (by decide) wi_X13 (wgm fk_RX13_412) (x := .int (gI v 30)) rfl dX13_looksAtTree_9 ?_
    refine lv_icmp_gt (tgt := 23) hx hb dX13_looksAtTree_12 (by decide) (fun c2 => ?_) (fun c2 => ?_)
    · have hf := if_t c2 hf
      cases hf
      exact W.vret hx hb hr (b_ret0 hW (keep_s2 hc0 hc) _) hW.2.2.2 dX13_looksAtTree_23 hlk
    · have hf := if_f c2 hf
      exact t_X13_looksAtTree_15 (fu := fu) hM hml hr hlk hc0 hf hc _ _ hW _ (lv_sub hl [0, 1, 2] rfl)
noncomputable def f_X13_looksAtTree (fu : Nat) (v : GV) (x1 : Int32) (x2 : Int32) : Option (GV) := f_X13_looksAtTree_0 fu v x1 x2
set_option maxHeartbeats 4000000 in
set_option maxRecDepth 100000 in
theorem c_X13_looksAtTree (l : Launch) (G : GG) (fu : Nat) (S : ST) (a : Nat) (v : GV) (x1 : Int32) (x2 : Int32) {z : GV} (hc : gC v = 12) (hf : f_X13_looksAtTree fu v x1 x2 = some z) : Ct l yX13_looksAtTree w_X13_looksAtTree RM_X13_looksAtTree G (st S a v) [.ref a, .int x1, .int x2] none (st S a z) 0 0 := by
  refine Met.ofW (cc := cX13_looksAtTree) (maxL := 4) (ret := none) (by decide) rfl ?_
  intro p e s m args below meth c s₁ B hml hv
  obtain ⟨rfl, hB, hK, hz⟩ := hv
  have hM : MC G p s m _ c cX13_looksAtTree w_X13_looksAtTree RX13 := ⟨B.exec, B.bytes, findClass_of_methodNamed B.named, atoms_spec (ws := w_X13_looksAtTree) B.pre, hK, hz⟩
  have hW : WB G (st S a v) s s.heap [] := ⟨hB, va_S.rf⟩
  have hl := lv_entry ([.ref a, .int x1, .int x2]) (n := 4) (Nat.le_of_ble_eq_true rfl)
  rw [lg_entry_eq]
  generalize (lg_sl ([.ref a, .int x1, .int x2]) ++ List.replicate (4 - (lg_sl ([.ref a, .int x1, .int x2])).length) Slot.unset).toArray = ls at hl ⊢
  have hl : lv_has ls 4 [(0, .ref a), (1, .int x1), (2, .int x2)] := hl
  exact t_X13_looksAtTree_0 hM hml B.returns B.notSynchronized hc hf hc _ _ hW _ (lv_sub hl [0, 1, 2] rfl)
abbrev w_X13_trees : List Cond := Cond.code yX13_trees cX13_trees 5 none :: wsL_law0
abbrev RM_X13_trees (d : Nat) : Room := { frames := 1 * d + 2, cells := 0, slots := 0, locals := 24 * d + 48 }
noncomputable def f_X13_trees_62 (fu : Nat) (rec : GV → Int32 → Int32 → Int32 → Option (GV)) (k15 : Int32 → GV → Option (GV)) (v : GV) (x1 : Int32) (x2 : Int32) (x3 : Int32) (x4 : Int32) : Option (GV) :=
  nm (x4 + (1 : Int32)) fun y1 =>
  k15 y1 v
set_option maxHeartbeats 4000000 in
set_option maxRecDepth 100000 in
theorem t_X13_trees_62 {G : GG} {p : Program} {l : Launch} {e : Env} {s : State} {m : MethodId} {args : Array Value} {below : List Frame} {meth : Method} {c : Code} {S : ST} {fu : Nat} {z : GV} {a : Nat} {v0 : GV} {d : Nat} {rec : GV → Int32 → Int32 → Int32 → Option (GV)} {k15 : Int32 → GV → Option (GV)} {v : GV} {x1 : Int32} {x2 : Int32} {x3 : Int32} {x4 : Int32} (hM : MC G p s m args c cX13_trees w_X13_trees RX13) (hml : c.maxLocals = 5) (hr : meth.sig.returnType = none) (hlk : meth.locks = false) (hrec : ∀ (S : ST) (v : GV) (x1 : Int32) (x2 : Int32) (x3 : Int32) (z : GV), gC v = 12 → rec v x1 x2 x3 = some z → Ct l yX13_trees w_X13_trees (RM_X13_trees d) G (st S a v) [.ref a, .int x1, .int x2, .int x3] none (st S a z) 0 0) (hc0 : gC v0 = 12) (hk15 : ∀ (x4 : Int32) (v : GV), k15 x4 v = some z → gC v = 12 → ∀ (H : Heap) (locs : List Loc), WB G (st S a v) s H locs → ∀ (ls : Array Slot), lv_has ls 5 [(0, .ref a), (1, .int x1), (2, .int x2), (3, .int x3), (4, .int x4)] → W p l e (RM_X13_trees (d + 1)) s m args below meth c H locs 0 0 (QR G below args s none (st S a v0) (st S a z)) (F0 m 15 ls [])) (hf : f_X13_trees_62 fu rec k15 v x1 x2 x3 x4 = some z) : gC v = 12 → ∀ (H : Heap) (locs : List Loc), WB G (st S a v) s H locs → ∀ (ls : Array Slot), lv_has ls 5 [(0, .ref a), (1, .int x1), (2, .int x2), (3, .int x3), (4, .int x4)] → W p l e (RM_X13_trees (d + 1)) s m args below meth c H locs 0 0 (QR G below args s none (st S a v0) (st S a z)) (F0 m 62 ls []) := by
  intro hc H locs hW ls hl
  have hx := hM.1
  have hb := hM.2.1
  obtain ⟨y1, ey1⟩ : ∃ y : Int32, y = x4 + (1 : Int32) := ⟨_, rfl⟩
  have hf := nm_at ey1 hf
  refine lv_iinc (v := y1) (lv' := [(4, .int y1), (0, .ref a), (1, .int x1), (2, .int x2), (3, .int x3)]) hx hb dX13_trees_62 hl (k := 4) rfl (by rw [ey1]; rfl) (by decide) rfl (fun ls hl => ?_)
  refine lv_goto (tgt := 15) hx hb dX13_trees_65 (by decide) ?_
  exact hk15 _ _ hf hc _ _ hW _ (lv_sub hl [1, 2, 3, 4, 0] rfl)
noncomputable def f_X13_trees_15s (fu : Nat) (rec : GV → Int32 → Int32 → Int32 → Option (GV))  (k15 : Int32 → GV → Option (GV)) (x1 : Int32) (x2 : Int32) (x3 : Int32) (x4 : Int32) (v : GV) : Option (GV) :=
  if x1 ≤ x4 then
    (some v)
  else
    (if x4 = x2 then
      (f_X13_trees_62 fu rec k15 v x1 x2 x3 x4)
    else
      (ck (inb x2 6) <|
      nm (sA v 28 x2.toNatClampNeg x4) fun v4 =>
      ck (inb x2 6) <|
      ck (inb x4 6) <|
      bd (f_X13_distanceOf fu v4 (gA v4 27 x2.toNatClampNeg) (gA v4 27 x4.toNatClampNeg)) fun r7 =>
      bd (rec v4 x1 (x2 + (1 : Int32)) (x3 + r7)) fun v9 =>
      f_X13_trees_62 fu rec k15 v9 x1 x2 x3 x4))
noncomputable def f_X13_trees_15 (fu n : Nat) (rec : GV → Int32 → Int32 → Int32 → Option (GV))  (x1 : Int32) (x2 : Int32) (x3 : Int32) : Int32 → GV → Option (GV) :=
  lq_2 (fun k15 => f_X13_trees_15s fu rec  k15 x1 x2 x3) n
set_option maxHeartbeats 4000000 in
set_option maxRecDepth 100000 in
theorem t_X13_trees_15s {G : GG} {p : Program} {l : Launch} {e : Env} {s : State} {m : MethodId} {args : Array Value} {below : List Frame} {meth : Method} {c : Code} {S : ST} {fu : Nat} {z : GV} {a : Nat} {v0 : GV} {d : Nat} {rec : GV → Int32 → Int32 → Int32 → Option (GV)}  (hM : MC G p s m args c cX13_trees w_X13_trees RX13) (hml : c.maxLocals = 5) (hr : meth.sig.returnType = none) (hlk : meth.locks = false) (hrec : ∀ (S : ST) (v : GV) (x1 : Int32) (x2 : Int32) (x3 : Int32) (z : GV), gC v = 12 → rec v x1 x2 x3 = some z → Ct l yX13_trees w_X13_trees (RM_X13_trees d) G (st S a v) [.ref a, .int x1, .int x2, .int x3] none (st S a z) 0 0) (hc0 : gC v0 = 12) {k15 : Int32 → GV → Option (GV)} {x1 : Int32} {x2 : Int32} {x3 : Int32}  (hk15 : ∀ (x4 : Int32) (v : GV), k15 x4 v = some z → gC v = 12 → ∀ (H : Heap) (locs : List Loc), WB G (st S a v) s H locs → ∀ (ls : Array Slot), lv_has ls 5 [(0, .ref a), (1, .int x1), (2, .int x2), (3, .int x3), (4, .int x4)] → W p l e (RM_X13_trees (d + 1)) s m args below meth c H locs 0 0 (QR G below args s none (st S a v0) (st S a z)) (F0 m 15 ls [])) : ∀ (x4 : Int32) (v : GV), f_X13_trees_15s fu rec  k15 x1 x2 x3 x4 v = some z → gC v = 12 → ∀ (H : Heap) (locs : List Loc), WB G (st S a v) s H locs → ∀ (ls : Array Slot), lv_has ls 5 [(0, .ref a), (1, .int x1), (2, .int x2), (3, .int x3), (4, .int x4)] → W p l e (RM_X13_trees (d + 1)) s m args below meth c H locs 0 0 (QR G below args s none (st S a v0) (st S a z)) (F0 m 15 ls []) := by
  intro x4 v hf hc H locs hW ls hl
  have hx := hM.1
  have hb := hM.2.1
  refine lv_iload hx hb dX13_trees_15 (lv_at hl 4 rfl) ?_
  refine lv_iload_n hx hb dX13_trees_17 rfl (lv_at hl 1 rfl) ?_
  refine lv_icmp_ge (tgt := 68) hx hb dX13_trees_18 (by decide) (fun c1 => ?_) (fun c1 => ?_)
  · have hf := if_t c1 hf
    cases hf
    exact W.vret hx hb hr (b_ret0 hW (keep_s2 hc0 hc) _) hW.2.2.2 dX13_trees_68 hlk
  · have hf := if_f c1 hf
    refine lv_iload hx hb dX13_trees_21 (lv_at hl 4 rfl) ?_
    refine lv_iload_n hx hb dX13_trees_23 rfl (lv_at hl 2 rfl) ?_
    refine lv_icmp_eq (tgt := 62) hx hb dX13_trees_24 (by decide) (fun c2 => ?_) (fun c2 => ?_)
    · have hf := if_t c2 hf
      exact t_X13_trees_62 (fu := fu) hM hml hr hlk hrec hc0 hk15 hf hc _ _ hW _ (lv_sub hl [0, 1, 2, 3, 4] rfl)
    · have hf := if_f c2 hf
      refine lv_aload_n hx hb dX13_trees_27 rfl (lv_at hl 0 rfl) ?_
      refine b_get hM hW 11 28 hc rfl rfl (by decide) wi_X13 (wgm fk_RX13_135) (x := .ref (a + 19)) rfl dX13_trees_28 ?_
      refine lv_iload_n hx hb dX13_trees_31 rfl (lv_at hl 2 rfl) ?_
      refine lv_iload hx hb dX13_trees_32 (lv_at hl 4 rfl) ?_
      obtain ⟨h3, hf⟩ := ck_elim hf
      refine b_iast (n := 6) hM hW 11 28 hc (by decide) rfl rfl rfl rfl h3 dX13_trees_34 (fun v4 ev4 hc H locs hW => ?_)
      have hf := nm_at ev4 hf
      refine lv_aload_n hx hb dX13_trees_35 rfl (lv_at hl 0 rfl) ?_
      refine lv_iload_n hx hb dX13_trees_36 rfl (lv_at hl 1 rfl) ?_
      refine lv_iload_n hx hb dX13_trees_37 rfl (lv_at hl 2 rfl) ?_
      refine lv_iconst (v := (1 : Int32)) hx hb dX13_trees_38 (by decide) ?_
      refine lv_iadd hx hb dX13_trees_39 ?_
      refine lv_iload_n hx hb dX13_trees_40 rfl (lv_at hl 3 rfl) ?_
      refine lv_aload_n hx hb dX13_trees_41 rfl (lv_at hl 0 rfl) ?_
      refine lv_aload_n hx hb dX13_trees_42 rfl (lv_at hl 0 rfl) ?_
      refine b_get hM hW 11 27 hc rfl rfl (by decide) wi_X13 (wgm fk_RX13_132) (x := .ref (a + 18)) rfl dX13_trees_43 ?_
      refine lv_iload_n hx hb dX13_trees_46 rfl (lv_at hl 2 rfl) ?_
      obtain ⟨h5, hf⟩ := ck_elim hf
      refine b_iald (n := 6) hM hW 11 27 hc (by decide) rfl rfl rfl rfl h5 dX13_trees_47 ?_
      refine lv_aload_n hx hb dX13_trees_48 rfl (lv_at hl 0 rfl) ?_
      refine b_get hM hW 11 27 hc rfl rfl (by decide) wi_X13 (wgm fk_RX13_132) (x := .ref (a + 18)) rfl dX13_trees_49 ?_
      refine lv_iload hx hb dX13_trees_52 (lv_at hl 4 rfl) ?_
      obtain ⟨h6, hf⟩ := ck_elim hf
      refine b_iald (n := 6) hM hW 11 27 hc (by decide) rfl rfl rfl rfl h6 dX13_trees_54 ?_
      obtain ⟨r7, hr7, hf⟩ := bd_elim hf
      refine b_callVi [.int (gA v4 27 x2.toNatClampNeg), .int (gA v4 27 x4.toNatClampNeg)] [.int x3, .int (x2 + (1 : Int32)), .int x1, .ref a] hM hml hl.1 hW hc rfl (by decide) (c_X13_distanceOf l G fu _ a v4 _ _ hc hr7) (cwV 2 hM.2.2.2.1 (gV mk_RX13_352 im_X13_distanceOf se_X13_distanceOf it_RX13 cd_X13_distanceOf) rfl rfl rfl (by decide +kernel) ⟨by show 1 + 1 ≤ 1 * (d + 1) + 2; omega, by show 8 + (3 + 11) + 22 ≤ 24 * (d + 1) + 48; omega⟩) rfl rfl (Nat.le_of_ble_eq_true rfl) ⟨Nat.zero_le _, Nat.zero_le _⟩ dX13_trees_55 (fun H locs hW hk => ?_)
      refine lv_iadd hx hb dX13_trees_58 ?_
      obtain ⟨v9, hr8, hf⟩ := bd_elim hf
      refine b_callVv [.int x1, .int (x2 + (1 : Int32)), .int (x3 + r7)] [] hM hml hl.1 hW hc rfl (by decide) (hrec _ v4 _ _ _ _ hc hr8) (cwV 3 hM.2.2.2.1 (gV mk_RX13_409 im_X13_trees se_X13_trees it_RX13 cd_X13_trees) rfl rfl rfl (by decide +kernel) ⟨by show (1 * d + 2) + 1 ≤ 1 * (d + 1) + 2; omega, by show 8 + (5 + 11) + (24 * d + 48) ≤ 24 * (d + 1) + 48; omega⟩) rfl rfl (Nat.le_of_ble_eq_true rfl) ⟨Nat.zero_le _, Nat.zero_le _⟩ dX13_trees_59 (fun H locs hW hk => ?_)
      have hc := keep_at hc hk
      exact t_X13_trees_62 (fu := fu) hM hml hr hlk hrec hc0 hk15 hf hc _ _ hW _ (lv_sub hl [0, 1, 2, 3, 4] rfl)
theorem t_X13_trees_15 {G : GG} {p : Program} {l : Launch} {e : Env} {s : State} {m : MethodId} {args : Array Value} {below : List Frame} {meth : Method} {c : Code} {S : ST} {fu : Nat} {z : GV} {a : Nat} {v0 : GV} {d : Nat} {rec : GV → Int32 → Int32 → Int32 → Option (GV)}  {x1 : Int32} {x2 : Int32} {x3 : Int32} (hM : MC G p s m args c cX13_trees w_X13_trees RX13) (hml : c.maxLocals = 5) (hr : meth.sig.returnType = none) (hlk : meth.locks = false) (hrec : ∀ (S : ST) (v : GV) (x1 : Int32) (x2 : Int32) (x3 : Int32) (z : GV), gC v = 12 → rec v x1 x2 x3 = some z → Ct l yX13_trees w_X13_trees (RM_X13_trees d) G (st S a v) [.ref a, .int x1, .int x2, .int x3] none (st S a z) 0 0) (hc0 : gC v0 = 12)  : ∀ {n : Nat} (x4 : Int32) (v : GV), f_X13_trees_15 fu n rec  x1 x2 x3 x4 v = some z → gC v = 12 → ∀ (H : Heap) (locs : List Loc), WB G (st S a v) s H locs → ∀ (ls : Array Slot), lv_has ls 5 [(0, .ref a), (1, .int x1), (2, .int x2), (3, .int x3), (4, .int x4)] → W p l e (RM_X13_trees (d + 1)) s m args below meth c H locs 0 0 (QR G below args s none (st S a v0) (st S a z)) (F0 m 15 ls []) := by
  intro n
  induction n with
  | zero => intro x4 v hf; cases hf
  | succ n ih => intro x4 v hf; exact t_X13_trees_15s (fu := fu) hM hml hr hlk hrec hc0  (k15 := f_X13_trees_15 fu n rec  x1 x2 x3) ih _ _ hf
noncomputable def f_X13_trees_0 (fu : Nat) (rec : GV → Int32 → Int32 → Int32 → Option (GV))  (v : GV) (x1 : Int32) (x2 : Int32) (x3 : Int32) : Option (GV) :=
  if x2 = x1 then
    (bd (f_X13_looksAtTree fu v x1 x3) fun v3 =>
    some v3)
  else
    (f_X13_trees_15 fu fu rec x1 x2 x3 (0 : Int32) v)
set_option maxHeartbeats 4000000 in
set_option maxRecDepth 100000 in
theorem t_X13_trees_0 {G : GG} {p : Program} {l : Launch} {e : Env} {s : State} {m : MethodId} {args : Array Value} {below : List Frame} {meth : Method} {c : Code} {S : ST} {fu : Nat} {z : GV} {a : Nat} {v0 : GV} {d : Nat} {rec : GV → Int32 → Int32 → Int32 → Option (GV)}  {v : GV} {x1 : Int32} {x2 : Int32} {x3 : Int32} (hM : MC G p s m args c cX13_trees w_X13_trees RX13) (hml : c.maxLocals = 5) (hr : meth.sig.returnType = none) (hlk : meth.locks = false) (hrec : ∀ (S : ST) (v : GV) (x1 : Int32) (x2 : Int32) (x3 : Int32) (z : GV), gC v = 12 → rec v x1 x2 x3 = some z → Ct l yX13_trees w_X13_trees (RM_X13_trees d) G (st S a v) [.ref a, .int x1, .int x2, .int x3] none (st S a z) 0 0) (hc0 : gC v0 = 12)  (hf : f_X13_trees_0 fu rec  v x1 x2 x3 = some z) : gC v = 12 → ∀ (H : Heap) (locs : List Loc), WB G (st S a v) s H locs → ∀ (ls : Array Slot), lv_has ls 5 [(0, .ref a), (1, .int x1), (2, .int x2), (3, .int x3)] → W p l e (RM_X13_trees (d + 1)) s m args below meth c H locs 0 0 (QR G below args s none (st S a v0) (st S a z)) (F0 m 0 ls []) := by
  intro hc H locs hW ls hl
  have hx := hM.1
  have hb := hM.2.1
  refine lv_iload_n hx hb dX13_trees_0 rfl (lv_at hl 2 rfl) ?_
  refine lv_iload_n hx hb dX13_trees_1 rfl (lv_at hl 1 rfl) ?_
  refine lv_icmp_ne (tgt := 12) hx hb dX13_trees_2 (by decide) (fun c1 => ?_) (fun c1 => ?_)
  · have hf := if_f c1 hf
    refine lv_iconst (v := (0 : Int32)) hx hb dX13_trees_12 (by decide) ?_
    refine lv_istore (lv' := [(4, .int (0 : Int32)), (0, .ref a), (1, .int x1), (2, .int x2), (3, .int x3)]) hx hb dX13_trees_13 hl (by decide) rfl (fun ls hl => ?_)
    exact t_X13_trees_15 (fu := fu) hM hml hr hlk hrec hc0 _ _ hf hc _ _ hW _ (lv_sub hl [1, 2, 3, 4, 0] rfl)
  · have hf := if_t c1 hf
    refine lv_aload_n hx hb dX13_trees_5 rfl (lv_at hl 0 rfl) ?_
    refine lv_iload_n hx hb dX13_trees_6 rfl (lv_at hl 1 rfl) ?_
    refine lv_iload_n hx hb dX13_trees_7 rfl (lv_at hl 3 rfl) ?_
    obtain ⟨v3, hr2, hf⟩ := bd_elim hf
    refine b_callVv [.int x1, .int x3] [] hM hml hl.1 hW hc rfl (by decide) (c_X13_looksAtTree l G fu _ a v _ _ hc hr2) (cwV 2 hM.2.2.2.1 (gV mk_RX13_406 im_X13_looksAtTree se_X13_looksAtTree it_RX13 cd_X13_looksAtTree) rfl rfl rfl (by decide +kernel) ⟨by show 1 + 1 ≤ 1 * (d + 1) + 2; omega, by show 8 + (4 + 11) + 25 ≤ 24 * (d + 1) + 48; omega⟩) rfl rfl (Nat.le_of_ble_eq_true rfl) ⟨Nat.zero_le _, Nat.zero_le _⟩ dX13_trees_8 (fun H locs hW hk => ?_)
    have hc := keep_at hc hk
    cases hf
    exact W.vret hx hb hr (b_ret0 hW (keep_s2 hc0 hc) _) hW.2.2.2 dX13_trees_11 hlk
noncomputable def f_X13_trees (fu : Nat) (rec : GV → Int32 → Int32 → Int32 → Option (GV)) (v : GV) (x1 : Int32) (x2 : Int32) (x3 : Int32) : Option (GV) := f_X13_trees_0 fu rec v x1 x2 x3
set_option maxHeartbeats 4000000 in
set_option maxRecDepth 100000 in
theorem c_X13_trees (l : Launch) (G : GG) (fu : Nat) {a d : Nat} {rec : GV → Int32 → Int32 → Int32 → Option (GV)} (hrec : ∀ (S : ST) (v : GV) (x1 : Int32) (x2 : Int32) (x3 : Int32) (z : GV), gC v = 12 → rec v x1 x2 x3 = some z → Ct l yX13_trees w_X13_trees (RM_X13_trees d) G (st S a v) [.ref a, .int x1, .int x2, .int x3] none (st S a z) 0 0) (S : ST) (v : GV) (x1 : Int32) (x2 : Int32) (x3 : Int32) {z : GV} (hc : gC v = 12) (hf : f_X13_trees fu rec v x1 x2 x3 = some z) : Ct l yX13_trees w_X13_trees (RM_X13_trees (d + 1)) G (st S a v) [.ref a, .int x1, .int x2, .int x3] none (st S a z) 0 0 := by
  refine Met.ofW (cc := cX13_trees) (maxL := 5) (ret := none) (by decide) rfl ?_
  intro p e s m args below meth c s₁ B hml hv
  obtain ⟨rfl, hB, hK, hz⟩ := hv
  have hM : MC G p s m _ c cX13_trees w_X13_trees RX13 := ⟨B.exec, B.bytes, findClass_of_methodNamed B.named, atoms_spec (ws := w_X13_trees) B.pre, hK, hz⟩
  have hW : WB G (st S a v) s s.heap [] := ⟨hB, va_S.rf⟩
  have hl := lv_entry ([.ref a, .int x1, .int x2, .int x3]) (n := 5) (Nat.le_of_ble_eq_true rfl)
  rw [lg_entry_eq]
  generalize (lg_sl ([.ref a, .int x1, .int x2, .int x3]) ++ List.replicate (5 - (lg_sl ([.ref a, .int x1, .int x2, .int x3])).length) Slot.unset).toArray = ls at hl ⊢
  have hl : lv_has ls 5 [(0, .ref a), (1, .int x1), (2, .int x2), (3, .int x3)] := hl
  exact t_X13_trees_0 hM hml B.returns B.notSynchronized hrec hc hf hc _ _ hW _ (lv_sub hl [0, 1, 2, 3] rfl)
noncomputable def f_X13_treesD (fu d : Nat) : GV → Int32 → Int32 → Int32 → Option (GV) := Nat.rec (fun _ _ _ _ => none) (fun _ ih => f_X13_trees fu ih) d
theorem c_X13_treesD (l : Launch) (G : GG) (fu d : Nat) : ∀ (S : ST) (a : Nat) (v : GV) (x1 : Int32) (x2 : Int32) (x3 : Int32) (z : GV), gC v = 12 → f_X13_treesD fu d v x1 x2 x3 = some z → Ct l yX13_trees w_X13_trees (RM_X13_trees d) G (st S a v) [.ref a, .int x1, .int x2, .int x3] none (st S a z) 0 0 := by
  induction d with
  | zero => intro S a v _ _ _ _ hc hf; cases hf
  | succ d ih => intro S a v _ _ _ _ hc hf; exact c_X13_trees l G fu (fun S => ih S a) S v _ _ _ hc hf
abbrev w_X13_areThere : List Cond := Cond.code yX13_areThere cX13_areThere 2 (some .boolean) :: wsL_law0
abbrev RM_X13_areThere : Room := { frames := 1, cells := 0, slots := 0, locals := 22 }
noncomputable def f_X13_areThere_0 (fu : Nat)  (v : GV) (x1 : Int32) : Option (Int32) :=
  bd (f_X13_within fu x1 (0 : Int32) (((1 : Int32) <<< ((gA v 24 (2 : Int32).toNatClampNeg) &&& 31)) - (1 : Int32))) fun r1 =>
  ck (isB r1) <|
  some r1
set_option maxHeartbeats 4000000 in
set_option maxRecDepth 100000 in
theorem t_X13_areThere_0 {G : GG} {p : Program} {l : Launch} {e : Env} {s : State} {m : MethodId} {args : Array Value} {below : List Frame} {meth : Method} {c : Code} {S : ST} {fu : Nat} {z : Int32} {a : Nat} {v : GV}  {x1 : Int32} (hM : MC G p s m args c cX13_areThere w_X13_areThere RX13) (hml : c.maxLocals = 2) (hr : meth.sig.returnType = (some .boolean)) (hlk : meth.locks = false) (hc0 : gC v = 12)  (hf : f_X13_areThere_0 fu  v x1 = some z) : ∀ (H : Heap) (locs : List Loc), WB G (st S a v) s H locs → ∀ (ls : Array Slot), lv_has ls 2 [(0, .ref a), (1, .int x1)] → W p l e RM_X13_areThere s m args below meth c H locs 0 0 (QR G below args s (some (.int z)) (st S a v) (st S a v)) (F0 m 0 ls []) := by
  intro H locs hW ls hl
  have hx := hM.1
  have hb := hM.2.1
  have hc := hc0
  refine lv_iload_n hx hb dX13_areThere_0 rfl (lv_at hl 1 rfl) ?_
  refine lv_iconst (v := (0 : Int32)) hx hb dX13_areThere_1 (by decide) ?_
  refine lv_iconst (v := (1 : Int32)) hx hb dX13_areThere_2 (by decide) ?_
  refine lv_aload_n hx hb dX13_areThere_3 rfl (lv_at hl 0 rfl) ?_
  refine b_get hM hW 11 24 hc rfl rfl (by decide) wi_X13 (wgm fk_RX13_125) (x := .ref (a + 16)) rfl dX13_areThere_4 ?_
  refine lv_iconst (v := (2 : Int32)) hx hb dX13_areThere_7 (by decide) ?_
  refine b_iald (n := 1518) hM hW 11 24 hc (by decide) rfl rfl rfl rfl (by decide) dX13_areThere_8 ?_
  refine lv_ishl hx hb dX13_areThere_9 ?_
  refine lv_iconst (v := (1 : Int32)) hx hb dX13_areThere_10 (by decide) ?_
  refine lv_isub hx hb dX13_areThere_11 ?_
  obtain ⟨r1, hr1, hf⟩ := bd_elim hf
  refine b_callSi [.int x1, .int (0 : Int32), .int (((1 : Int32) <<< ((gA v 24 (2 : Int32).toNatClampNeg) &&& 31)) - (1 : Int32))] [] hM hml hl.1 hW (c_X13_within l G fu _ _ _ _ hr1) (va_cwS 3 hM.2.2.2.1 (gS mk_RX13_231 sm_X13_within it_RX13 cd_X13_within) rfl rfl rfl (by decide +kernel) ⟨Nat.le_of_ble_eq_true rfl, Nat.le_of_ble_eq_true rfl⟩) rfl rfl (Nat.le_of_ble_eq_true rfl) ⟨Nat.zero_le _, Nat.zero_le _⟩ dX13_areThere_12 (fun H locs hW hk => ?_)
  obtain ⟨h2, hf⟩ := ck_elim hf
  cases hf
  exact W.zret (v := _) hx hb hr (isB_nar h2) (b_ret0 hW (fun _ _ => rfl) _) hW.2.2.2 dX13_areThere_15 hlk
noncomputable def f_X13_areThere (fu : Nat) (v : GV) (x1 : Int32) : Option (Int32) := f_X13_areThere_0 fu v x1
set_option maxHeartbeats 4000000 in
set_option maxRecDepth 100000 in
theorem c_X13_areThere (l : Launch) (G : GG) (fu : Nat) (S : ST) (a : Nat) (v : GV) (x1 : Int32) {z : Int32} (hc : gC v = 12) (hf : f_X13_areThere fu v x1 = some z) : Ct l yX13_areThere w_X13_areThere RM_X13_areThere G (st S a v) [.ref a, .int x1] (some (.int z)) (st S a v) 0 0 := by
  refine Met.ofW (cc := cX13_areThere) (maxL := 2) (ret := (some .boolean)) (by decide) rfl ?_
  intro p e s m args below meth c s₁ B hml hv
  obtain ⟨rfl, hB, hK, hz⟩ := hv
  have hM : MC G p s m _ c cX13_areThere w_X13_areThere RX13 := ⟨B.exec, B.bytes, findClass_of_methodNamed B.named, atoms_spec (ws := w_X13_areThere) B.pre, hK, hz⟩
  have hW : WB G (st S a v) s s.heap [] := ⟨hB, va_S.rf⟩
  have hl := lv_entry ([.ref a, .int x1]) (n := 2) (Nat.le_of_ble_eq_true rfl)
  rw [lg_entry_eq]
  generalize (lg_sl ([.ref a, .int x1]) ++ List.replicate (2 - (lg_sl ([.ref a, .int x1])).length) Slot.unset).toArray = ls at hl ⊢
  have hl : lv_has ls 2 [(0, .ref a), (1, .int x1)] := hl
  exact t_X13_areThere_0 hM hml B.returns B.notSynchronized hc hf _ _ hW _ (lv_sub hl [0, 1] rfl)
abbrev w_X13_tree : List Cond := Cond.code yX13_tree cX13_tree 6 (some .int) :: wsL_law0
abbrev RM_X13_tree : Room := { frames := 11, cells := 0, slots := 0, locals := 264 }
noncomputable def f_X13_tree_74 (fu : Nat) (k45 : Int32 → Int32 → GV → Option (Int32 × GV)) (v : GV) (x1 : Int32) (x2 : Int32) (x3 : Int32) (x4 : Int32) (x5 : Int32) : Option (Int32 × GV) :=
  nm (x5 + (1 : Int32)) fun y1 =>
  k45 x4 y1 v
set_option maxHeartbeats 4000000 in
set_option maxRecDepth 100000 in
theorem t_X13_tree_74 {G : GG} {p : Program} {l : Launch} {e : Env} {s : State} {m : MethodId} {args : Array Value} {below : List Frame} {meth : Method} {c : Code} {S : ST} {fu : Nat} {z : Int32 × GV} {a : Nat} {v0 : GV} {k45 : Int32 → Int32 → GV → Option (Int32 × GV)} {v : GV} {x1 : Int32} {x2 : Int32} {x3 : Int32} {x4 : Int32} {x5 : Int32} (hM : MC G p s m args c cX13_tree w_X13_tree RX13) (hml : c.maxLocals = 6) (hr : meth.sig.returnType = (some .int)) (hlk : meth.locks = false) (hc0 : gC v0 = 12) (hk45 : ∀ (x4 : Int32) (x5 : Int32) (v : GV), k45 x4 x5 v = some z → gC v = 12 → ∀ (H : Heap) (locs : List Loc), WB G (st S a v) s H locs → ∀ (ls : Array Slot), lv_has ls 6 [(0, .ref a), (1, .int x1), (2, .int x2), (3, .int x3), (4, .int x4), (5, .int x5)] → W p l e RM_X13_tree s m args below meth c H locs 0 0 (QR G below args s (some (.int z.1)) (st S a v0) (st S a z.2)) (F0 m 45 ls [])) (hf : f_X13_tree_74 fu k45 v x1 x2 x3 x4 x5 = some z) : gC v = 12 → ∀ (H : Heap) (locs : List Loc), WB G (st S a v) s H locs → ∀ (ls : Array Slot), lv_has ls 6 [(0, .ref a), (1, .int x1), (2, .int x2), (3, .int x3), (4, .int x4), (5, .int x5)] → W p l e RM_X13_tree s m args below meth c H locs 0 0 (QR G below args s (some (.int z.1)) (st S a v0) (st S a z.2)) (F0 m 74 ls []) := by
  intro hc H locs hW ls hl
  have hx := hM.1
  have hb := hM.2.1
  obtain ⟨y1, ey1⟩ : ∃ y : Int32, y = x5 + (1 : Int32) := ⟨_, rfl⟩
  have hf := nm_at ey1 hf
  refine lv_iinc (v := y1) (lv' := [(5, .int y1), (0, .ref a), (1, .int x1), (2, .int x2), (3, .int x3), (4, .int x4)]) hx hb dX13_tree_74 hl (k := 5) rfl (by rw [ey1]; rfl) (by decide) rfl (fun ls hl => ?_)
  refine lv_goto (tgt := 45) hx hb dX13_tree_77 (by decide) ?_
  exact hk45 _ _ _ hf hc _ _ hW _ (lv_sub hl [1, 2, 3, 4, 5, 0] rfl)
noncomputable def f_X13_tree_45s (fu : Nat)  (k45 : Int32 → Int32 → GV → Option (Int32 × GV)) (x1 : Int32) (x2 : Int32) (x3 : Int32) (x4 : Int32) (x5 : Int32) (v : GV) : Option (Int32 × GV) :=
  if (8 : Int32) ≤ x5 then
    (nm (sI v 30 (-1 : Int32)) fun v2 =>
    bd (f_X13_treesD fu 8 v2 x3 (1 : Int32) (0 : Int32)) fun v4 =>
    if x2 = 0 then
      (some ((gI v4 30), v4))
    else
      (if x2 = (1 : Int32) then
        (some ((gI v4 31), v4))
      else
        (nm ((x2 - (1 : Int32))) fun y7 =>
        ck (inb y7 6) <|
        nm ((gA v4 29 y7.toNatClampNeg)) fun y9 =>
        ck (inb y9 6) <|
        some ((gA v4 27 y9.toNatClampNeg), v4))))
  else
    (if ((x1 >>> (x5 &&& 31)) &&& (1 : Int32)) = (1 : Int32) then
      (ck (inb x4 6) <|
      nm (sA v 27 x4.toNatClampNeg x5) fun v13 =>
      nm (x4 + (1 : Int32)) fun y14 =>
      f_X13_tree_74 fu k45 v13 x1 x2 x3 y14 x5)
    else
      (f_X13_tree_74 fu k45 v x1 x2 x3 x4 x5))
noncomputable def f_X13_tree_45 (fu n : Nat)  (x1 : Int32) (x2 : Int32) (x3 : Int32) : Int32 → Int32 → GV → Option (Int32 × GV) :=
  lq_3 (fun k45 => f_X13_tree_45s fu  k45 x1 x2 x3) n
set_option maxHeartbeats 4000000 in
set_option maxRecDepth 100000 in
theorem t_X13_tree_45s {G : GG} {p : Program} {l : Launch} {e : Env} {s : State} {m : MethodId} {args : Array Value} {below : List Frame} {meth : Method} {c : Code} {S : ST} {fu : Nat} {z : Int32 × GV} {a : Nat} {v0 : GV}  (hM : MC G p s m args c cX13_tree w_X13_tree RX13) (hml : c.maxLocals = 6) (hr : meth.sig.returnType = (some .int)) (hlk : meth.locks = false) (hc0 : gC v0 = 12) {k45 : Int32 → Int32 → GV → Option (Int32 × GV)} {x1 : Int32} {x2 : Int32} {x3 : Int32}  (hk45 : ∀ (x4 : Int32) (x5 : Int32) (v : GV), k45 x4 x5 v = some z → gC v = 12 → ∀ (H : Heap) (locs : List Loc), WB G (st S a v) s H locs → ∀ (ls : Array Slot), lv_has ls 6 [(0, .ref a), (1, .int x1), (2, .int x2), (3, .int x3), (4, .int x4), (5, .int x5)] → W p l e RM_X13_tree s m args below meth c H locs 0 0 (QR G below args s (some (.int z.1)) (st S a v0) (st S a z.2)) (F0 m 45 ls [])) : ∀ (x4 : Int32) (x5 : Int32) (v : GV), f_X13_tree_45s fu  k45 x1 x2 x3 x4 x5 v = some z → gC v = 12 → ∀ (H : Heap) (locs : List Loc), WB G (st S a v) s H locs → ∀ (ls : Array Slot), lv_has ls 6 [(0, .ref a), (1, .int x1), (2, .int x2), (3, .int x3), (4, .int x4), (5, .int x5)] → W p l e RM_X13_tree s m args below meth c H locs 0 0 (QR G below args s (some (.int z.1)) (st S a v0) (st S a z.2)) (F0 m 45 ls []) := by
  intro x4 x5 v hf hc H locs hW ls hl
  have hx := hM.1
  have hb := hM.2.1
  refine lv_iload hx hb dX13_tree_45 (lv_at hl 5 rfl) ?_
  refine lv_bipush (v := (8 : Int32)) hx hb dX13_tree_47 (by decide) ?_
  refine lv_icmp_ge (tgt := 80) hx hb dX13_tree_49 (by decide) (fun c1 => ?_) (fun c1 => ?_)
  · have hf := if_t c1 hf
    refine lv_aload_n hx hb dX13_tree_80 rfl (lv_at hl 0 rfl) ?_
    refine lv_iconst (v := (-1 : Int32)) hx hb dX13_tree_81 (by decide) ?_
    refine b_putI hM hW 11 30 hc rfl rfl (by decide) wi_X13 tyX13 tyX13_ok nmX13 (wgm fk_RX13_412) rfl rfl rfl dX13_tree_82 (fun v2 ev2 hc H locs hW => ?_)
    have hf := nm_at ev2 hf
    refine lv_aload_n hx hb dX13_tree_85 rfl (lv_at hl 0 rfl) ?_
    refine lv_iload_n hx hb dX13_tree_86 rfl (lv_at hl 3 rfl) ?_
    refine lv_iconst (v := (1 : Int32)) hx hb dX13_tree_87 (by decide) ?_
    refine lv_iconst (v := (0 : Int32)) hx hb dX13_tree_88 (by decide) ?_
    obtain ⟨v4, hr3, hf⟩ := bd_elim hf
    refine b_callVv [.int x3, .int (1 : Int32), .int (0 : Int32)] [] hM hml hl.1 hW hc rfl (by decide) (c_X13_treesD l G fu 8 _ a v2 _ _ _ _ hc hr3) (cwV 3 hM.2.2.2.1 (gV mk_RX13_409 im_X13_trees se_X13_trees it_RX13 cd_X13_trees) rfl rfl rfl (by decide +kernel) ⟨Nat.le_of_ble_eq_true rfl, Nat.le_of_ble_eq_true rfl⟩) rfl rfl (Nat.le_of_ble_eq_true rfl) ⟨Nat.zero_le _, Nat.zero_le _⟩ dX13_tree_89 (fun H locs hW hk => ?_)
    have hc := keep_at hc hk
    refine lv_iload_n hx hb dX13_tree_92 rfl (lv_at hl 2 rfl) ?_
    refine lv_if_ne (tgt := 103) hx hb dX13_tree_93 (by decide) (fun c5 => ?_) (fun c5 => ?_)
    · have hf := if_f c5 hf
      refine lv_iload_n hx hb dX13_tree_103 rfl (lv_at hl 2 rfl) ?_
      refine lv_iconst (v := (1 : Int32)) hx hb dX13_tree_104 (by decide) ?_
      refine lv_icmp_ne (tgt := 115) hx hb dX13_tree_105 (by decide) (fun c6 => ?_) (fun c6 => ?_)
      · have hf := if_f c6 hf
        refine lv_aload_n hx hb dX13_tree_115 rfl (lv_at hl 0 rfl) ?_
        refine b_get hM hW 11 27 hc rfl rfl (by decide) wi_X13 (wgm fk_RX13_132) (x := .ref (a + 18)) rfl dX13_tree_116 ?_
        refine lv_aload_n hx hb dX13_tree_119 rfl (lv_at hl 0 rfl) ?_
        refine b_get hM hW 11 29 hc rfl rfl (by decide) wi_X13 (wgm fk_RX13_138) (x := .ref (a + 20)) rfl dX13_tree_120 ?_
        refine lv_iload_n hx hb dX13_tree_123 rfl (lv_at hl 2 rfl) ?_
        refine lv_iconst (v := (1 : Int32)) hx hb dX13_tree_124 (by decide) ?_
        refine lv_isub hx hb dX13_tree_125 ?_
        refine lv_topi (fun y7 ey7 => ?_)
        have hf := nm_at ey7 hf
        obtain ⟨h8, hf⟩ := ck_elim hf
        refine b_iald (n := 6) hM hW 11 29 hc (by decide) rfl rfl rfl rfl h8 dX13_tree_126 ?_
        refine lv_topi (fun y9 ey9 => ?_)
        have hf := nm_at ey9 hf
        obtain ⟨h10, hf⟩ := ck_elim hf
        refine b_iald (n := 6) hM hW 11 27 hc (by decide) rfl rfl rfl rfl h10 dX13_tree_127 ?_
        cases hf
        exact W.iret hx hb hr (b_ret0 hW (keep_s2 hc0 hc) _) hW.2.2.2 dX13_tree_128 hlk
      · have hf := if_t c6 hf
        refine lv_aload_n hx hb dX13_tree_108 rfl (lv_at hl 0 rfl) ?_
        refine b_get hM hW 11 31 hc rfl rfl (by decide) wi_X13 (wgm fk_RX13_418) (x := .int (gI v4 31)) rfl dX13_tree_109 ?_
        refine lv_goto (tgt := 128) hx hb dX13_tree_112 (by decide) ?_
        cases hf
        exact W.iret hx hb hr (b_ret0 hW (keep_s2 hc0 hc) _) hW.2.2.2 dX13_tree_128 hlk
    · have hf := if_t c5 hf
      refine lv_aload_n hx hb dX13_tree_96 rfl (lv_at hl 0 rfl) ?_
      refine b_get hM hW 11 30 hc rfl rfl (by decide) wi_X13 (wgm fk_RX13_412) (x := .int (gI v4 30)) rfl dX13_tree_97 ?_
      refine lv_goto (tgt := 128) hx hb dX13_tree_100 (by decide) ?_
      cases hf
      exact W.iret hx hb hr (b_ret0 hW (keep_s2 hc0 hc) _) hW.2.2.2 dX13_tree_128 hlk
  · have hf := if_f c1 hf
    refine lv_iload_n hx hb dX13_tree_52 rfl (lv_at hl 1 rfl) ?_
    refine lv_iload hx hb dX13_tree_53 (lv_at hl 5 rfl) ?_
    refine lv_ishr hx hb dX13_tree_55 ?_
    refine lv_iconst (v := (1 : Int32)) hx hb dX13_tree_56 (by decide) ?_
    refine lv_iand hx hb dX13_tree_57 ?_
    refine lv_iconst (v := (1 : Int32)) hx hb dX13_tree_58 (by decide) ?_
    refine lv_icmp_ne (tgt := 74) hx hb dX13_tree_59 (by decide) (fun c11 => ?_) (fun c11 => ?_)
    · have hf := if_f c11 hf
      exact t_X13_tree_74 (fu := fu) hM hml hr hlk hc0 hk45 hf hc _ _ hW _ (lv_sub hl [0, 1, 2, 3, 4, 5] rfl)
    · have hf := if_t c11 hf
      refine lv_aload_n hx hb dX13_tree_62 rfl (lv_at hl 0 rfl) ?_
      refine b_get hM hW 11 27 hc rfl rfl (by decide) wi_X13 (wgm fk_RX13_132) (x := .ref (a + 18)) rfl dX13_tree_63 ?_
      refine lv_iload hx hb dX13_tree_66 (lv_at hl 4 rfl) ?_
      refine lv_iload hx hb dX13_tree_68 (lv_at hl 5 rfl) ?_
      obtain ⟨h12, hf⟩ := ck_elim hf
      refine b_iast (n := 6) hM hW 11 27 hc (by decide) rfl rfl rfl rfl h12 dX13_tree_70 (fun v13 ev13 hc H locs hW => ?_)
      have hf := nm_at ev13 hf
      obtain ⟨y14, ey14⟩ : ∃ y : Int32, y = x4 + (1 : Int32) := ⟨_, rfl⟩
      have hf := nm_at ey14 hf
      refine lv_iinc (v := y14) (lv' := [(4, .int y14), (0, .ref a), (1, .int x1), (2, .int x2), (3, .int x3), (5, .int x5)]) hx hb dX13_tree_71 hl (k := 4) rfl (by rw [ey14]; rfl) (by decide) rfl (fun ls hl => ?_)
      exact t_X13_tree_74 (fu := fu) hM hml hr hlk hc0 hk45 hf hc _ _ hW _ (lv_sub hl [1, 2, 3, 4, 0, 5] rfl)
theorem t_X13_tree_45 {G : GG} {p : Program} {l : Launch} {e : Env} {s : State} {m : MethodId} {args : Array Value} {below : List Frame} {meth : Method} {c : Code} {S : ST} {fu : Nat} {z : Int32 × GV} {a : Nat} {v0 : GV}  {x1 : Int32} {x2 : Int32} {x3 : Int32} (hM : MC G p s m args c cX13_tree w_X13_tree RX13) (hml : c.maxLocals = 6) (hr : meth.sig.returnType = (some .int)) (hlk : meth.locks = false) (hc0 : gC v0 = 12)  : ∀ {n : Nat} (x4 : Int32) (x5 : Int32) (v : GV), f_X13_tree_45 fu n  x1 x2 x3 x4 x5 v = some z → gC v = 12 → ∀ (H : Heap) (locs : List Loc), WB G (st S a v) s H locs → ∀ (ls : Array Slot), lv_has ls 6 [(0, .ref a), (1, .int x1), (2, .int x2), (3, .int x3), (4, .int x4), (5, .int x5)] → W p l e RM_X13_tree s m args below meth c H locs 0 0 (QR G below args s (some (.int z.1)) (st S a v0) (st S a z.2)) (F0 m 45 ls []) := by
  intro n
  induction n with
  | zero => intro x4 x5 v hf; cases hf
  | succ n ih => intro x4 x5 v hf; exact t_X13_tree_45s (fu := fu) hM hml hr hlk hc0  (k45 := f_X13_tree_45 fu n  x1 x2 x3) ih _ _ _ hf
noncomputable def f_X13_tree_37 (fu : Nat)  (v : GV) : Option (Int32 × GV) :=
  some ((-1 : Int32), v)
set_option maxHeartbeats 4000000 in
set_option maxRecDepth 100000 in
theorem t_X13_tree_37 {G : GG} {p : Program} {l : Launch} {e : Env} {s : State} {m : MethodId} {args : Array Value} {below : List Frame} {meth : Method} {c : Code} {S : ST} {fu : Nat} {z : Int32 × GV} {a : Nat} {v0 : GV}  {v : GV} (hM : MC G p s m args c cX13_tree w_X13_tree RX13) (hml : c.maxLocals = 6) (hr : meth.sig.returnType = (some .int)) (hlk : meth.locks = false) (hc0 : gC v0 = 12)  (hf : f_X13_tree_37 fu  v  = some z) : gC v = 12 → ∀ (H : Heap) (locs : List Loc), WB G (st S a v) s H locs → ∀ (ls : Array Slot), lv_has ls 6 [] → W p l e RM_X13_tree s m args below meth c H locs 0 0 (QR G below args s (some (.int z.1)) (st S a v0) (st S a z.2)) (F0 m 37 ls []) := by
  intro hc H locs hW ls hl
  have hx := hM.1
  have hb := hM.2.1
  refine lv_iconst (v := (-1 : Int32)) hx hb dX13_tree_37 (by decide) ?_
  cases hf
  exact W.iret hx hb hr (b_ret0 hW (keep_s2 hc0 hc) _) hW.2.2.2 dX13_tree_38 hlk
noncomputable def f_X13_tree_0 (fu : Nat)  (v : GV) (x1 : Int32) (x2 : Int32) : Option (Int32 × GV) :=
  nm (sI v 0 (0 : Int32)) fun v1 =>
  bd (f_X13_bits fu x1) fun r2 =>
  bd (f_X13_areThere fu v1 x1) fun r3 =>
  if r3 = 0 then
    (f_X13_tree_37 fu v1)
  else
    (bd (f_X13_within fu r2 (1 : Int32) (6 : Int32)) fun r5 =>
    if r5 = 0 then
      (f_X13_tree_37 fu v1)
    else
      (bd (f_X13_within fu x2 (0 : Int32) r2) fun r7 =>
      if r7 = 0 then
        (f_X13_tree_37 fu v1)
      else
        (f_X13_tree_45 fu fu x1 x2 r2 (0 : Int32) (0 : Int32) v1)))
set_option maxHeartbeats 4000000 in
set_option maxRecDepth 100000 in
theorem t_X13_tree_0 {G : GG} {p : Program} {l : Launch} {e : Env} {s : State} {m : MethodId} {args : Array Value} {below : List Frame} {meth : Method} {c : Code} {S : ST} {fu : Nat} {z : Int32 × GV} {a : Nat} {v0 : GV}  {v : GV} {x1 : Int32} {x2 : Int32} (hM : MC G p s m args c cX13_tree w_X13_tree RX13) (hml : c.maxLocals = 6) (hr : meth.sig.returnType = (some .int)) (hlk : meth.locks = false) (hc0 : gC v0 = 12)  (hf : f_X13_tree_0 fu  v x1 x2 = some z) : gC v = 12 → ∀ (H : Heap) (locs : List Loc), WB G (st S a v) s H locs → ∀ (ls : Array Slot), lv_has ls 6 [(0, .ref a), (1, .int x1), (2, .int x2)] → W p l e RM_X13_tree s m args below meth c H locs 0 0 (QR G below args s (some (.int z.1)) (st S a v0) (st S a z.2)) (F0 m 0 ls []) := by
  intro hc H locs hW ls hl
  have hx := hM.1
  have hb := hM.2.1
  refine lv_aload_n hx hb dX13_tree_0 rfl (lv_at hl 0 rfl) ?_
  refine lv_iconst (v := (0 : Int32)) hx hb dX13_tree_1 (by decide) ?_
  refine b_putI hM hW 11 0 hc rfl rfl (by decide) wi_X13 tyX13 tyX13_ok nmX13 (wgm fk_RX13_1) rfl rfl rfl dX13_tree_2 (fun v1 ev1 hc H locs hW => ?_)
  have hf := nm_at ev1 hf
  refine lv_iload_n hx hb dX13_tree_5 rfl (lv_at hl 1 rfl) ?_
  obtain ⟨r2, hr2, hf⟩ := bd_elim hf
  refine b_callSi [.int x1] [] hM hml hl.1 hW (c_X13_bits l G fu _ _ hr2) (va_cwS 1 hM.2.2.2.1 (gS mk_RX13_339 sm_X13_bits it_RX13 cd_X13_bits) rfl rfl rfl (by decide +kernel) ⟨Nat.le_of_ble_eq_true rfl, Nat.le_of_ble_eq_true rfl⟩) rfl rfl (Nat.le_of_ble_eq_true rfl) ⟨Nat.zero_le _, Nat.zero_le _⟩ dX13_tree_6 (fun H locs hW hk => ?_)
  refine lv_istore_n (lv' := [(3, .int r2), (0, .ref a), (1, .int x1), (2, .int x2)]) hx hb dX13_tree_9 rfl hl (by decide) rfl (fun ls hl => ?_)
  refine lv_aload_n hx hb dX13_tree_10 rfl (lv_at hl 1 rfl) ?_
  refine lv_iload_n hx hb dX13_tree_11 rfl (lv_at hl 2 rfl) ?_
  obtain ⟨r3, hr3, hf⟩ := bd_elim hf
  refine b_callVi [.int x1] [] hM hml hl.1 hW hc rfl (by decide) (c_X13_areThere l G fu _ a v1 _ hc hr3) (cwV 1 hM.2.2.2.1 (gV mk_RX13_421 im_X13_areThere se_X13_areThere it_RX13 cd_X13_areThere) rfl rfl rfl (by decide +kernel) ⟨Nat.le_of_ble_eq_true rfl, Nat.le_of_ble_eq_true rfl⟩) rfl rfl (Nat.le_of_ble_eq_true rfl) ⟨Nat.zero_le _, Nat.zero_le _⟩ dX13_tree_12 (fun H locs hW hk => ?_)
  refine lv_if_eq (tgt := 37) hx hb dX13_tree_15 (by decide) (fun c4 => ?_) (fun c4 => ?_)
  · have hf := if_t c4 hf
    exact t_X13_tree_37 (fu := fu) hM hml hr hlk hc0 hf hc _ _ hW _ (lv_sub hl [] rfl)
  · have hf := if_f c4 hf
    refine lv_iload_n hx hb dX13_tree_18 rfl (lv_at hl 0 rfl) ?_
    refine lv_iconst (v := (1 : Int32)) hx hb dX13_tree_19 (by decide) ?_
    refine lv_bipush (v := (6 : Int32)) hx hb dX13_tree_20 (by decide) ?_
    obtain ⟨r5, hr5, hf⟩ := bd_elim hf
    refine b_callSi [.int r2, .int (1 : Int32), .int (6 : Int32)] [] hM hml hl.1 hW (c_X13_within l G fu _ _ _ _ hr5) (va_cwS 3 hM.2.2.2.1 (gS mk_RX13_231 sm_X13_within it_RX13 cd_X13_within) rfl rfl rfl (by decide +kernel) ⟨Nat.le_of_ble_eq_true rfl, Nat.le_of_ble_eq_true rfl⟩) rfl rfl (Nat.le_of_ble_eq_true rfl) ⟨Nat.zero_le _, Nat.zero_le _⟩ dX13_tree_22 (fun H locs hW hk => ?_)
    refine lv_if_eq (tgt := 37) hx hb dX13_tree_25 (by decide) (fun c6 => ?_) (fun c6 => ?_)
    · have hf := if_t c6 hf
      exact t_X13_tree_37 (fu := fu) hM hml hr hlk hc0 hf hc _ _ hW _ (lv_sub hl [] rfl)
    · have hf := if_f c6 hf
      refine lv_iload_n hx hb dX13_tree_28 rfl (lv_at hl 3 rfl) ?_
      refine lv_iconst (v := (0 : Int32)) hx hb dX13_tree_29 (by decide) ?_
      refine lv_iload_n hx hb dX13_tree_30 rfl (lv_at hl 0 rfl) ?_
      obtain ⟨r7, hr7, hf⟩ := bd_elim hf
      refine b_callSi [.int x2, .int (0 : Int32), .int r2] [] hM hml hl.1 hW (c_X13_within l G fu _ _ _ _ hr7) (va_cwS 3 hM.2.2.2.1 (gS mk_RX13_231 sm_X13_within it_RX13 cd_X13_within) rfl rfl rfl (by decide +kernel) ⟨Nat.le_of_ble_eq_true rfl, Nat.le_of_ble_eq_true rfl⟩) rfl rfl (Nat.le_of_ble_eq_true rfl) ⟨Nat.zero_le _, Nat.zero_le _⟩ dX13_tree_31 (fun H locs hW hk => ?_)
      refine lv_if_ne (tgt := 39) hx hb dX13_tree_34 (by decide) (fun c8 => ?_) (fun c8 => ?_)
      · have hf := if_f c8 hf
        refine lv_iconst (v := (0 : Int32)) hx hb dX13_tree_39 (by decide) ?_
        refine lv_istore (lv' := [(4, .int (0 : Int32)), (3, .int r2), (0, .ref a), (1, .int x1), (2, .int x2)]) hx hb dX13_tree_40 hl (by decide) rfl (fun ls hl => ?_)
        refine lv_iconst (v := (0 : Int32)) hx hb dX13_tree_42 (by decide) ?_
        refine lv_istore (lv' := [(5, .int (0 : Int32)), (4, .int (0 : Int32)), (3, .int r2), (0, .ref a), (1, .int x1), (2, .int x2)]) hx hb dX13_tree_43 hl (by decide) rfl (fun ls hl => ?_)
        exact t_X13_tree_45 (fu := fu) hM hml hr hlk hc0 _ _ _ hf hc _ _ hW _ (lv_sub hl [3, 4, 5, 2, 1, 0] rfl)
      · have hf := if_t c8 hf
        exact t_X13_tree_37 (fu := fu) hM hml hr hlk hc0 hf hc _ _ hW _ (lv_sub hl [] rfl)
noncomputable def f_X13_tree (fu : Nat) (v : GV) (x1 : Int32) (x2 : Int32) : Option (Int32 × GV) := f_X13_tree_0 fu v x1 x2
set_option maxHeartbeats 4000000 in
set_option maxRecDepth 100000 in
theorem c_X13_tree (l : Launch) (G : GG) (fu : Nat) (S : ST) (a : Nat) (v : GV) (x1 : Int32) (x2 : Int32) {z : Int32} {w : GV} (hc : gC v = 12) (hf : f_X13_tree fu v x1 x2 = some (z, w)) : Ct l yX13_tree w_X13_tree RM_X13_tree G (st S a v) [.ref a, .int x1, .int x2] (some (.int z)) (st S a w) 0 0 := by
  refine Met.ofW (cc := cX13_tree) (maxL := 6) (ret := (some .int)) (by decide) rfl ?_
  intro p e s m args below meth c s₁ B hml hv
  obtain ⟨rfl, hB, hK, hz⟩ := hv
  have hM : MC G p s m _ c cX13_tree w_X13_tree RX13 := ⟨B.exec, B.bytes, findClass_of_methodNamed B.named, atoms_spec (ws := w_X13_tree) B.pre, hK, hz⟩
  have hW : WB G (st S a v) s s.heap [] := ⟨hB, va_S.rf⟩
  have hl := lv_entry ([.ref a, .int x1, .int x2]) (n := 6) (Nat.le_of_ble_eq_true rfl)
  rw [lg_entry_eq]
  generalize (lg_sl ([.ref a, .int x1, .int x2]) ++ List.replicate (6 - (lg_sl ([.ref a, .int x1, .int x2])).length) Slot.unset).toArray = ls at hl ⊢
  have hl : lv_has ls 6 [(0, .ref a), (1, .int x1), (2, .int x2)] := hl
  exact t_X13_tree_0 hM hml B.returns B.notSynchronized hc hf hc _ _ hW _ (lv_sub hl [0, 1, 2] rfl)
abbrev w_X13_kin : List Cond := Cond.code yX13_kin cX13_kin 5 (some .int) :: wsL_law0
abbrev RM_X13_kin : Room := { frames := 1, cells := 0, slots := 0, locals := 22 }
noncomputable def f_X13_kin_67 (fu : Nat) (k22 : Int32 → Int32 → GV → Option (Int32 × GV)) (v : GV) (x1 : Int32) (x3 : Int32) (t0 : Int32) (t1 : Int32) : Option (Int32 × GV) :=
  nm ((t0 ||| t1)) fun y1 =>
  nm (x3 + (1 : Int32)) fun y2 =>
  k22 y1 y2 v
set_option maxHeartbeats 4000000 in
set_option maxRecDepth 100000 in
theorem t_X13_kin_67 {G : GG} {p : Program} {l : Launch} {e : Env} {s : State} {m : MethodId} {args : Array Value} {below : List Frame} {meth : Method} {c : Code} {S : ST} {fu : Nat} {z : Int32 × GV} {a : Nat} {v0 : GV} {k22 : Int32 → Int32 → GV → Option (Int32 × GV)} {v : GV} {x1 : Int32} {x3 : Int32} {t0 : Int32} {t1 : Int32} (hM : MC G p s m args c cX13_kin w_X13_kin RX13) (hml : c.maxLocals = 5) (hr : meth.sig.returnType = (some .int)) (hlk : meth.locks = false) (hc0 : gC v0 = 12) (hk22 : ∀ (x2 : Int32) (x3 : Int32) (v : GV), k22 x2 x3 v = some z → gC v = 12 → ∀ (H : Heap) (locs : List Loc), WB G (st S a v) s H locs → ∀ (ls : Array Slot), lv_has ls 5 [(0, .ref a), (1, .int x1), (2, .int x2), (3, .int x3)] → W p l e RM_X13_kin s m args below meth c H locs 0 0 (QR G below args s (some (.int z.1)) (st S a v0) (st S a z.2)) (F0 m 22 ls [])) (hf : f_X13_kin_67 fu k22 v x1 x3 t0 t1 = some z) : gC v = 12 → ∀ (H : Heap) (locs : List Loc), WB G (st S a v) s H locs → ∀ (ls : Array Slot), lv_has ls 5 [(0, .ref a), (1, .int x1), (3, .int x3)] → W p l e RM_X13_kin s m args below meth c H locs 0 0 (QR G below args s (some (.int z.1)) (st S a v0) (st S a z.2)) (F0 m 67 ls [.int t1, .int t0]) := by
  intro hc H locs hW ls hl
  have hx := hM.1
  have hb := hM.2.1
  refine lv_ior hx hb dX13_kin_67 ?_
  refine lv_topi (fun y1 ey1 => ?_)
  have hf := nm_at ey1 hf
  refine lv_istore_n (lv' := [(2, .int y1), (0, .ref a), (1, .int x1), (3, .int x3)]) hx hb dX13_kin_68 rfl hl (by decide) rfl (fun ls hl => ?_)
  obtain ⟨y2, ey2⟩ : ∃ y : Int32, y = x3 + (1 : Int32) := ⟨_, rfl⟩
  have hf := nm_at ey2 hf
  refine lv_iinc (v := y2) (lv' := [(3, .int y2), (2, .int y1), (0, .ref a), (1, .int x1)]) hx hb dX13_kin_69 hl (k := 3) rfl (by rw [ey2]; rfl) (by decide) rfl (fun ls hl => ?_)
  refine lv_goto (tgt := 22) hx hb dX13_kin_72 (by decide) ?_
  exact hk22 _ _ _ hf hc _ _ hW _ (lv_sub hl [2, 3, 1, 0] rfl)
noncomputable def f_X13_kin_60 (fu : Nat) (k22 : Int32 → Int32 → GV → Option (Int32 × GV)) (v : GV) (x1 : Int32) (x3 : Int32) (t0 : Int32) : Option (Int32 × GV) :=
  f_X13_kin_67 fu k22 v x1 x3 t0 ((1 : Int32) <<< (x3 &&& 31))
set_option maxHeartbeats 4000000 in
set_option maxRecDepth 100000 in
theorem t_X13_kin_60 {G : GG} {p : Program} {l : Launch} {e : Env} {s : State} {m : MethodId} {args : Array Value} {below : List Frame} {meth : Method} {c : Code} {S : ST} {fu : Nat} {z : Int32 × GV} {a : Nat} {v0 : GV} {k22 : Int32 → Int32 → GV → Option (Int32 × GV)} {v : GV} {x1 : Int32} {x3 : Int32} {t0 : Int32} (hM : MC G p s m args c cX13_kin w_X13_kin RX13) (hml : c.maxLocals = 5) (hr : meth.sig.returnType = (some .int)) (hlk : meth.locks = false) (hc0 : gC v0 = 12) (hk22 : ∀ (x2 : Int32) (x3 : Int32) (v : GV), k22 x2 x3 v = some z → gC v = 12 → ∀ (H : Heap) (locs : List Loc), WB G (st S a v) s H locs → ∀ (ls : Array Slot), lv_has ls 5 [(0, .ref a), (1, .int x1), (2, .int x2), (3, .int x3)] → W p l e RM_X13_kin s m args below meth c H locs 0 0 (QR G below args s (some (.int z.1)) (st S a v0) (st S a z.2)) (F0 m 22 ls [])) (hf : f_X13_kin_60 fu k22 v x1 x3 t0 = some z) : gC v = 12 → ∀ (H : Heap) (locs : List Loc), WB G (st S a v) s H locs → ∀ (ls : Array Slot), lv_has ls 5 [(0, .ref a), (1, .int x1), (3, .int x3)] → W p l e RM_X13_kin s m args below meth c H locs 0 0 (QR G below args s (some (.int z.1)) (st S a v0) (st S a z.2)) (F0 m 60 ls [.int t0]) := by
  intro hc H locs hW ls hl
  have hx := hM.1
  have hb := hM.2.1
  refine lv_iconst (v := (1 : Int32)) hx hb dX13_kin_60 (by decide) ?_
  refine lv_iload_n hx hb dX13_kin_61 rfl (lv_at hl 2 rfl) ?_
  refine lv_ishl hx hb dX13_kin_62 ?_
  refine lv_goto (tgt := 67) hx hb dX13_kin_63 (by decide) ?_
  exact t_X13_kin_67 (fu := fu) hM hml hr hlk hc0 hk22 hf hc _ _ hW _ (lv_sub hl [0, 1, 2] rfl)
noncomputable def f_X13_kin_22s (fu : Nat)  (k22 : Int32 → Int32 → GV → Option (Int32 × GV)) (x1 : Int32) (x2 : Int32) (x3 : Int32) (v : GV) : Option (Int32 × GV) :=
  if (gA v 24 (2 : Int32).toNatClampNeg) ≤ x3 then
    (some (x2, v))
  else
    (nm (((27 : Int32) + x3)) fun y2 =>
    ck (inb y2 1518) <|
    nm ((gA v 24 y2.toNatClampNeg)) fun y4 =>
    if y4 = x1 then
      (f_X13_kin_60 fu k22 v x1 x3 x2)
    else
      (if ((x2 >>> (y4 &&& 31)) &&& (1 : Int32)) = (1 : Int32) then
        (f_X13_kin_60 fu k22 v x1 x3 x2)
      else
        (f_X13_kin_67 fu k22 v x1 x3 x2 (0 : Int32))))
noncomputable def f_X13_kin_22 (fu n : Nat)  (x1 : Int32) : Int32 → Int32 → GV → Option (Int32 × GV) :=
  lq_3 (fun k22 => f_X13_kin_22s fu  k22 x1) n
set_option maxHeartbeats 4000000 in
set_option maxRecDepth 100000 in
theorem t_X13_kin_22s {G : GG} {p : Program} {l : Launch} {e : Env} {s : State} {m : MethodId} {args : Array Value} {below : List Frame} {meth : Method} {c : Code} {S : ST} {fu : Nat} {z : Int32 × GV} {a : Nat} {v0 : GV}  (hM : MC G p s m args c cX13_kin w_X13_kin RX13) (hml : c.maxLocals = 5) (hr : meth.sig.returnType = (some .int)) (hlk : meth.locks = false) (hc0 : gC v0 = 12) {k22 : Int32 → Int32 → GV → Option (Int32 × GV)} {x1 : Int32}  (hk22 : ∀ (x2 : Int32) (x3 : Int32) (v : GV), k22 x2 x3 v = some z → gC v = 12 → ∀ (H : Heap) (locs : List Loc), WB G (st S a v) s H locs → ∀ (ls : Array Slot), lv_has ls 5 [(0, .ref a), (1, .int x1), (2, .int x2), (3, .int x3)] → W p l e RM_X13_kin s m args below meth c H locs 0 0 (QR G below args s (some (.int z.1)) (st S a v0) (st S a z.2)) (F0 m 22 ls [])) : ∀ (x2 : Int32) (x3 : Int32) (v : GV), f_X13_kin_22s fu  k22 x1 x2 x3 v = some z → gC v = 12 → ∀ (H : Heap) (locs : List Loc), WB G (st S a v) s H locs → ∀ (ls : Array Slot), lv_has ls 5 [(0, .ref a), (1, .int x1), (2, .int x2), (3, .int x3)] → W p l e RM_X13_kin s m args below meth c H locs 0 0 (QR G below args s (some (.int z.1)) (st S a v0) (st S a z.2)) (F0 m 22 ls []) := by
  intro x2 x3 v hf hc H locs hW ls hl
  have hx := hM.1
  have hb := hM.2.1
  refine lv_iload_n hx hb dX13_kin_22 rfl (lv_at hl 3 rfl) ?_
  refine lv_aload_n hx hb dX13_kin_23 rfl (lv_at hl 0 rfl) ?_
  refine b_get hM hW 11 24 hc rfl rfl (by decide) wi_X13 (wgm fk_RX13_125) (x := .ref (a + 16)) rfl dX13_kin_24 ?_
  refine lv_iconst (v := (2 : Int32)) hx hb dX13_kin_27 (by decide) ?_
  refine b_iald (n := 1518) hM hW 11 24 hc (by decide) rfl rfl rfl rfl (by decide) dX13_kin_28 ?_
  refine lv_icmp_ge (tgt := 75) hx hb dX13_kin_29 (by decide) (fun c1 => ?_) (fun c1 => ?_)
  · have hf := if_t c1 hf
    refine lv_iload_n hx hb dX13_kin_75 rfl (lv_at hl 2 rfl) ?_
    cases hf
    exact W.iret hx hb hr (b_ret0 hW (keep_s2 hc0 hc) _) hW.2.2.2 dX13_kin_76 hlk
  · have hf := if_f c1 hf
    refine lv_aload_n hx hb dX13_kin_32 rfl (lv_at hl 0 rfl) ?_
    refine b_get hM hW 11 24 hc rfl rfl (by decide) wi_X13 (wgm fk_RX13_125) (x := .ref (a + 16)) rfl dX13_kin_33 ?_
    refine lv_bipush (v := (27 : Int32)) hx hb dX13_kin_36 (by decide) ?_
    refine lv_iload_n hx hb dX13_kin_38 rfl (lv_at hl 3 rfl) ?_
    refine lv_iadd hx hb dX13_kin_39 ?_
    refine lv_topi (fun y2 ey2 => ?_)
    have hf := nm_at ey2 hf
    obtain ⟨h3, hf⟩ := ck_elim hf
    refine b_iald (n := 1518) hM hW 11 24 hc (by decide) rfl rfl rfl rfl h3 dX13_kin_40 ?_
    refine lv_topi (fun y4 ey4 => ?_)
    have hf := nm_at ey4 hf
    refine lv_istore (lv' := [(4, .int y4), (0, .ref a), (1, .int x1), (2, .int x2), (3, .int x3)]) hx hb dX13_kin_41 hl (by decide) rfl (fun ls hl => ?_)
    refine lv_iload_n hx hb dX13_kin_43 rfl (lv_at hl 3 rfl) ?_
    refine lv_iload hx hb dX13_kin_44 (lv_at hl 0 rfl) ?_
    refine lv_iload_n hx hb dX13_kin_46 rfl (lv_at hl 2 rfl) ?_
    refine lv_icmp_eq (tgt := 60) hx hb dX13_kin_47 (by decide) (fun c5 => ?_) (fun c5 => ?_)
    · have hf := if_t c5 hf
      exact t_X13_kin_60 (fu := fu) hM hml hr hlk hc0 hk22 hf hc _ _ hW _ (lv_sub hl [1, 2, 4] rfl)
    · have hf := if_f c5 hf
      refine lv_iload_n hx hb dX13_kin_50 rfl (lv_at hl 3 rfl) ?_
      refine lv_iload hx hb dX13_kin_51 (lv_at hl 0 rfl) ?_
      refine lv_ishr hx hb dX13_kin_53 ?_
      refine lv_iconst (v := (1 : Int32)) hx hb dX13_kin_54 (by decide) ?_
      refine lv_iand hx hb dX13_kin_55 ?_
      refine lv_iconst (v := (1 : Int32)) hx hb dX13_kin_56 (by decide) ?_
      refine lv_icmp_ne (tgt := 66) hx hb dX13_kin_57 (by decide) (fun c6 => ?_) (fun c6 => ?_)
      · have hf := if_f c6 hf
        refine lv_iconst (v := (0 : Int32)) hx hb dX13_kin_66 (by decide) ?_
        exact t_X13_kin_67 (fu := fu) hM hml hr hlk hc0 hk22 hf hc _ _ hW _ (lv_sub hl [1, 2, 4] rfl)
      · have hf := if_t c6 hf
        exact t_X13_kin_60 (fu := fu) hM hml hr hlk hc0 hk22 hf hc _ _ hW _ (lv_sub hl [1, 2, 4] rfl)
theorem t_X13_kin_22 {G : GG} {p : Program} {l : Launch} {e : Env} {s : State} {m : MethodId} {args : Array Value} {below : List Frame} {meth : Method} {c : Code} {S : ST} {fu : Nat} {z : Int32 × GV} {a : Nat} {v0 : GV}  {x1 : Int32} (hM : MC G p s m args c cX13_kin w_X13_kin RX13) (hml : c.maxLocals = 5) (hr : meth.sig.returnType = (some .int)) (hlk : meth.locks = false) (hc0 : gC v0 = 12)  : ∀ {n : Nat} (x2 : Int32) (x3 : Int32) (v : GV), f_X13_kin_22 fu n  x1 x2 x3 v = some z → gC v = 12 → ∀ (H : Heap) (locs : List Loc), WB G (st S a v) s H locs → ∀ (ls : Array Slot), lv_has ls 5 [(0, .ref a), (1, .int x1), (2, .int x2), (3, .int x3)] → W p l e RM_X13_kin s m args below meth c H locs 0 0 (QR G below args s (some (.int z.1)) (st S a v0) (st S a z.2)) (F0 m 22 ls []) := by
  intro n
  induction n with
  | zero => intro x2 x3 v hf; cases hf
  | succ n ih => intro x2 x3 v hf; exact t_X13_kin_22s (fu := fu) hM hml hr hlk hc0  (k22 := f_X13_kin_22 fu n  x1) ih _ _ _ hf
noncomputable def f_X13_kin_0 (fu : Nat)  (v : GV) (x1 : Int32) : Option (Int32 × GV) :=
  nm (sI v 0 (0 : Int32)) fun v1 =>
  bd (f_X13_isPiece fu v1 (0 : Int32) x1) fun r2 =>
  if r2 = 0 then
    (some ((-1 : Int32), v1))
  else
    (nm ((x1 + (1 : Int32))) fun y4 =>
    f_X13_kin_22 fu fu x1 (0 : Int32) y4 v1)
set_option maxHeartbeats 4000000 in
set_option maxRecDepth 100000 in
theorem t_X13_kin_0 {G : GG} {p : Program} {l : Launch} {e : Env} {s : State} {m : MethodId} {args : Array Value} {below : List Frame} {meth : Method} {c : Code} {S : ST} {fu : Nat} {z : Int32 × GV} {a : Nat} {v0 : GV}  {v : GV} {x1 : Int32} (hM : MC G p s m args c cX13_kin w_X13_kin RX13) (hml : c.maxLocals = 5) (hr : meth.sig.returnType = (some .int)) (hlk : meth.locks = false) (hc0 : gC v0 = 12)  (hf : f_X13_kin_0 fu  v x1 = some z) : gC v = 12 → ∀ (H : Heap) (locs : List Loc), WB G (st S a v) s H locs → ∀ (ls : Array Slot), lv_has ls 5 [(0, .ref a), (1, .int x1)] → W p l e RM_X13_kin s m args below meth c H locs 0 0 (QR G below args s (some (.int z.1)) (st S a v0) (st S a z.2)) (F0 m 0 ls []) := by
  intro hc H locs hW ls hl
  have hx := hM.1
  have hb := hM.2.1
  refine lv_aload_n hx hb dX13_kin_0 rfl (lv_at hl 0 rfl) ?_
  refine lv_iconst (v := (0 : Int32)) hx hb dX13_kin_1 (by decide) ?_
  refine b_putI hM hW 11 0 hc rfl rfl (by decide) wi_X13 tyX13 tyX13_ok nmX13 (wgm fk_RX13_1) rfl rfl rfl dX13_kin_2 (fun v1 ev1 hc H locs hW => ?_)
  have hf := nm_at ev1 hf
  refine lv_aload_n hx hb dX13_kin_5 rfl (lv_at hl 0 rfl) ?_
  refine lv_iconst (v := (0 : Int32)) hx hb dX13_kin_6 (by decide) ?_
  refine lv_iload_n hx hb dX13_kin_7 rfl (lv_at hl 1 rfl) ?_
  obtain ⟨r2, hr2, hf⟩ := bd_elim hf
  refine b_callVi [.int (0 : Int32), .int x1] [] hM hml hl.1 hW hc rfl (by decide) (c_X13_isPiece l G fu _ a v1 _ _ hc hr2) (cwV 2 hM.2.2.2.1 (gV mk_RX13_345 im_X13_isPiece se_X13_isPiece it_RX13 cd_X13_isPiece) rfl rfl rfl (by decide +kernel) ⟨Nat.le_of_ble_eq_true rfl, Nat.le_of_ble_eq_true rfl⟩) rfl rfl (Nat.le_of_ble_eq_true rfl) ⟨Nat.zero_le _, Nat.zero_le _⟩ dX13_kin_8 (fun H locs hW hk => ?_)
  refine lv_if_ne (tgt := 16) hx hb dX13_kin_11 (by decide) (fun c3 => ?_) (fun c3 => ?_)
  · have hf := if_f c3 hf
    refine lv_iconst (v := (0 : Int32)) hx hb dX13_kin_16 (by decide) ?_
    refine lv_istore_n (lv' := [(2, .int (0 : Int32)), (0, .ref a), (1, .int x1)]) hx hb dX13_kin_17 rfl hl (by decide) rfl (fun ls hl => ?_)
    refine lv_iload_n hx hb dX13_kin_18 rfl (lv_at hl 2 rfl) ?_
    refine lv_iconst (v := (1 : Int32)) hx hb dX13_kin_19 (by decide) ?_
    refine lv_iadd hx hb dX13_kin_20 ?_
    refine lv_topi (fun y4 ey4 => ?_)
    have hf := nm_at ey4 hf
    refine lv_istore_n (lv' := [(3, .int y4), (2, .int (0 : Int32)), (0, .ref a), (1, .int x1)]) hx hb dX13_kin_21 rfl hl (by decide) rfl (fun ls hl => ?_)
    exact t_X13_kin_22 (fu := fu) hM hml hr hlk hc0 _ _ _ hf hc _ _ hW _ (lv_sub hl [2, 3, 1, 0] rfl)
  · have hf := if_t c3 hf
    refine lv_iconst (v := (-1 : Int32)) hx hb dX13_kin_14 (by decide) ?_
    cases hf
    exact W.iret hx hb hr (b_ret0 hW (keep_s2 hc0 hc) _) hW.2.2.2 dX13_kin_15 hlk
noncomputable def f_X13_kin (fu : Nat) (v : GV) (x1 : Int32) : Option (Int32 × GV) := f_X13_kin_0 fu v x1
set_option maxHeartbeats 4000000 in
set_option maxRecDepth 100000 in
theorem c_X13_kin (l : Launch) (G : GG) (fu : Nat) (S : ST) (a : Nat) (v : GV) (x1 : Int32) {z : Int32} {w : GV} (hc : gC v = 12) (hf : f_X13_kin fu v x1 = some (z, w)) : Ct l yX13_kin w_X13_kin RM_X13_kin G (st S a v) [.ref a, .int x1] (some (.int z)) (st S a w) 0 0 := by
  refine Met.ofW (cc := cX13_kin) (maxL := 5) (ret := (some .int)) (by decide) rfl ?_
  intro p e s m args below meth c s₁ B hml hv
  obtain ⟨rfl, hB, hK, hz⟩ := hv
  have hM : MC G p s m _ c cX13_kin w_X13_kin RX13 := ⟨B.exec, B.bytes, findClass_of_methodNamed B.named, atoms_spec (ws := w_X13_kin) B.pre, hK, hz⟩
  have hW : WB G (st S a v) s s.heap [] := ⟨hB, va_S.rf⟩
  have hl := lv_entry ([.ref a, .int x1]) (n := 5) (Nat.le_of_ble_eq_true rfl)
  rw [lg_entry_eq]
  generalize (lg_sl ([.ref a, .int x1]) ++ List.replicate (5 - (lg_sl ([.ref a, .int x1])).length) Slot.unset).toArray = ls at hl ⊢
  have hl : lv_has ls 5 [(0, .ref a), (1, .int x1)] := hl
  exact t_X13_kin_0 hM hml B.returns B.notSynchronized hc hf hc _ _ hW _ (lv_sub hl [0, 1] rfl)
abbrev w_X13_nearest : List Cond := Cond.code yX13_nearest cX13_nearest 5 (some .int) :: wsL_law0
abbrev RM_X13_nearest : Room := { frames := 2, cells := 0, slots := 0, locals := 44 }
noncomputable def f_X13_nearest_90 (fu : Nat)  (v : GV) (x2 : Int32) : Option (Int32 × GV) :=
  some (x2, v)
set_option maxHeartbeats 4000000 in
set_option maxRecDepth 100000 in
theorem t_X13_nearest_90 {G : GG} {p : Program} {l : Launch} {e : Env} {s : State} {m : MethodId} {args : Array Value} {below : List Frame} {meth : Method} {c : Code} {S : ST} {fu : Nat} {z : Int32 × GV} {a : Nat} {v0 : GV}  {v : GV} {x2 : Int32} (hM : MC G p s m args c cX13_nearest w_X13_nearest RX13) (hml : c.maxLocals = 5) (hr : meth.sig.returnType = (some .int)) (hlk : meth.locks = false) (hc0 : gC v0 = 12)  (hf : f_X13_nearest_90 fu  v x2 = some z) : gC v = 12 → ∀ (H : Heap) (locs : List Loc), WB G (st S a v) s H locs → ∀ (ls : Array Slot), lv_has ls 5 [(2, .int x2)] → W p l e RM_X13_nearest s m args below meth c H locs 0 0 (QR G below args s (some (.int z.1)) (st S a v0) (st S a z.2)) (F0 m 90 ls []) := by
  intro hc H locs hW ls hl
  have hx := hM.1
  have hb := hM.2.1
  refine lv_iload_n hx hb dX13_nearest_90 rfl (lv_at hl 0 rfl) ?_
  cases hf
  exact W.iret hx hb hr (b_ret0 hW (keep_s2 hc0 hc) _) hW.2.2.2 dX13_nearest_91 hlk
noncomputable def f_X13_nearest_83 (fu : Nat) (k9 : Int32 → Int32 → GV → Option (Int32 × GV)) (v : GV) (x1 : Int32) (x3 : Int32) (t0 : Int32) : Option (Int32 × GV) :=
  nm (x3 + (1 : Int32)) fun y1 =>
  k9 t0 y1 v
set_option maxHeartbeats 4000000 in
set_option maxRecDepth 100000 in
theorem t_X13_nearest_83 {G : GG} {p : Program} {l : Launch} {e : Env} {s : State} {m : MethodId} {args : Array Value} {below : List Frame} {meth : Method} {c : Code} {S : ST} {fu : Nat} {z : Int32 × GV} {a : Nat} {v0 : GV} {k9 : Int32 → Int32 → GV → Option (Int32 × GV)} {v : GV} {x1 : Int32} {x3 : Int32} {t0 : Int32} (hM : MC G p s m args c cX13_nearest w_X13_nearest RX13) (hml : c.maxLocals = 5) (hr : meth.sig.returnType = (some .int)) (hlk : meth.locks = false) (hc0 : gC v0 = 12) (hk9 : ∀ (x2 : Int32) (x3 : Int32) (v : GV), k9 x2 x3 v = some z → gC v = 12 → ∀ (H : Heap) (locs : List Loc), WB G (st S a v) s H locs → ∀ (ls : Array Slot), lv_has ls 5 [(0, .ref a), (1, .int x1), (2, .int x2), (3, .int x3)] → W p l e RM_X13_nearest s m args below meth c H locs 0 0 (QR G below args s (some (.int z.1)) (st S a v0) (st S a z.2)) (F0 m 9 ls [])) (hf : f_X13_nearest_83 fu k9 v x1 x3 t0 = some z) : gC v = 12 → ∀ (H : Heap) (locs : List Loc), WB G (st S a v) s H locs → ∀ (ls : Array Slot), lv_has ls 5 [(0, .ref a), (1, .int x1), (3, .int x3)] → W p l e RM_X13_nearest s m args below meth c H locs 0 0 (QR G below args s (some (.int z.1)) (st S a v0) (st S a z.2)) (F0 m 83 ls [.int t0]) := by
  intro hc H locs hW ls hl
  have hx := hM.1
  have hb := hM.2.1
  refine lv_istore_n (lv' := [(2, .int t0), (0, .ref a), (1, .int x1), (3, .int x3)]) hx hb dX13_nearest_83 rfl hl (by decide) rfl (fun ls hl => ?_)
  obtain ⟨y1, ey1⟩ : ∃ y : Int32, y = x3 + (1 : Int32) := ⟨_, rfl⟩
  have hf := nm_at ey1 hf
  refine lv_iinc (v := y1) (lv' := [(3, .int y1), (2, .int t0), (0, .ref a), (1, .int x1)]) hx hb dX13_nearest_84 hl (k := 3) rfl (by rw [ey1]; rfl) (by decide) rfl (fun ls hl => ?_)
  refine lv_goto (tgt := 9) hx hb dX13_nearest_87 (by decide) ?_
  exact hk9 _ _ _ hf hc _ _ hW _ (lv_sub hl [2, 3, 1, 0] rfl)
noncomputable def f_X13_nearest_82 (fu : Nat) (k9 : Int32 → Int32 → GV → Option (Int32 × GV)) (v : GV) (x1 : Int32) (x2 : Int32) (x3 : Int32) : Option (Int32 × GV) :=
  f_X13_nearest_83 fu k9 v x1 x3 x2
set_option maxHeartbeats 4000000 in
set_option maxRecDepth 100000 in
theorem t_X13_nearest_82 {G : GG} {p : Program} {l : Launch} {e : Env} {s : State} {m : MethodId} {args : Array Value} {below : List Frame} {meth : Method} {c : Code} {S : ST} {fu : Nat} {z : Int32 × GV} {a : Nat} {v0 : GV} {k9 : Int32 → Int32 → GV → Option (Int32 × GV)} {v : GV} {x1 : Int32} {x2 : Int32} {x3 : Int32} (hM : MC G p s m args c cX13_nearest w_X13_nearest RX13) (hml : c.maxLocals = 5) (hr : meth.sig.returnType = (some .int)) (hlk : meth.locks = false) (hc0 : gC v0 = 12) (hk9 : ∀ (x2 : Int32) (x3 : Int32) (v : GV), k9 x2 x3 v = some z → gC v = 12 → ∀ (H : Heap) (locs : List Loc), WB G (st S a v) s H locs → ∀ (ls : Array Slot), lv_has ls 5 [(0, .ref a), (1, .int x1), (2, .int x2), (3, .int x3)] → W p l e RM_X13_nearest s m args below meth c H locs 0 0 (QR G below args s (some (.int z.1)) (st S a v0) (st S a z.2)) (F0 m 9 ls [])) (hf : f_X13_nearest_82 fu k9 v x1 x2 x3 = some z) : gC v = 12 → ∀ (H : Heap) (locs : List Loc), WB G (st S a v) s H locs → ∀ (ls : Array Slot), lv_has ls 5 [(0, .ref a), (1, .int x1), (2, .int x2), (3, .int x3)] → W p l e RM_X13_nearest s m args below meth c H locs 0 0 (QR G below args s (some (.int z.1)) (st S a v0) (st S a z.2)) (F0 m 82 ls []) := by
  intro hc H locs hW ls hl
  have hx := hM.1
  have hb := hM.2.1
  refine lv_iload_n hx hb dX13_nearest_82 rfl (lv_at hl 2 rfl) ?_
  exact t_X13_nearest_83 (fu := fu) hM hml hr hlk hc0 hk9 hf hc _ _ hW _ (lv_sub hl [0, 1, 3] rfl)
noncomputable def f_X13_nearest_78 (fu : Nat) (k9 : Int32 → Int32 → GV → Option (Int32 × GV)) (v : GV) (x1 : Int32) (x3 : Int32) : Option (Int32 × GV) :=
  f_X13_nearest_83 fu k9 v x1 x3 x3
set_option maxHeartbeats 4000000 in
set_option maxRecDepth 100000 in
theorem t_X13_nearest_78 {G : GG} {p : Program} {l : Launch} {e : Env} {s : State} {m : MethodId} {args : Array Value} {below : List Frame} {meth : Method} {c : Code} {S : ST} {fu : Nat} {z : Int32 × GV} {a : Nat} {v0 : GV} {k9 : Int32 → Int32 → GV → Option (Int32 × GV)} {v : GV} {x1 : Int32} {x3 : Int32} (hM : MC G p s m args c cX13_nearest w_X13_nearest RX13) (hml : c.maxLocals = 5) (hr : meth.sig.returnType = (some .int)) (hlk : meth.locks = false) (hc0 : gC v0 = 12) (hk9 : ∀ (x2 : Int32) (x3 : Int32) (v : GV), k9 x2 x3 v = some z → gC v = 12 → ∀ (H : Heap) (locs : List Loc), WB G (st S a v) s H locs → ∀ (ls : Array Slot), lv_has ls 5 [(0, .ref a), (1, .int x1), (2, .int x2), (3, .int x3)] → W p l e RM_X13_nearest s m args below meth c H locs 0 0 (QR G below args s (some (.int z.1)) (st S a v0) (st S a z.2)) (F0 m 9 ls [])) (hf : f_X13_nearest_78 fu k9 v x1 x3 = some z) : gC v = 12 → ∀ (H : Heap) (locs : List Loc), WB G (st S a v) s H locs → ∀ (ls : Array Slot), lv_has ls 5 [(0, .ref a), (1, .int x1), (3, .int x3)] → W p l e RM_X13_nearest s m args below meth c H locs 0 0 (QR G below args s (some (.int z.1)) (st S a v0) (st S a z.2)) (F0 m 78 ls []) := by
  intro hc H locs hW ls hl
  have hx := hM.1
  have hb := hM.2.1
  refine lv_iload_n hx hb dX13_nearest_78 rfl (lv_at hl 2 rfl) ?_
  refine lv_goto (tgt := 83) hx hb dX13_nearest_79 (by decide) ?_
  exact t_X13_nearest_83 (fu := fu) hM hml hr hlk hc0 hk9 hf hc _ _ hW _ (lv_sub hl [0, 1, 2] rfl)
noncomputable def f_X13_nearest_52 (fu : Nat) (k9 : Int32 → Int32 → GV → Option (Int32 × GV)) (v : GV) (x1 : Int32) (x2 : Int32) (x3 : Int32) (t0 : Int32) : Option (Int32 × GV) :=
  if t0 = 0 then
    (f_X13_nearest_82 fu k9 v x1 x2 x3)
  else
    (if x2 < 0 then
      (f_X13_nearest_78 fu k9 v x1 x3)
    else
      (bd (f_X13_distanceOf fu v x1 x3) fun r3 =>
      bd (f_X13_distanceOf fu v x1 x2) fun r4 =>
      if r4 ≤ r3 then
        (f_X13_nearest_82 fu k9 v x1 x2 x3)
      else
        (f_X13_nearest_78 fu k9 v x1 x3)))
set_option maxHeartbeats 4000000 in
set_option maxRecDepth 100000 in
theorem t_X13_nearest_52 {G : GG} {p : Program} {l : Launch} {e : Env} {s : State} {m : MethodId} {args : Array Value} {below : List Frame} {meth : Method} {c : Code} {S : ST} {fu : Nat} {z : Int32 × GV} {a : Nat} {v0 : GV} {k9 : Int32 → Int32 → GV → Option (Int32 × GV)} {v : GV} {x1 : Int32} {x2 : Int32} {x3 : Int32} {t0 : Int32} (hM : MC G p s m args c cX13_nearest w_X13_nearest RX13) (hml : c.maxLocals = 5) (hr : meth.sig.returnType = (some .int)) (hlk : meth.locks = false) (hc0 : gC v0 = 12) (hk9 : ∀ (x2 : Int32) (x3 : Int32) (v : GV), k9 x2 x3 v = some z → gC v = 12 → ∀ (H : Heap) (locs : List Loc), WB G (st S a v) s H locs → ∀ (ls : Array Slot), lv_has ls 5 [(0, .ref a), (1, .int x1), (2, .int x2), (3, .int x3)] → W p l e RM_X13_nearest s m args below meth c H locs 0 0 (QR G below args s (some (.int z.1)) (st S a v0) (st S a z.2)) (F0 m 9 ls [])) (hf : f_X13_nearest_52 fu k9 v x1 x2 x3 t0 = some z) : gC v = 12 → ∀ (H : Heap) (locs : List Loc), WB G (st S a v) s H locs → ∀ (ls : Array Slot), lv_has ls 5 [(0, .ref a), (1, .int x1), (2, .int x2), (3, .int x3)] → W p l e RM_X13_nearest s m args below meth c H locs 0 0 (QR G below args s (some (.int z.1)) (st S a v0) (st S a z.2)) (F0 m 52 ls [.int t0]) := by
  intro hc H locs hW ls hl
  have hx := hM.1
  have hb := hM.2.1
  refine lv_istore (lv' := [(4, .int t0), (0, .ref a), (1, .int x1), (2, .int x2), (3, .int x3)]) hx hb dX13_nearest_52 hl (by decide) rfl (fun ls hl => ?_)
  refine lv_iload hx hb dX13_nearest_54 (lv_at hl 0 rfl) ?_
  refine lv_if_eq (tgt := 82) hx hb dX13_nearest_56 (by decide) (fun c1 => ?_) (fun c1 => ?_)
  · have hf := if_t c1 hf
    exact t_X13_nearest_82 (fu := fu) hM hml hr hlk hc0 hk9 hf hc _ _ hW _ (lv_sub hl [1, 2, 3, 4] rfl)
  · have hf := if_f c1 hf
    refine lv_iload_n hx hb dX13_nearest_59 rfl (lv_at hl 3 rfl) ?_
    refine lv_if_lt (tgt := 78) hx hb dX13_nearest_60 (by decide) (fun c2 => ?_) (fun c2 => ?_)
    · have hf := if_t c2 hf
      exact t_X13_nearest_78 (fu := fu) hM hml hr hlk hc0 hk9 hf hc _ _ hW _ (lv_sub hl [1, 2, 4] rfl)
    · have hf := if_f c2 hf
      refine lv_aload_n hx hb dX13_nearest_63 rfl (lv_at hl 1 rfl) ?_
      refine lv_iload_n hx hb dX13_nearest_64 rfl (lv_at hl 2 rfl) ?_
      refine lv_iload_n hx hb dX13_nearest_65 rfl (lv_at hl 4 rfl) ?_
      obtain ⟨r3, hr3, hf⟩ := bd_elim hf
      refine b_callVi [.int x1, .int x3] [] hM hml hl.1 hW hc rfl (by decide) (c_X13_distanceOf l G fu _ a v _ _ hc hr3) (cwV 2 hM.2.2.2.1 (gV mk_RX13_352 im_X13_distanceOf se_X13_distanceOf it_RX13 cd_X13_distanceOf) rfl rfl rfl (by decide +kernel) ⟨Nat.le_of_ble_eq_true rfl, Nat.le_of_ble_eq_true rfl⟩) rfl rfl (Nat.le_of_ble_eq_true rfl) ⟨Nat.zero_le _, Nat.zero_le _⟩ dX13_nearest_66 (fun H locs hW hk => ?_)
      refine lv_aload_n hx hb dX13_nearest_69 rfl (lv_at hl 1 rfl) ?_
      refine lv_iload_n hx hb dX13_nearest_70 rfl (lv_at hl 2 rfl) ?_
      refine lv_iload_n hx hb dX13_nearest_71 rfl (lv_at hl 3 rfl) ?_
      obtain ⟨r4, hr4, hf⟩ := bd_elim hf
      refine b_callVi [.int x1, .int x2] [.int r3] hM hml hl.1 hW hc rfl (by decide) (c_X13_distanceOf l G fu _ a v _ _ hc hr4) (cwV 2 hM.2.2.2.1 (gV mk_RX13_352 im_X13_distanceOf se_X13_distanceOf it_RX13 cd_X13_distanceOf) rfl rfl rfl (by decide +kernel) ⟨Nat.le_of_ble_eq_true rfl, Nat.le_of_ble_eq_true rfl⟩) rfl rfl (Nat.le_of_ble_eq_true rfl) ⟨Nat.zero_le _, Nat.zero_le _⟩ dX13_nearest_72 (fun H locs hW hk => ?_)
      refine lv_icmp_ge (tgt := 82) hx hb dX13_nearest_75 (by decide) (fun c5 => ?_) (fun c5 => ?_)
      · have hf := if_t c5 hf
        exact t_X13_nearest_82 (fu := fu) hM hml hr hlk hc0 hk9 hf hc _ _ hW _ (lv_sub hl [1, 2, 3, 4] rfl)
      · have hf := if_f c5 hf
        exact t_X13_nearest_78 (fu := fu) hM hml hr hlk hc0 hk9 hf hc _ _ hW _ (lv_sub hl [1, 2, 4] rfl)
noncomputable def f_X13_nearest_51 (fu : Nat) (k9 : Int32 → Int32 → GV → Option (Int32 × GV)) (v : GV) (x1 : Int32) (x2 : Int32) (x3 : Int32) : Option (Int32 × GV) :=
  f_X13_nearest_52 fu k9 v x1 x2 x3 (0 : Int32)
set_option maxHeartbeats 4000000 in
set_option maxRecDepth 100000 in
theorem t_X13_nearest_51 {G : GG} {p : Program} {l : Launch} {e : Env} {s : State} {m : MethodId} {args : Array Value} {below : List Frame} {meth : Method} {c : Code} {S : ST} {fu : Nat} {z : Int32 × GV} {a : Nat} {v0 : GV} {k9 : Int32 → Int32 → GV → Option (Int32 × GV)} {v : GV} {x1 : Int32} {x2 : Int32} {x3 : Int32} (hM : MC G p s m args c cX13_nearest w_X13_nearest RX13) (hml : c.maxLocals = 5) (hr : meth.sig.returnType = (some .int)) (hlk : meth.locks = false) (hc0 : gC v0 = 12) (hk9 : ∀ (x2 : Int32) (x3 : Int32) (v : GV), k9 x2 x3 v = some z → gC v = 12 → ∀ (H : Heap) (locs : List Loc), WB G (st S a v) s H locs → ∀ (ls : Array Slot), lv_has ls 5 [(0, .ref a), (1, .int x1), (2, .int x2), (3, .int x3)] → W p l e RM_X13_nearest s m args below meth c H locs 0 0 (QR G below args s (some (.int z.1)) (st S a v0) (st S a z.2)) (F0 m 9 ls [])) (hf : f_X13_nearest_51 fu k9 v x1 x2 x3 = some z) : gC v = 12 → ∀ (H : Heap) (locs : List Loc), WB G (st S a v) s H locs → ∀ (ls : Array Slot), lv_has ls 5 [(0, .ref a), (1, .int x1), (2, .int x2), (3, .int x3)] → W p l e RM_X13_nearest s m args below meth c H locs 0 0 (QR G below args s (some (.int z.1)) (st S a v0) (st S a z.2)) (F0 m 51 ls []) := by
  intro hc H locs hW ls hl
  have hx := hM.1
  have hb := hM.2.1
  refine lv_iconst (v := (0 : Int32)) hx hb dX13_nearest_51 (by decide) ?_
  exact t_X13_nearest_52 (fu := fu) hM hml hr hlk hc0 hk9 hf hc _ _ hW _ (lv_sub hl [0, 1, 2, 3] rfl)
noncomputable def f_X13_nearest_9s (fu : Nat)  (k9 : Int32 → Int32 → GV → Option (Int32 × GV)) (x1 : Int32) (x2 : Int32) (x3 : Int32) (v : GV) : Option (Int32 × GV) :=
  if (gA v 24 (2 : Int32).toNatClampNeg) ≤ x3 then
    (f_X13_nearest_90 fu v x2)
  else
    (bd (f_X13_isPiece fu v (0 : Int32) x1) fun r2 =>
    if r2 = 0 then
      (f_X13_nearest_90 fu v x2)
    else
      (if x3 = x1 then
        (f_X13_nearest_51 fu k9 v x1 x2 x3)
      else
        (nm (((11 : Int32) + x3)) fun y5 =>
        ck (inb y5 1518) <|
        if (gA v 24 y5.toNatClampNeg) = (6 : Int32) then
          (f_X13_nearest_51 fu k9 v x1 x2 x3)
        else
          (f_X13_nearest_52 fu k9 v x1 x2 x3 (1 : Int32)))))
noncomputable def f_X13_nearest_9 (fu n : Nat)  (x1 : Int32) : Int32 → Int32 → GV → Option (Int32 × GV) :=
  lq_3 (fun k9 => f_X13_nearest_9s fu  k9 x1) n
set_option maxHeartbeats 4000000 in
set_option maxRecDepth 100000 in
theorem t_X13_nearest_9s {G : GG} {p : Program} {l : Launch} {e : Env} {s : State} {m : MethodId} {args : Array Value} {below : List Frame} {meth : Method} {c : Code} {S : ST} {fu : Nat} {z : Int32 × GV} {a : Nat} {v0 : GV}  (hM : MC G p s m args c cX13_nearest w_X13_nearest RX13) (hml : c.maxLocals = 5) (hr : meth.sig.returnType = (some .int)) (hlk : meth.locks = false) (hc0 : gC v0 = 12) {k9 : Int32 → Int32 → GV → Option (Int32 × GV)} {x1 : Int32}  (hk9 : ∀ (x2 : Int32) (x3 : Int32) (v : GV), k9 x2 x3 v = some z → gC v = 12 → ∀ (H : Heap) (locs : List Loc), WB G (st S a v) s H locs → ∀ (ls : Array Slot), lv_has ls 5 [(0, .ref a), (1, .int x1), (2, .int x2), (3, .int x3)] → W p l e RM_X13_nearest s m args below meth c H locs 0 0 (QR G below args s (some (.int z.1)) (st S a v0) (st S a z.2)) (F0 m 9 ls [])) : ∀ (x2 : Int32) (x3 : Int32) (v : GV), f_X13_nearest_9s fu  k9 x1 x2 x3 v = some z → gC v = 12 → ∀ (H : Heap) (locs : List Loc), WB G (st S a v) s H locs → ∀ (ls : Array Slot), lv_has ls 5 [(0, .ref a), (1, .int x1), (2, .int x2), (3, .int x3)] → W p l e RM_X13_nearest s m args below meth c H locs 0 0 (QR G below args s (some (.int z.1)) (st S a v0) (st S a z.2)) (F0 m 9 ls []) := by
  intro x2 x3 v hf hc H locs hW ls hl
  have hx := hM.1
  have hb := hM.2.1
  refine lv_iload_n hx hb dX13_nearest_9 rfl (lv_at hl 3 rfl) ?_
  refine lv_aload_n hx hb dX13_nearest_10 rfl (lv_at hl 0 rfl) ?_
  refine b_get hM hW 11 24 hc rfl rfl (by decide) wi_X13 (wgm fk_RX13_125) (x := .ref (a + 16)) rfl dX13_nearest_11 ?_
  refine lv_iconst (v := (2 : Int32)) hx hb dX13_nearest_14 (by decide) ?_
  refine b_iald (n := 1518) hM hW 11 24 hc (by decide) rfl rfl rfl rfl (by decide) dX13_nearest_15 ?_
  refine lv_icmp_ge (tgt := 90) hx hb dX13_nearest_16 (by decide) (fun c1 => ?_) (fun c1 => ?_)
  · have hf := if_t c1 hf
    exact t_X13_nearest_90 (fu := fu) hM hml hr hlk hc0 hf hc _ _ hW _ (lv_sub hl [2] rfl)
  · have hf := if_f c1 hf
    refine lv_aload_n hx hb dX13_nearest_19 rfl (lv_at hl 0 rfl) ?_
    refine lv_iconst (v := (0 : Int32)) hx hb dX13_nearest_20 (by decide) ?_
    refine lv_iload_n hx hb dX13_nearest_21 rfl (lv_at hl 1 rfl) ?_
    obtain ⟨r2, hr2, hf⟩ := bd_elim hf
    refine b_callVi [.int (0 : Int32), .int x1] [] hM hml hl.1 hW hc rfl (by decide) (c_X13_isPiece l G fu _ a v _ _ hc hr2) (cwV 2 hM.2.2.2.1 (gV mk_RX13_345 im_X13_isPiece se_X13_isPiece it_RX13 cd_X13_isPiece) rfl rfl rfl (by decide +kernel) ⟨Nat.le_of_ble_eq_true rfl, Nat.le_of_ble_eq_true rfl⟩) rfl rfl (Nat.le_of_ble_eq_true rfl) ⟨Nat.zero_le _, Nat.zero_le _⟩ dX13_nearest_22 (fun H locs hW hk => ?_)
    refine lv_if_eq (tgt := 90) hx hb dX13_nearest_25 (by decide) (fun c3 => ?_) (fun c3 => ?_)
    · have hf := if_t c3 hf
      exact t_X13_nearest_90 (fu := fu) hM hml hr hlk hc0 hf hc _ _ hW _ (lv_sub hl [2] rfl)
    · have hf := if_f c3 hf
      refine lv_iload_n hx hb dX13_nearest_28 rfl (lv_at hl 3 rfl) ?_
      refine lv_iload_n hx hb dX13_nearest_29 rfl (lv_at hl 1 rfl) ?_
      refine lv_icmp_eq (tgt := 51) hx hb dX13_nearest_30 (by decide) (fun c4 => ?_) (fun c4 => ?_)
      · have hf := if_t c4 hf
        exact t_X13_nearest_51 (fu := fu) hM hml hr hlk hc0 hk9 hf hc _ _ hW _ (lv_sub hl [0, 1, 2, 3] rfl)
      · have hf := if_f c4 hf
        refine lv_aload_n hx hb dX13_nearest_33 rfl (lv_at hl 0 rfl) ?_
        refine b_get hM hW 11 24 hc rfl rfl (by decide) wi_X13 (wgm fk_RX13_125) (x := .ref (a + 16)) rfl dX13_nearest_34 ?_
        refine lv_bipush (v := (11 : Int32)) hx hb dX13_nearest_37 (by decide) ?_
        refine lv_iload_n hx hb dX13_nearest_39 rfl (lv_at hl 3 rfl) ?_
        refine lv_iadd hx hb dX13_nearest_40 ?_
        refine lv_topi (fun y5 ey5 => ?_)
        have hf := nm_at ey5 hf
        obtain ⟨h6, hf⟩ := ck_elim hf
        refine b_iald (n := 1518) hM hW 11 24 hc (by decide) rfl rfl rfl rfl h6 dX13_nearest_41 ?_
        refine lv_bipush (v := (6 : Int32)) hx hb dX13_nearest_42 (by decide) ?_
        refine lv_icmp_eq (tgt := 51) hx hb dX13_nearest_44 (by decide) (fun c7 => ?_) (fun c7 => ?_)
        · have hf := if_t c7 hf
          exact t_X13_nearest_51 (fu := fu) hM hml hr hlk hc0 hk9 hf hc _ _ hW _ (lv_sub hl [0, 1, 2, 3] rfl)
        · have hf := if_f c7 hf
          refine lv_iconst (v := (1 : Int32)) hx hb dX13_nearest_47 (by decide) ?_
          refine lv_goto (tgt := 52) hx hb dX13_nearest_48 (by decide) ?_
          exact t_X13_nearest_52 (fu := fu) hM hml hr hlk hc0 hk9 hf hc _ _ hW _ (lv_sub hl [0, 1, 2, 3] rfl)
theorem t_X13_nearest_9 {G : GG} {p : Program} {l : Launch} {e : Env} {s : State} {m : MethodId} {args : Array Value} {below : List Frame} {meth : Method} {c : Code} {S : ST} {fu : Nat} {z : Int32 × GV} {a : Nat} {v0 : GV}  {x1 : Int32} (hM : MC G p s m args c cX13_nearest w_X13_nearest RX13) (hml : c.maxLocals = 5) (hr : meth.sig.returnType = (some .int)) (hlk : meth.locks = false) (hc0 : gC v0 = 12)  : ∀ {n : Nat} (x2 : Int32) (x3 : Int32) (v : GV), f_X13_nearest_9 fu n  x1 x2 x3 v = some z → gC v = 12 → ∀ (H : Heap) (locs : List Loc), WB G (st S a v) s H locs → ∀ (ls : Array Slot), lv_has ls 5 [(0, .ref a), (1, .int x1), (2, .int x2), (3, .int x3)] → W p l e RM_X13_nearest s m args below meth c H locs 0 0 (QR G below args s (some (.int z.1)) (st S a v0) (st S a z.2)) (F0 m 9 ls []) := by
  intro n
  induction n with
  | zero => intro x2 x3 v hf; cases hf
  | succ n ih => intro x2 x3 v hf; exact t_X13_nearest_9s (fu := fu) hM hml hr hlk hc0  (k9 := f_X13_nearest_9 fu n  x1) ih _ _ _ hf
noncomputable def f_X13_nearest_0 (fu : Nat)  (v : GV) (x1 : Int32) : Option (Int32 × GV) :=
  nm (sI v 0 (0 : Int32)) fun v1 =>
  f_X13_nearest_9 fu fu x1 (-1 : Int32) (0 : Int32) v1
set_option maxHeartbeats 4000000 in
set_option maxRecDepth 100000 in
theorem t_X13_nearest_0 {G : GG} {p : Program} {l : Launch} {e : Env} {s : State} {m : MethodId} {args : Array Value} {below : List Frame} {meth : Method} {c : Code} {S : ST} {fu : Nat} {z : Int32 × GV} {a : Nat} {v0 : GV}  {v : GV} {x1 : Int32} (hM : MC G p s m args c cX13_nearest w_X13_nearest RX13) (hml : c.maxLocals = 5) (hr : meth.sig.returnType = (some .int)) (hlk : meth.locks = false) (hc0 : gC v0 = 12)  (hf : f_X13_nearest_0 fu  v x1 = some z) : gC v = 12 → ∀ (H : Heap) (locs : List Loc), WB G (st S a v) s H locs → ∀ (ls : Array Slot), lv_has ls 5 [(0, .ref a), (1, .int x1)] → W p l e RM_X13_nearest s m args below meth c H locs 0 0 (QR G below args s (some (.int z.1)) (st S a v0) (st S a z.2)) (F0 m 0 ls []) := by
  intro hc H locs hW ls hl
  have hx := hM.1
  have hb := hM.2.1
  refine lv_aload_n hx hb dX13_nearest_0 rfl (lv_at hl 0 rfl) ?_
  refine lv_iconst (v := (0 : Int32)) hx hb dX13_nearest_1 (by decide) ?_
  refine b_putI hM hW 11 0 hc rfl rfl (by decide) wi_X13 tyX13 tyX13_ok nmX13 (wgm fk_RX13_1) rfl rfl rfl dX13_nearest_2 (fun v1 ev1 hc H locs hW => ?_)
  have hf := nm_at ev1 hf
  refine lv_iconst (v := (-1 : Int32)) hx hb dX13_nearest_5 (by decide) ?_
  refine lv_istore_n (lv' := [(2, .int (-1 : Int32)), (0, .ref a), (1, .int x1)]) hx hb dX13_nearest_6 rfl hl (by decide) rfl (fun ls hl => ?_)
  refine lv_iconst (v := (0 : Int32)) hx hb dX13_nearest_7 (by decide) ?_
  refine lv_istore_n (lv' := [(3, .int (0 : Int32)), (2, .int (-1 : Int32)), (0, .ref a), (1, .int x1)]) hx hb dX13_nearest_8 rfl hl (by decide) rfl (fun ls hl => ?_)
  exact t_X13_nearest_9 (fu := fu) hM hml hr hlk hc0 _ _ _ hf hc _ _ hW _ (lv_sub hl [2, 3, 1, 0] rfl)
noncomputable def f_X13_nearest (fu : Nat) (v : GV) (x1 : Int32) : Option (Int32 × GV) := f_X13_nearest_0 fu v x1
set_option maxHeartbeats 4000000 in
set_option maxRecDepth 100000 in
theorem c_X13_nearest (l : Launch) (G : GG) (fu : Nat) (S : ST) (a : Nat) (v : GV) (x1 : Int32) {z : Int32} {w : GV} (hc : gC v = 12) (hf : f_X13_nearest fu v x1 = some (z, w)) : Ct l yX13_nearest w_X13_nearest RM_X13_nearest G (st S a v) [.ref a, .int x1] (some (.int z)) (st S a w) 0 0 := by
  refine Met.ofW (cc := cX13_nearest) (maxL := 5) (ret := (some .int)) (by decide) rfl ?_
  intro p e s m args below meth c s₁ B hml hv
  obtain ⟨rfl, hB, hK, hz⟩ := hv
  have hM : MC G p s m _ c cX13_nearest w_X13_nearest RX13 := ⟨B.exec, B.bytes, findClass_of_methodNamed B.named, atoms_spec (ws := w_X13_nearest) B.pre, hK, hz⟩
  have hW : WB G (st S a v) s s.heap [] := ⟨hB, va_S.rf⟩
  have hl := lv_entry ([.ref a, .int x1]) (n := 5) (Nat.le_of_ble_eq_true rfl)
  rw [lg_entry_eq]
  generalize (lg_sl ([.ref a, .int x1]) ++ List.replicate (5 - (lg_sl ([.ref a, .int x1])).length) Slot.unset).toArray = ls at hl ⊢
  have hl : lv_has ls 5 [(0, .ref a), (1, .int x1)] := hl
  exact t_X13_nearest_0 hM hml B.returns B.notSynchronized hc hf hc _ _ hW _ (lv_sub hl [0, 1] rfl)
abbrev w_X13_meet : List Cond := Cond.code yX13_meet cX13_meet 5 (some .int) :: wsL_law0
abbrev RM_X13_meet : Room := { frames := 2, cells := 0, slots := 0, locals := 41 }
noncomputable def f_X13_meet_77 (fu : Nat) (k19 : Int32 → Int32 → GV → Option (Int32 × GV)) (v : GV) (x1 : Int32) (x3 : Int32) (t0 : Int32) (t1 : Int32) : Option (Int32 × GV) :=
  nm ((t0 ||| t1)) fun y1 =>
  nm (x3 + (1 : Int32)) fun y2 =>
  k19 y1 y2 v
set_option maxHeartbeats 4000000 in
set_option maxRecDepth 100000 in
theorem t_X13_meet_77 {G : GG} {p : Program} {l : Launch} {e : Env} {s : State} {m : MethodId} {args : Array Value} {below : List Frame} {meth : Method} {c : Code} {S : ST} {fu : Nat} {z : Int32 × GV} {a : Nat} {v0 : GV} {k19 : Int32 → Int32 → GV → Option (Int32 × GV)} {v : GV} {x1 : Int32} {x3 : Int32} {t0 : Int32} {t1 : Int32} (hM : MC G p s m args c cX13_meet w_X13_meet RX13) (hml : c.maxLocals = 5) (hr : meth.sig.returnType = (some .int)) (hlk : meth.locks = false) (hc0 : gC v0 = 12) (hk19 : ∀ (x2 : Int32) (x3 : Int32) (v : GV), k19 x2 x3 v = some z → gC v = 12 → ∀ (H : Heap) (locs : List Loc), WB G (st S a v) s H locs → ∀ (ls : Array Slot), lv_has ls 5 [(0, .ref a), (1, .int x1), (2, .int x2), (3, .int x3)] → W p l e RM_X13_meet s m args below meth c H locs 0 0 (QR G below args s (some (.int z.1)) (st S a v0) (st S a z.2)) (F0 m 19 ls [])) (hf : f_X13_meet_77 fu k19 v x1 x3 t0 t1 = some z) : gC v = 12 → ∀ (H : Heap) (locs : List Loc), WB G (st S a v) s H locs → ∀ (ls : Array Slot), lv_has ls 5 [(0, .ref a), (1, .int x1), (3, .int x3)] → W p l e RM_X13_meet s m args below meth c H locs 0 0 (QR G below args s (some (.int z.1)) (st S a v0) (st S a z.2)) (F0 m 77 ls [.int t1, .int t0]) := by
  intro hc H locs hW ls hl
  have hx := hM.1
  have hb := hM.2.1
  refine lv_ior hx hb dX13_meet_77 ?_
  refine lv_topi (fun y1 ey1 => ?_)
  have hf := nm_at ey1 hf
  refine lv_istore_n (lv' := [(2, .int y1), (0, .ref a), (1, .int x1), (3, .int x3)]) hx hb dX13_meet_78 rfl hl (by decide) rfl (fun ls hl => ?_)
  obtain ⟨y2, ey2⟩ : ∃ y : Int32, y = x3 + (1 : Int32) := ⟨_, rfl⟩
  have hf := nm_at ey2 hf
  refine lv_iinc (v := y2) (lv' := [(3, .int y2), (2, .int y1), (0, .ref a), (1, .int x1)]) hx hb dX13_meet_79 hl (k := 3) rfl (by rw [ey2]; rfl) (by decide) rfl (fun ls hl => ?_)
  refine lv_goto (tgt := 19) hx hb dX13_meet_82 (by decide) ?_
  exact hk19 _ _ _ hf hc _ _ hW _ (lv_sub hl [2, 3, 1, 0] rfl)
noncomputable def f_X13_meet_62 (fu : Nat) (k19 : Int32 → Int32 → GV → Option (Int32 × GV)) (v : GV) (x1 : Int32) (x2 : Int32) (x3 : Int32) (t0 : Int32) : Option (Int32 × GV) :=
  if t0 = 0 then
    (f_X13_meet_77 fu k19 v x1 x3 x2 (0 : Int32))
  else
    (f_X13_meet_77 fu k19 v x1 x3 x2 ((1 : Int32) <<< (x3 &&& 31)))
set_option maxHeartbeats 4000000 in
set_option maxRecDepth 100000 in
theorem t_X13_meet_62 {G : GG} {p : Program} {l : Launch} {e : Env} {s : State} {m : MethodId} {args : Array Value} {below : List Frame} {meth : Method} {c : Code} {S : ST} {fu : Nat} {z : Int32 × GV} {a : Nat} {v0 : GV} {k19 : Int32 → Int32 → GV → Option (Int32 × GV)} {v : GV} {x1 : Int32} {x2 : Int32} {x3 : Int32} {t0 : Int32} (hM : MC G p s m args c cX13_meet w_X13_meet RX13) (hml : c.maxLocals = 5) (hr : meth.sig.returnType = (some .int)) (hlk : meth.locks = false) (hc0 : gC v0 = 12) (hk19 : ∀ (x2 : Int32) (x3 : Int32) (v : GV), k19 x2 x3 v = some z → gC v = 12 → ∀ (H : Heap) (locs : List Loc), WB G (st S a v) s H locs → ∀ (ls : Array Slot), lv_has ls 5 [(0, .ref a), (1, .int x1), (2, .int x2), (3, .int x3)] → W p l e RM_X13_meet s m args below meth c H locs 0 0 (QR G below args s (some (.int z.1)) (st S a v0) (st S a z.2)) (F0 m 19 ls [])) (hf : f_X13_meet_62 fu k19 v x1 x2 x3 t0 = some z) : gC v = 12 → ∀ (H : Heap) (locs : List Loc), WB G (st S a v) s H locs → ∀ (ls : Array Slot), lv_has ls 5 [(0, .ref a), (1, .int x1), (2, .int x2), (3, .int x3)] → W p l e RM_X13_meet s m args below meth c H locs 0 0 (QR G below args s (some (.int z.1)) (st S a v0) (st S a z.2)) (F0 m 62 ls [.int t0]) := by
  intro hc H locs hW ls hl
  have hx := hM.1
  have hb := hM.2.1
  refine lv_istore (lv' := [(4, .int t0), (0, .ref a), (1, .int x1), (2, .int x2), (3, .int x3)]) hx hb dX13_meet_62 hl (by decide) rfl (fun ls hl => ?_)
  refine lv_iload_n hx hb dX13_meet_64 rfl (lv_at hl 3 rfl) ?_
  refine lv_iload hx hb dX13_meet_65 (lv_at hl 0 rfl) ?_
  refine lv_if_eq (tgt := 76) hx hb dX13_meet_67 (by decide) (fun c1 => ?_) (fun c1 => ?_)
  · have hf := if_t c1 hf
    refine lv_iconst (v := (0 : Int32)) hx hb dX13_meet_76 (by decide) ?_
    exact t_X13_meet_77 (fu := fu) hM hml hr hlk hc0 hk19 hf hc _ _ hW _ (lv_sub hl [1, 2, 4] rfl)
  · have hf := if_f c1 hf
    refine lv_iconst (v := (1 : Int32)) hx hb dX13_meet_70 (by decide) ?_
    refine lv_iload_n hx hb dX13_meet_71 rfl (lv_at hl 4 rfl) ?_
    refine lv_ishl hx hb dX13_meet_72 ?_
    refine lv_goto (tgt := 77) hx hb dX13_meet_73 (by decide) ?_
    exact t_X13_meet_77 (fu := fu) hM hml hr hlk hc0 hk19 hf hc _ _ hW _ (lv_sub hl [1, 2, 4] rfl)
noncomputable def f_X13_meet_61 (fu : Nat) (k19 : Int32 → Int32 → GV → Option (Int32 × GV)) (v : GV) (x1 : Int32) (x2 : Int32) (x3 : Int32) : Option (Int32 × GV) :=
  f_X13_meet_62 fu k19 v x1 x2 x3 (0 : Int32)
set_option maxHeartbeats 4000000 in
set_option maxRecDepth 100000 in
theorem t_X13_meet_61 {G : GG} {p : Program} {l : Launch} {e : Env} {s : State} {m : MethodId} {args : Array Value} {below : List Frame} {meth : Method} {c : Code} {S : ST} {fu : Nat} {z : Int32 × GV} {a : Nat} {v0 : GV} {k19 : Int32 → Int32 → GV → Option (Int32 × GV)} {v : GV} {x1 : Int32} {x2 : Int32} {x3 : Int32} (hM : MC G p s m args c cX13_meet w_X13_meet RX13) (hml : c.maxLocals = 5) (hr : meth.sig.returnType = (some .int)) (hlk : meth.locks = false) (hc0 : gC v0 = 12) (hk19 : ∀ (x2 : Int32) (x3 : Int32) (v : GV), k19 x2 x3 v = some z → gC v = 12 → ∀ (H : Heap) (locs : List Loc), WB G (st S a v) s H locs → ∀ (ls : Array Slot), lv_has ls 5 [(0, .ref a), (1, .int x1), (2, .int x2), (3, .int x3)] → W p l e RM_X13_meet s m args below meth c H locs 0 0 (QR G below args s (some (.int z.1)) (st S a v0) (st S a z.2)) (F0 m 19 ls [])) (hf : f_X13_meet_61 fu k19 v x1 x2 x3 = some z) : gC v = 12 → ∀ (H : Heap) (locs : List Loc), WB G (st S a v) s H locs → ∀ (ls : Array Slot), lv_has ls 5 [(0, .ref a), (1, .int x1), (2, .int x2), (3, .int x3)] → W p l e RM_X13_meet s m args below meth c H locs 0 0 (QR G below args s (some (.int z.1)) (st S a v0) (st S a z.2)) (F0 m 61 ls []) := by
  intro hc H locs hW ls hl
  have hx := hM.1
  have hb := hM.2.1
  refine lv_iconst (v := (0 : Int32)) hx hb dX13_meet_61 (by decide) ?_
  exact t_X13_meet_62 (fu := fu) hM hml hr hlk hc0 hk19 hf hc _ _ hW _ (lv_sub hl [0, 1, 2, 3] rfl)
noncomputable def f_X13_meet_19s (fu : Nat)  (k19 : Int32 → Int32 → GV → Option (Int32 × GV)) (x1 : Int32) (x2 : Int32) (x3 : Int32) (v : GV) : Option (Int32 × GV) :=
  bd (f_X13_thieves fu v) fun r1 =>
  if r1 ≤ x3 then
    (some (x2, v))
  else
    (if x3 = x1 then
      (f_X13_meet_61 fu k19 v x1 x2 x3)
    else
      (bd (f_X13_thiefOf fu v x1 (3 : Int32)) fun r4 =>
      bd (f_X13_thiefOf fu v x3 (3 : Int32)) fun r5 =>
      if ((r4 &&& r5) &&& ((gA v 24 (1 : Int32).toNatClampNeg) ^^^ (-1 : Int32))) = 0 then
        (f_X13_meet_61 fu k19 v x1 x2 x3)
      else
        (f_X13_meet_62 fu k19 v x1 x2 x3 (1 : Int32))))
noncomputable def f_X13_meet_19 (fu n : Nat)  (x1 : Int32) : Int32 → Int32 → GV → Option (Int32 × GV) :=
  lq_3 (fun k19 => f_X13_meet_19s fu  k19 x1) n
set_option maxHeartbeats 4000000 in
set_option maxRecDepth 100000 in
theorem t_X13_meet_19s {G : GG} {p : Program} {l : Launch} {e : Env} {s : State} {m : MethodId} {args : Array Value} {below : List Frame} {meth : Method} {c : Code} {S : ST} {fu : Nat} {z : Int32 × GV} {a : Nat} {v0 : GV}  (hM : MC G p s m args c cX13_meet w_X13_meet RX13) (hml : c.maxLocals = 5) (hr : meth.sig.returnType = (some .int)) (hlk : meth.locks = false) (hc0 : gC v0 = 12) {k19 : Int32 → Int32 → GV → Option (Int32 × GV)} {x1 : Int32}  (hk19 : ∀ (x2 : Int32) (x3 : Int32) (v : GV), k19 x2 x3 v = some z → gC v = 12 → ∀ (H : Heap) (locs : List Loc), WB G (st S a v) s H locs → ∀ (ls : Array Slot), lv_has ls 5 [(0, .ref a), (1, .int x1), (2, .int x2), (3, .int x3)] → W p l e RM_X13_meet s m args below meth c H locs 0 0 (QR G below args s (some (.int z.1)) (st S a v0) (st S a z.2)) (F0 m 19 ls [])) : ∀ (x2 : Int32) (x3 : Int32) (v : GV), f_X13_meet_19s fu  k19 x1 x2 x3 v = some z → gC v = 12 → ∀ (H : Heap) (locs : List Loc), WB G (st S a v) s H locs → ∀ (ls : Array Slot), lv_has ls 5 [(0, .ref a), (1, .int x1), (2, .int x2), (3, .int x3)] → W p l e RM_X13_meet s m args below meth c H locs 0 0 (QR G below args s (some (.int z.1)) (st S a v0) (st S a z.2)) (F0 m 19 ls []) := by
  intro x2 x3 v hf hc H locs hW ls hl
  have hx := hM.1
  have hb := hM.2.1
  refine lv_iload_n hx hb dX13_meet_19 rfl (lv_at hl 3 rfl) ?_
  refine lv_aload_n hx hb dX13_meet_20 rfl (lv_at hl 0 rfl) ?_
  obtain ⟨r1, hr1, hf⟩ := bd_elim hf
  refine b_callVi [] [.int x3] hM hml hl.1 hW hc rfl (by decide) (c_X13_thieves l G fu _ a v hc hr1) (cwV 0 hM.2.2.2.1 (gV mk_RX13_320 im_X13_thieves se_X13_thieves it_RX13 cd_X13_thieves) rfl rfl rfl (by decide +kernel) ⟨Nat.le_of_ble_eq_true rfl, Nat.le_of_ble_eq_true rfl⟩) rfl rfl (Nat.le_of_ble_eq_true rfl) ⟨Nat.zero_le _, Nat.zero_le _⟩ dX13_meet_21 (fun H locs hW hk => ?_)
  refine lv_icmp_ge (tgt := 85) hx hb dX13_meet_24 (by decide) (fun c2 => ?_) (fun c2 => ?_)
  · have hf := if_t c2 hf
    refine lv_iload_n hx hb dX13_meet_85 rfl (lv_at hl 2 rfl) ?_
    cases hf
    exact W.iret hx hb hr (b_ret0 hW (keep_s2 hc0 hc) _) hW.2.2.2 dX13_meet_86 hlk
  · have hf := if_f c2 hf
    refine lv_iload_n hx hb dX13_meet_27 rfl (lv_at hl 3 rfl) ?_
    refine lv_iload_n hx hb dX13_meet_28 rfl (lv_at hl 1 rfl) ?_
    refine lv_icmp_eq (tgt := 61) hx hb dX13_meet_29 (by decide) (fun c3 => ?_) (fun c3 => ?_)
    · have hf := if_t c3 hf
      exact t_X13_meet_61 (fu := fu) hM hml hr hlk hc0 hk19 hf hc _ _ hW _ (lv_sub hl [0, 1, 2, 3] rfl)
    · have hf := if_f c3 hf
      refine lv_aload_n hx hb dX13_meet_32 rfl (lv_at hl 0 rfl) ?_
      refine lv_iload_n hx hb dX13_meet_33 rfl (lv_at hl 1 rfl) ?_
      refine lv_iconst (v := (3 : Int32)) hx hb dX13_meet_34 (by decide) ?_
      obtain ⟨r4, hr4, hf⟩ := bd_elim hf
      refine b_callVi [.int x1, .int (3 : Int32)] [] hM hml hl.1 hW hc rfl (by decide) (c_X13_thiefOf l G fu _ a v _ _ hc hr4) (cwV 2 hM.2.2.2.1 (gV mk_RX13_323 im_X13_thiefOf se_X13_thiefOf it_RX13 cd_X13_thiefOf) rfl rfl rfl (by decide +kernel) ⟨Nat.le_of_ble_eq_true rfl, Nat.le_of_ble_eq_true rfl⟩) rfl rfl (Nat.le_of_ble_eq_true rfl) ⟨Nat.zero_le _, Nat.zero_le _⟩ dX13_meet_35 (fun H locs hW hk => ?_)
      refine lv_aload_n hx hb dX13_meet_38 rfl (lv_at hl 0 rfl) ?_
      refine lv_iload_n hx hb dX13_meet_39 rfl (lv_at hl 3 rfl) ?_
      refine lv_iconst (v := (3 : Int32)) hx hb dX13_meet_40 (by decide) ?_
      obtain ⟨r5, hr5, hf⟩ := bd_elim hf
      refine b_callVi [.int x3, .int (3 : Int32)] [.int r4] hM hml hl.1 hW hc rfl (by decide) (c_X13_thiefOf l G fu _ a v _ _ hc hr5) (cwV 2 hM.2.2.2.1 (gV mk_RX13_323 im_X13_thiefOf se_X13_thiefOf it_RX13 cd_X13_thiefOf) rfl rfl rfl (by decide +kernel) ⟨Nat.le_of_ble_eq_true rfl, Nat.le_of_ble_eq_true rfl⟩) rfl rfl (Nat.le_of_ble_eq_true rfl) ⟨Nat.zero_le _, Nat.zero_le _⟩ dX13_meet_41 (fun H locs hW hk => ?_)
      refine lv_iand hx hb dX13_meet_44 ?_
      refine lv_aload_n hx hb dX13_meet_45 rfl (lv_at hl 0 rfl) ?_
      refine b_get hM hW 11 24 hc rfl rfl (by decide) wi_X13 (wgm fk_RX13_125) (x := .ref (a + 16)) rfl dX13_meet_46 ?_
      refine lv_iconst (v := (1 : Int32)) hx hb dX13_meet_49 (by decide) ?_
      refine b_iald (n := 1518) hM hW 11 24 hc (by decide) rfl rfl rfl rfl (by decide) dX13_meet_50 ?_
      refine lv_iconst (v := (-1 : Int32)) hx hb dX13_meet_51 (by decide) ?_
      refine lv_ixor hx hb dX13_meet_52 ?_
      refine lv_iand hx hb dX13_meet_53 ?_
      refine lv_if_eq (tgt := 61) hx hb dX13_meet_54 (by decide) (fun c6 => ?_) (fun c6 => ?_)
      · have hf := if_t c6 hf
        exact t_X13_meet_61 (fu := fu) hM hml hr hlk hc0 hk19 hf hc _ _ hW _ (lv_sub hl [0, 1, 2, 3] rfl)
      · have hf := if_f c6 hf
        refine lv_iconst (v := (1 : Int32)) hx hb dX13_meet_57 (by decide) ?_
        refine lv_goto (tgt := 62) hx hb dX13_meet_58 (by decide) ?_
        exact t_X13_meet_62 (fu := fu) hM hml hr hlk hc0 hk19 hf hc _ _ hW _ (lv_sub hl [0, 1, 2, 3] rfl)
theorem t_X13_meet_19 {G : GG} {p : Program} {l : Launch} {e : Env} {s : State} {m : MethodId} {args : Array Value} {below : List Frame} {meth : Method} {c : Code} {S : ST} {fu : Nat} {z : Int32 × GV} {a : Nat} {v0 : GV}  {x1 : Int32} (hM : MC G p s m args c cX13_meet w_X13_meet RX13) (hml : c.maxLocals = 5) (hr : meth.sig.returnType = (some .int)) (hlk : meth.locks = false) (hc0 : gC v0 = 12)  : ∀ {n : Nat} (x2 : Int32) (x3 : Int32) (v : GV), f_X13_meet_19 fu n  x1 x2 x3 v = some z → gC v = 12 → ∀ (H : Heap) (locs : List Loc), WB G (st S a v) s H locs → ∀ (ls : Array Slot), lv_has ls 5 [(0, .ref a), (1, .int x1), (2, .int x2), (3, .int x3)] → W p l e RM_X13_meet s m args below meth c H locs 0 0 (QR G below args s (some (.int z.1)) (st S a v0) (st S a z.2)) (F0 m 19 ls []) := by
  intro n
  induction n with
  | zero => intro x2 x3 v hf; cases hf
  | succ n ih => intro x2 x3 v hf; exact t_X13_meet_19s (fu := fu) hM hml hr hlk hc0  (k19 := f_X13_meet_19 fu n  x1) ih _ _ _ hf
noncomputable def f_X13_meet_0 (fu : Nat)  (v : GV) (x1 : Int32) : Option (Int32 × GV) :=
  nm (sI v 0 (0 : Int32)) fun v1 =>
  bd (f_X13_isThief fu v1 x1) fun r2 =>
  if r2 = 0 then
    (some ((-1 : Int32), v1))
  else
    (f_X13_meet_19 fu fu x1 (0 : Int32) (0 : Int32) v1)
set_option maxHeartbeats 4000000 in
set_option maxRecDepth 100000 in
theorem t_X13_meet_0 {G : GG} {p : Program} {l : Launch} {e : Env} {s : State} {m : MethodId} {args : Array Value} {below : List Frame} {meth : Method} {c : Code} {S : ST} {fu : Nat} {z : Int32 × GV} {a : Nat} {v0 : GV}  {v : GV} {x1 : Int32} (hM : MC G p s m args c cX13_meet w_X13_meet RX13) (hml : c.maxLocals = 5) (hr : meth.sig.returnType = (some .int)) (hlk : meth.locks = false) (hc0 : gC v0 = 12)  (hf : f_X13_meet_0 fu  v x1 = some z) : gC v = 12 → ∀ (H : Heap) (locs : List Loc), WB G (st S a v) s H locs → ∀ (ls : Array Slot), lv_has ls 5 [(0, .ref a), (1, .int x1)] → W p l e RM_X13_meet s m args below meth c H locs 0 0 (QR G below args s (some (.int z.1)) (st S a v0) (st S a z.2)) (F0 m 0 ls []) := by
  intro hc H locs hW ls hl
  have hx := hM.1
  have hb := hM.2.1
  refine lv_aload_n hx hb dX13_meet_0 rfl (lv_at hl 0 rfl) ?_
  refine lv_iconst (v := (0 : Int32)) hx hb dX13_meet_1 (by decide) ?_
  refine b_putI hM hW 11 0 hc rfl rfl (by decide) wi_X13 tyX13 tyX13_ok nmX13 (wgm fk_RX13_1) rfl rfl rfl dX13_meet_2 (fun v1 ev1 hc H locs hW => ?_)
  have hf := nm_at ev1 hf
  refine lv_aload_n hx hb dX13_meet_5 rfl (lv_at hl 0 rfl) ?_
  refine lv_iload_n hx hb dX13_meet_6 rfl (lv_at hl 1 rfl) ?_
  obtain ⟨r2, hr2, hf⟩ := bd_elim hf
  refine b_callVi [.int x1] [] hM hml hl.1 hW hc rfl (by decide) (c_X13_isThief l G fu _ a v1 _ hc hr2) (cwV 1 hM.2.2.2.1 (gV mk_RX13_355 im_X13_isThief se_X13_isThief it_RX13 cd_X13_isThief) rfl rfl rfl (by decide +kernel) ⟨Nat.le_of_ble_eq_true rfl, Nat.le_of_ble_eq_true rfl⟩) rfl rfl (Nat.le_of_ble_eq_true rfl) ⟨Nat.zero_le _, Nat.zero_le _⟩ dX13_meet_7 (fun H locs hW hk => ?_)
  refine lv_if_ne (tgt := 15) hx hb dX13_meet_10 (by decide) (fun c3 => ?_) (fun c3 => ?_)
  · have hf := if_f c3 hf
    refine lv_iconst (v := (0 : Int32)) hx hb dX13_meet_15 (by decide) ?_
    refine lv_istore_n (lv' := [(2, .int (0 : Int32)), (0, .ref a), (1, .int x1)]) hx hb dX13_meet_16 rfl hl (by decide) rfl (fun ls hl => ?_)
    refine lv_iconst (v := (0 : Int32)) hx hb dX13_meet_17 (by decide) ?_
    refine lv_istore_n (lv' := [(3, .int (0 : Int32)), (2, .int (0 : Int32)), (0, .ref a), (1, .int x1)]) hx hb dX13_meet_18 rfl hl (by decide) rfl (fun ls hl => ?_)
    exact t_X13_meet_19 (fu := fu) hM hml hr hlk hc0 _ _ _ hf hc _ _ hW _ (lv_sub hl [2, 3, 1, 0] rfl)
  · have hf := if_t c3 hf
    refine lv_iconst (v := (-1 : Int32)) hx hb dX13_meet_13 (by decide) ?_
    cases hf
    exact W.iret hx hb hr (b_ret0 hW (keep_s2 hc0 hc) _) hW.2.2.2 dX13_meet_14 hlk
noncomputable def f_X13_meet (fu : Nat) (v : GV) (x1 : Int32) : Option (Int32 × GV) := f_X13_meet_0 fu v x1
set_option maxHeartbeats 4000000 in
set_option maxRecDepth 100000 in
theorem c_X13_meet (l : Launch) (G : GG) (fu : Nat) (S : ST) (a : Nat) (v : GV) (x1 : Int32) {z : Int32} {w : GV} (hc : gC v = 12) (hf : f_X13_meet fu v x1 = some (z, w)) : Ct l yX13_meet w_X13_meet RM_X13_meet G (st S a v) [.ref a, .int x1] (some (.int z)) (st S a w) 0 0 := by
  refine Met.ofW (cc := cX13_meet) (maxL := 5) (ret := (some .int)) (by decide) rfl ?_
  intro p e s m args below meth c s₁ B hml hv
  obtain ⟨rfl, hB, hK, hz⟩ := hv
  have hM : MC G p s m _ c cX13_meet w_X13_meet RX13 := ⟨B.exec, B.bytes, findClass_of_methodNamed B.named, atoms_spec (ws := w_X13_meet) B.pre, hK, hz⟩
  have hW : WB G (st S a v) s s.heap [] := ⟨hB, va_S.rf⟩
  have hl := lv_entry ([.ref a, .int x1]) (n := 5) (Nat.le_of_ble_eq_true rfl)
  rw [lg_entry_eq]
  generalize (lg_sl ([.ref a, .int x1]) ++ List.replicate (5 - (lg_sl ([.ref a, .int x1])).length) Slot.unset).toArray = ls at hl ⊢
  have hl : lv_has ls 5 [(0, .ref a), (1, .int x1)] := hl
  exact t_X13_meet_0 hM hml B.returns B.notSynchronized hc hf hc _ _ hW _ (lv_sub hl [0, 1] rfl)
abbrev w_X13_joined : List Cond := Cond.code yX13_joined cX13_joined 8 (some .int) :: wsL_law0
abbrev RM_X13_joined : Room := { frames := 1, cells := 0, slots := 0, locals := 22 }
noncomputable def f_X13_joined_140 (fu : Nat) (k34 : Int32 → Int32 → Int32 → GV → Option (Int32 × GV)) (k51 : Int32 → Int32 → Int32 → GV → Option (Int32 × GV)) (v : GV) (x1 : Int32) (x2 : Int32) (x3 : Int32) (x4 : Int32) (x5 : Int32) (x6 : Int32) : Option (Int32 × GV) :=
  nm (x6 + (1 : Int32)) fun y1 =>
  k51 x3 x4 y1 v
set_option maxHeartbeats 4000000 in
set_option maxRecDepth 100000 in
theorem t_X13_joined_140 {G : GG} {p : Program} {l : Launch} {e : Env} {s : State} {m : MethodId} {args : Array Value} {below : List Frame} {meth : Method} {c : Code} {S : ST} {fu : Nat} {z : Int32 × GV} {a : Nat} {v0 : GV} {k34 : Int32 → Int32 → Int32 → GV → Option (Int32 × GV)} {k51 : Int32 → Int32 → Int32 → GV → Option (Int32 × GV)} {v : GV} {x1 : Int32} {x2 : Int32} {x3 : Int32} {x4 : Int32} {x5 : Int32} {x6 : Int32} (hM : MC G p s m args c cX13_joined w_X13_joined RX13) (hml : c.maxLocals = 8) (hr : meth.sig.returnType = (some .int)) (hlk : meth.locks = false) (hc0 : gC v0 = 12) (hk34 : ∀ (x3 : Int32) (x4 : Int32) (x5 : Int32) (v : GV), k34 x3 x4 x5 v = some z → gC v = 12 → ∀ (H : Heap) (locs : List Loc), WB G (st S a v) s H locs → ∀ (ls : Array Slot), lv_has ls 8 [(0, .ref a), (1, .int x1), (2, .int x2), (3, .int x3), (4, .int x4), (5, .int x5)] → W p l e RM_X13_joined s m args below meth c H locs 0 0 (QR G below args s (some (.int z.1)) (st S a v0) (st S a z.2)) (F0 m 34 ls [])) (hk51 : ∀ (x3 : Int32) (x4 : Int32) (x6 : Int32) (v : GV), k51 x3 x4 x6 v = some z → gC v = 12 → ∀ (H : Heap) (locs : List Loc), WB G (st S a v) s H locs → ∀ (ls : Array Slot), lv_has ls 8 [(0, .ref a), (1, .int x1), (2, .int x2), (3, .int x3), (4, .int x4), (5, .int x5), (6, .int x6)] → W p l e RM_X13_joined s m args below meth c H locs 0 0 (QR G below args s (some (.int z.1)) (st S a v0) (st S a z.2)) (F0 m 51 ls [])) (hf : f_X13_joined_140 fu k34 k51 v x1 x2 x3 x4 x5 x6 = some z) : gC v = 12 → ∀ (H : Heap) (locs : List Loc), WB G (st S a v) s H locs → ∀ (ls : Array Slot), lv_has ls 8 [(0, .ref a), (1, .int x1), (2, .int x2), (3, .int x3), (4, .int x4), (5, .int x5), (6, .int x6)] → W p l e RM_X13_joined s m args below meth c H locs 0 0 (QR G below args s (some (.int z.1)) (st S a v0) (st S a z.2)) (F0 m 140 ls []) := by
  intro hc H locs hW ls hl
  have hx := hM.1
  have hb := hM.2.1
  obtain ⟨y1, ey1⟩ : ∃ y : Int32, y = x6 + (1 : Int32) := ⟨_, rfl⟩
  have hf := nm_at ey1 hf
  refine lv_iinc (v := y1) (lv' := [(6, .int y1), (0, .ref a), (1, .int x1), (2, .int x2), (3, .int x3), (4, .int x4), (5, .int x5)]) hx hb dX13_joined_140 hl (k := 6) rfl (by rw [ey1]; rfl) (by decide) rfl (fun ls hl => ?_)
  refine lv_goto (tgt := 51) hx hb dX13_joined_143 (by decide) ?_
  exact hk51 _ _ _ _ hf hc _ _ hW _ (lv_sub hl [1, 2, 3, 4, 5, 6, 0] rfl)
noncomputable def f_X13_joined_135 (fu : Nat) (k34 : Int32 → Int32 → Int32 → GV → Option (Int32 × GV)) (k51 : Int32 → Int32 → Int32 → GV → Option (Int32 × GV)) (v : GV) (x1 : Int32) (x2 : Int32) (x3 : Int32) (x5 : Int32) (x6 : Int32) (t0 : Int32) : Option (Int32 × GV) :=
  nm (x3 + (1 : Int32)) fun y1 =>
  f_X13_joined_140 fu k34 k51 v x1 x2 y1 t0 x5 x6
set_option maxHeartbeats 4000000 in
set_option maxRecDepth 100000 in
theorem t_X13_joined_135 {G : GG} {p : Program} {l : Launch} {e : Env} {s : State} {m : MethodId} {args : Array Value} {below : List Frame} {meth : Method} {c : Code} {S : ST} {fu : Nat} {z : Int32 × GV} {a : Nat} {v0 : GV} {k34 : Int32 → Int32 → Int32 → GV → Option (Int32 × GV)} {k51 : Int32 → Int32 → Int32 → GV → Option (Int32 × GV)} {v : GV} {x1 : Int32} {x2 : Int32} {x3 : Int32} {x5 : Int32} {x6 : Int32} {t0 : Int32} (hM : MC G p s m args c cX13_joined w_X13_joined RX13) (hml : c.maxLocals = 8) (hr : meth.sig.returnType = (some .int)) (hlk : meth.locks = false) (hc0 : gC v0 = 12) (hk34 : ∀ (x3 : Int32) (x4 : Int32) (x5 : Int32) (v : GV), k34 x3 x4 x5 v = some z → gC v = 12 → ∀ (H : Heap) (locs : List Loc), WB G (st S a v) s H locs → ∀ (ls : Array Slot), lv_has ls 8 [(0, .ref a), (1, .int x1), (2, .int x2), (3, .int x3), (4, .int x4), (5, .int x5)] → W p l e RM_X13_joined s m args below meth c H locs 0 0 (QR G below args s (some (.int z.1)) (st S a v0) (st S a z.2)) (F0 m 34 ls [])) (hk51 : ∀ (x3 : Int32) (x4 : Int32) (x6 : Int32) (v : GV), k51 x3 x4 x6 v = some z → gC v = 12 → ∀ (H : Heap) (locs : List Loc), WB G (st S a v) s H locs → ∀ (ls : Array Slot), lv_has ls 8 [(0, .ref a), (1, .int x1), (2, .int x2), (3, .int x3), (4, .int x4), (5, .int x5), (6, .int x6)] → W p l e RM_X13_joined s m args below meth c H locs 0 0 (QR G below args s (some (.int z.1)) (st S a v0) (st S a z.2)) (F0 m 51 ls [])) (hf : f_X13_joined_135 fu k34 k51 v x1 x2 x3 x5 x6 t0 = some z) : gC v = 12 → ∀ (H : Heap) (locs : List Loc), WB G (st S a v) s H locs → ∀ (ls : Array Slot), lv_has ls 8 [(0, .ref a), (1, .int x1), (2, .int x2), (3, .int x3), (5, .int x5), (6, .int x6)] → W p l e RM_X13_joined s m args below meth c H locs 0 0 (QR G below args s (some (.int z.1)) (st S a v0) (st S a z.2)) (F0 m 135 ls [.int t0]) := by
  intro hc H locs hW ls hl
  have hx := hM.1
  have hb := hM.2.1
  refine lv_istore (lv' := [(4, .int t0), (0, .ref a), (1, .int x1), (2, .int x2), (3, .int x3), (5, .int x5), (6, .int x6)]) hx hb dX13_joined_135 hl (by decide) rfl (fun ls hl => ?_)
  obtain ⟨y1, ey1⟩ : ∃ y : Int32, y = x3 + (1 : Int32) := ⟨_, rfl⟩
  have hf := nm_at ey1 hf
  refine lv_iinc (v := y1) (lv' := [(3, .int y1), (4, .int t0), (0, .ref a), (1, .int x1), (2, .int x2), (5, .int x5), (6, .int x6)]) hx hb dX13_joined_137 hl (k := 4) rfl (by rw [ey1]; rfl) (by decide) rfl (fun ls hl => ?_)
  exact t_X13_joined_140 (fu := fu) hM hml hr hlk hc0 hk34 hk51 hf hc _ _ hW _ (lv_sub hl [2, 3, 4, 0, 1, 5, 6] rfl)
noncomputable def f_X13_joined_51s (fu : Nat) (k34 : Int32 → Int32 → Int32 → GV → Option (Int32 × GV)) (k51 : Int32 → Int32 → Int32 → GV → Option (Int32 × GV)) (x1 : Int32) (x2 : Int32) (x5 : Int32) (x3 : Int32) (x4 : Int32) (x6 : Int32) (v : GV) : Option (Int32 × GV) :=
  if (gA v 24 (2 : Int32).toNatClampNeg) ≤ x6 then
    (nm (x5 + (1 : Int32)) fun y2 =>
    k34 x3 x4 y2 v)
  else
    (nm (((3 : Int32) + x1)) fun y3 =>
    ck (inb y3 1518) <|
    nm (((3 : Int32) + x5)) fun y5 =>
    ck (inb y5 1518) <|
    nm (((3 : Int32) + x1)) fun y7 =>
    ck (inb y7 1518) <|
    nm (((3 : Int32) + x6)) fun y9 =>
    ck (inb y9 1518) <|
    nm ((((gA v 24 y3.toNatClampNeg) ^^^ (gA v 24 y5.toNatClampNeg)) &&& ((gA v 24 y7.toNatClampNeg) ^^^ (gA v 24 y9.toNatClampNeg)))) fun y11 =>
    if x5 = x1 then
      (f_X13_joined_140 fu k34 k51 v x1 x2 x3 x4 x5 x6)
    else
      (if x6 = x1 then
        (f_X13_joined_140 fu k34 k51 v x1 x2 x3 x4 x5 x6)
      else
        (if y11 = 0 then
          (if x3 = 0 then
            (f_X13_joined_135 fu k34 k51 v x1 x2 x3 x5 x6 (((8 : Int32) * x5) + x6))
          else
            (f_X13_joined_135 fu k34 k51 v x1 x2 x3 x5 x6 x4))
        else
          (f_X13_joined_140 fu k34 k51 v x1 x2 x3 x4 x5 x6))))
noncomputable def f_X13_joined_51 (fu n : Nat) (k34 : Int32 → Int32 → Int32 → GV → Option (Int32 × GV)) (x1 : Int32) (x2 : Int32) (x5 : Int32) : Int32 → Int32 → Int32 → GV → Option (Int32 × GV) :=
  lq_4 (fun k51 => f_X13_joined_51s fu k34 k51 x1 x2 x5) n
set_option maxHeartbeats 4000000 in
set_option maxRecDepth 100000 in
theorem t_X13_joined_51s {G : GG} {p : Program} {l : Launch} {e : Env} {s : State} {m : MethodId} {args : Array Value} {below : List Frame} {meth : Method} {c : Code} {S : ST} {fu : Nat} {z : Int32 × GV} {a : Nat} {v0 : GV} {k34 : Int32 → Int32 → Int32 → GV → Option (Int32 × GV)} (hM : MC G p s m args c cX13_joined w_X13_joined RX13) (hml : c.maxLocals = 8) (hr : meth.sig.returnType = (some .int)) (hlk : meth.locks = false) (hc0 : gC v0 = 12) {k51 : Int32 → Int32 → Int32 → GV → Option (Int32 × GV)} {x1 : Int32} {x2 : Int32} {x5 : Int32} (hk34 : ∀ (x3 : Int32) (x4 : Int32) (x5 : Int32) (v : GV), k34 x3 x4 x5 v = some z → gC v = 12 → ∀ (H : Heap) (locs : List Loc), WB G (st S a v) s H locs → ∀ (ls : Array Slot), lv_has ls 8 [(0, .ref a), (1, .int x1), (2, .int x2), (3, .int x3), (4, .int x4), (5, .int x5)] → W p l e RM_X13_joined s m args below meth c H locs 0 0 (QR G below args s (some (.int z.1)) (st S a v0) (st S a z.2)) (F0 m 34 ls [])) (hk51 : ∀ (x3 : Int32) (x4 : Int32) (x6 : Int32) (v : GV), k51 x3 x4 x6 v = some z → gC v = 12 → ∀ (H : Heap) (locs : List Loc), WB G (st S a v) s H locs → ∀ (ls : Array Slot), lv_has ls 8 [(0, .ref a), (1, .int x1), (2, .int x2), (3, .int x3), (4, .int x4), (5, .int x5), (6, .int x6)] → W p l e RM_X13_joined s m args below meth c H locs 0 0 (QR G below args s (some (.int z.1)) (st S a v0) (st S a z.2)) (F0 m 51 ls [])) : ∀ (x3 : Int32) (x4 : Int32) (x6 : Int32) (v : GV), f_X13_joined_51s fu k34 k51 x1 x2 x5 x3 x4 x6 v = some z → gC v = 12 → ∀ (H : Heap) (locs : List Loc), WB G (st S a v) s H locs → ∀ (ls : Array Slot), lv_has ls 8 [(0, .ref a), (1, .int x1), (2, .int x2), (3, .int x3), (4, .int x4), (5, .int x5), (6, .int x6)] → W p l e RM_X13_joined s m args below meth c H locs 0 0 (QR G below args s (some (.int z.1)) (st S a v0) (st S a z.2)) (F0 m 51 ls []) := by
  intro x3 x4 x6 v hf hc H locs hW ls hl
  have hx := hM.1
  have hb := hM.2.1
  refine lv_iload hx hb dX13_joined_51 (lv_at hl 6 rfl) ?_
  refine lv_aload_n hx hb dX13_joined_53 rfl (lv_at hl 0 rfl) ?_
  refine b_get hM hW 11 24 hc rfl rfl (by decide) wi_X13 (wgm fk_RX13_125) (x := .ref (a + 16)) rfl dX13_joined_54 ?_
  refine lv_iconst (v := (2 : Int32)) hx hb dX13_joined_57 (by decide) ?_
  refine b_iald (n := 1518) hM hW 11 24 hc (by decide) rfl rfl rfl rfl (by decide) dX13_joined_58 ?_
  refine lv_icmp_ge (tgt := 146) hx hb dX13_joined_59 (by decide) (fun c1 => ?_) (fun c1 => ?_)
  · have hf := if_t c1 hf
    obtain ⟨y2, ey2⟩ : ∃ y : Int32, y = x5 + (1 : Int32) := ⟨_, rfl⟩
    have hf := nm_at ey2 hf
    refine lv_iinc (v := y2) (lv' := [(5, .int y2), (0, .ref a), (1, .int x1), (2, .int x2), (3, .int x3), (4, .int x4), (6, .int x6)]) hx hb dX13_joined_146 hl (k := 5) rfl (by rw [ey2]; rfl) (by decide) rfl (fun ls hl => ?_)
    refine lv_goto (tgt := 34) hx hb dX13_joined_149 (by decide) ?_
    exact hk34 _ _ _ _ hf hc _ _ hW _ (lv_sub hl [1, 2, 3, 4, 5, 0] rfl)
  · have hf := if_f c1 hf
    refine lv_aload_n hx hb dX13_joined_62 rfl (lv_at hl 0 rfl) ?_
    refine b_get hM hW 11 24 hc rfl rfl (by decide) wi_X13 (wgm fk_RX13_125) (x := .ref (a + 16)) rfl dX13_joined_63 ?_
    refine lv_iconst (v := (3 : Int32)) hx hb dX13_joined_66 (by decide) ?_
    refine lv_iload_n hx hb dX13_joined_67 rfl (lv_at hl 1 rfl) ?_
    refine lv_iadd hx hb dX13_joined_68 ?_
    refine lv_topi (fun y3 ey3 => ?_)
    have hf := nm_at ey3 hf
    obtain ⟨h4, hf⟩ := ck_elim hf
    refine b_iald (n := 1518) hM hW 11 24 hc (by decide) rfl rfl rfl rfl h4 dX13_joined_69 ?_
    refine lv_aload_n hx hb dX13_joined_70 rfl (lv_at hl 0 rfl) ?_
    refine b_get hM hW 11 24 hc rfl rfl (by decide) wi_X13 (wgm fk_RX13_125) (x := .ref (a + 16)) rfl dX13_joined_71 ?_
    refine lv_iconst (v := (3 : Int32)) hx hb dX13_joined_74 (by decide) ?_
    refine lv_iload hx hb dX13_joined_75 (lv_at hl 5 rfl) ?_
    refine lv_iadd hx hb dX13_joined_77 ?_
    refine lv_topi (fun y5 ey5 => ?_)
    have hf := nm_at ey5 hf
    obtain ⟨h6, hf⟩ := ck_elim hf
    refine b_iald (n := 1518) hM hW 11 24 hc (by decide) rfl rfl rfl rfl h6 dX13_joined_78 ?_
    refine lv_ixor hx hb dX13_joined_79 ?_
    refine lv_aload_n hx hb dX13_joined_80 rfl (lv_at hl 0 rfl) ?_
    refine b_get hM hW 11 24 hc rfl rfl (by decide) wi_X13 (wgm fk_RX13_125) (x := .ref (a + 16)) rfl dX13_joined_81 ?_
    refine lv_iconst (v := (3 : Int32)) hx hb dX13_joined_84 (by decide) ?_
    refine lv_iload_n hx hb dX13_joined_85 rfl (lv_at hl 1 rfl) ?_
    refine lv_iadd hx hb dX13_joined_86 ?_
    refine lv_topi (fun y7 ey7 => ?_)
    have hf := nm_at ey7 hf
    obtain ⟨h8, hf⟩ := ck_elim hf
    refine b_iald (n := 1518) hM hW 11 24 hc (by decide) rfl rfl rfl rfl h8 dX13_joined_87 ?_
    refine lv_aload_n hx hb dX13_joined_88 rfl (lv_at hl 0 rfl) ?_
    refine b_get hM hW 11 24 hc rfl rfl (by decide) wi_X13 (wgm fk_RX13_125) (x := .ref (a + 16)) rfl dX13_joined_89 ?_
    refine lv_iconst (v := (3 : Int32)) hx hb dX13_joined_92 (by decide) ?_
    refine lv_iload hx hb dX13_joined_93 (lv_at hl 6 rfl) ?_
    refine lv_iadd hx hb dX13_joined_95 ?_
    refine lv_topi (fun y9 ey9 => ?_)
    have hf := nm_at ey9 hf
    obtain ⟨h10, hf⟩ := ck_elim hf
    refine b_iald (n := 1518) hM hW 11 24 hc (by decide) rfl rfl rfl rfl h10 dX13_joined_96 ?_
    refine lv_ixor hx hb dX13_joined_97 ?_
    refine lv_iand hx hb dX13_joined_98 ?_
    refine lv_topi (fun y11 ey11 => ?_)
    have hf := nm_at ey11 hf
    refine lv_istore (lv' := [(7, .int y11), (0, .ref a), (1, .int x1), (2, .int x2), (3, .int x3), (4, .int x4), (5, .int x5), (6, .int x6)]) hx hb dX13_joined_99 hl (by decide) rfl (fun ls hl => ?_)
    refine lv_iload hx hb dX13_joined_101 (lv_at hl 6 rfl) ?_
    refine lv_iload_n hx hb dX13_joined_103 rfl (lv_at hl 2 rfl) ?_
    refine lv_icmp_eq (tgt := 140) hx hb dX13_joined_104 (by decide) (fun c12 => ?_) (fun c12 => ?_)
    · have hf := if_t c12 hf
      exact t_X13_joined_140 (fu := fu) hM hml hr hlk hc0 hk34 hk51 hf hc _ _ hW _ (lv_sub hl [1, 2, 3, 4, 5, 6, 7] rfl)
    · have hf := if_f c12 hf
      refine lv_iload hx hb dX13_joined_107 (lv_at hl 7 rfl) ?_
      refine lv_iload_n hx hb dX13_joined_109 rfl (lv_at hl 2 rfl) ?_
      refine lv_icmp_eq (tgt := 140) hx hb dX13_joined_110 (by decide) (fun c13 => ?_) (fun c13 => ?_)
      · have hf := if_t c13 hf
        exact t_X13_joined_140 (fu := fu) hM hml hr hlk hc0 hk34 hk51 hf hc _ _ hW _ (lv_sub hl [1, 2, 3, 4, 5, 6, 7] rfl)
      · have hf := if_f c13 hf
        refine lv_iload hx hb dX13_joined_113 (lv_at hl 0 rfl) ?_
        refine lv_if_ne (tgt := 140) hx hb dX13_joined_115 (by decide) (fun c14 => ?_) (fun c14 => ?_)
        · have hf := if_f c14 hf
          exact t_X13_joined_140 (fu := fu) hM hml hr hlk hc0 hk34 hk51 hf hc _ _ hW _ (lv_sub hl [1, 2, 3, 4, 5, 6, 7] rfl)
        · have hf := if_t c14 hf
          refine lv_iload_n hx hb dX13_joined_118 rfl (lv_at hl 4 rfl) ?_
          refine lv_if_ne (tgt := 133) hx hb dX13_joined_119 (by decide) (fun c15 => ?_) (fun c15 => ?_)
          · have hf := if_f c15 hf
            refine lv_iload hx hb dX13_joined_133 (lv_at hl 5 rfl) ?_
            exact t_X13_joined_135 (fu := fu) hM hml hr hlk hc0 hk34 hk51 hf hc _ _ hW _ (lv_sub hl [1, 2, 3, 4, 6, 7] rfl)
          · have hf := if_t c15 hf
            refine lv_bipush (v := (8 : Int32)) hx hb dX13_joined_122 (by decide) ?_
            refine lv_iload hx hb dX13_joined_124 (lv_at hl 6 rfl) ?_
            refine lv_imul hx hb dX13_joined_126 ?_
            refine lv_iload hx hb dX13_joined_127 (lv_at hl 7 rfl) ?_
            refine lv_iadd hx hb dX13_joined_129 ?_
            refine lv_goto (tgt := 135) hx hb dX13_joined_130 (by decide) ?_
            exact t_X13_joined_135 (fu := fu) hM hml hr hlk hc0 hk34 hk51 hf hc _ _ hW _ (lv_sub hl [1, 2, 3, 4, 6, 7] rfl)
theorem t_X13_joined_51 {G : GG} {p : Program} {l : Launch} {e : Env} {s : State} {m : MethodId} {args : Array Value} {below : List Frame} {meth : Method} {c : Code} {S : ST} {fu : Nat} {z : Int32 × GV} {a : Nat} {v0 : GV} {k34 : Int32 → Int32 → Int32 → GV → Option (Int32 × GV)} {x1 : Int32} {x2 : Int32} {x5 : Int32} (hM : MC G p s m args c cX13_joined w_X13_joined RX13) (hml : c.maxLocals = 8) (hr : meth.sig.returnType = (some .int)) (hlk : meth.locks = false) (hc0 : gC v0 = 12) (hk34 : ∀ (x3 : Int32) (x4 : Int32) (x5 : Int32) (v : GV), k34 x3 x4 x5 v = some z → gC v = 12 → ∀ (H : Heap) (locs : List Loc), WB G (st S a v) s H locs → ∀ (ls : Array Slot), lv_has ls 8 [(0, .ref a), (1, .int x1), (2, .int x2), (3, .int x3), (4, .int x4), (5, .int x5)] → W p l e RM_X13_joined s m args below meth c H locs 0 0 (QR G below args s (some (.int z.1)) (st S a v0) (st S a z.2)) (F0 m 34 ls [])) : ∀ {n : Nat} (x3 : Int32) (x4 : Int32) (x6 : Int32) (v : GV), f_X13_joined_51 fu n k34 x1 x2 x5 x3 x4 x6 v = some z → gC v = 12 → ∀ (H : Heap) (locs : List Loc), WB G (st S a v) s H locs → ∀ (ls : Array Slot), lv_has ls 8 [(0, .ref a), (1, .int x1), (2, .int x2), (3, .int x3), (4, .int x4), (5, .int x5), (6, .int x6)] → W p l e RM_X13_joined s m args below meth c H locs 0 0 (QR G below args s (some (.int z.1)) (st S a v0) (st S a z.2)) (F0 m 51 ls []) := by
  intro n
  induction n with
  | zero => intro x3 x4 x6 v hf; cases hf
  | succ n ih => intro x3 x4 x6 v hf; exact t_X13_joined_51s (fu := fu) hM hml hr hlk hc0 hk34 (k51 := f_X13_joined_51 fu n k34 x1 x2 x5) ih _ _ _ _ hf
noncomputable def f_X13_joined_34s (fu : Nat)  (k34 : Int32 → Int32 → Int32 → GV → Option (Int32 × GV)) (x1 : Int32) (x2 : Int32) (x3 : Int32) (x4 : Int32) (x5 : Int32) (v : GV) : Option (Int32 × GV) :=
  if (gA v 24 (2 : Int32).toNatClampNeg) ≤ x5 then
    (if x2 = 0 then
      (some (x3, v))
    else
      (some (x4, v)))
  else
    (nm ((x5 + (1 : Int32))) fun y3 =>
    f_X13_joined_51 fu fu k34 x1 x2 x5 x3 x4 y3 v)
noncomputable def f_X13_joined_34 (fu n : Nat)  (x1 : Int32) (x2 : Int32) : Int32 → Int32 → Int32 → GV → Option (Int32 × GV) :=
  lq_4 (fun k34 => f_X13_joined_34s fu  k34 x1 x2) n
set_option maxHeartbeats 4000000 in
set_option maxRecDepth 100000 in
theorem t_X13_joined_34s {G : GG} {p : Program} {l : Launch} {e : Env} {s : State} {m : MethodId} {args : Array Value} {below : List Frame} {meth : Method} {c : Code} {S : ST} {fu : Nat} {z : Int32 × GV} {a : Nat} {v0 : GV}  (hM : MC G p s m args c cX13_joined w_X13_joined RX13) (hml : c.maxLocals = 8) (hr : meth.sig.returnType = (some .int)) (hlk : meth.locks = false) (hc0 : gC v0 = 12) {k34 : Int32 → Int32 → Int32 → GV → Option (Int32 × GV)} {x1 : Int32} {x2 : Int32}  (hk34 : ∀ (x3 : Int32) (x4 : Int32) (x5 : Int32) (v : GV), k34 x3 x4 x5 v = some z → gC v = 12 → ∀ (H : Heap) (locs : List Loc), WB G (st S a v) s H locs → ∀ (ls : Array Slot), lv_has ls 8 [(0, .ref a), (1, .int x1), (2, .int x2), (3, .int x3), (4, .int x4), (5, .int x5)] → W p l e RM_X13_joined s m args below meth c H locs 0 0 (QR G below args s (some (.int z.1)) (st S a v0) (st S a z.2)) (F0 m 34 ls [])) : ∀ (x3 : Int32) (x4 : Int32) (x5 : Int32) (v : GV), f_X13_joined_34s fu  k34 x1 x2 x3 x4 x5 v = some z → gC v = 12 → ∀ (H : Heap) (locs : List Loc), WB G (st S a v) s H locs → ∀ (ls : Array Slot), lv_has ls 8 [(0, .ref a), (1, .int x1), (2, .int x2), (3, .int x3), (4, .int x4), (5, .int x5)] → W p l e RM_X13_joined s m args below meth c H locs 0 0 (QR G below args s (some (.int z.1)) (st S a v0) (st S a z.2)) (F0 m 34 ls []) := by
  intro x3 x4 x5 v hf hc H locs hW ls hl
  have hx := hM.1
  have hb := hM.2.1
  refine lv_iload hx hb dX13_joined_34 (lv_at hl 5 rfl) ?_
  refine lv_aload_n hx hb dX13_joined_36 rfl (lv_at hl 0 rfl) ?_
  refine b_get hM hW 11 24 hc rfl rfl (by decide) wi_X13 (wgm fk_RX13_125) (x := .ref (a + 16)) rfl dX13_joined_37 ?_
  refine lv_iconst (v := (2 : Int32)) hx hb dX13_joined_40 (by decide) ?_
  refine b_iald (n := 1518) hM hW 11 24 hc (by decide) rfl rfl rfl rfl (by decide) dX13_joined_41 ?_
  refine lv_icmp_ge (tgt := 152) hx hb dX13_joined_42 (by decide) (fun c1 => ?_) (fun c1 => ?_)
  · have hf := if_t c1 hf
    refine lv_iload_n hx hb dX13_joined_152 rfl (lv_at hl 2 rfl) ?_
    refine lv_if_ne (tgt := 160) hx hb dX13_joined_153 (by decide) (fun c2 => ?_) (fun c2 => ?_)
    · have hf := if_f c2 hf
      refine lv_iload hx hb dX13_joined_160 (lv_at hl 4 rfl) ?_
      cases hf
      exact W.iret hx hb hr (b_ret0 hW (keep_s2 hc0 hc) _) hW.2.2.2 dX13_joined_162 hlk
    · have hf := if_t c2 hf
      refine lv_iload_n hx hb dX13_joined_156 rfl (lv_at hl 3 rfl) ?_
      refine lv_goto (tgt := 162) hx hb dX13_joined_157 (by decide) ?_
      cases hf
      exact W.iret hx hb hr (b_ret0 hW (keep_s2 hc0 hc) _) hW.2.2.2 dX13_joined_162 hlk
  · have hf := if_f c1 hf
    refine lv_iload hx hb dX13_joined_45 (lv_at hl 5 rfl) ?_
    refine lv_iconst (v := (1 : Int32)) hx hb dX13_joined_47 (by decide) ?_
    refine lv_iadd hx hb dX13_joined_48 ?_
    refine lv_topi (fun y3 ey3 => ?_)
    have hf := nm_at ey3 hf
    refine lv_istore (lv' := [(6, .int y3), (0, .ref a), (1, .int x1), (2, .int x2), (3, .int x3), (4, .int x4), (5, .int x5)]) hx hb dX13_joined_49 hl (by decide) rfl (fun ls hl => ?_)
    exact t_X13_joined_51 (fu := fu) hM hml hr hlk hc0 hk34 _ _ _ _ hf hc _ _ hW _ (lv_sub hl [1, 2, 3, 4, 5, 6, 0] rfl)
theorem t_X13_joined_34 {G : GG} {p : Program} {l : Launch} {e : Env} {s : State} {m : MethodId} {args : Array Value} {below : List Frame} {meth : Method} {c : Code} {S : ST} {fu : Nat} {z : Int32 × GV} {a : Nat} {v0 : GV}  {x1 : Int32} {x2 : Int32} (hM : MC G p s m args c cX13_joined w_X13_joined RX13) (hml : c.maxLocals = 8) (hr : meth.sig.returnType = (some .int)) (hlk : meth.locks = false) (hc0 : gC v0 = 12)  : ∀ {n : Nat} (x3 : Int32) (x4 : Int32) (x5 : Int32) (v : GV), f_X13_joined_34 fu n  x1 x2 x3 x4 x5 v = some z → gC v = 12 → ∀ (H : Heap) (locs : List Loc), WB G (st S a v) s H locs → ∀ (ls : Array Slot), lv_has ls 8 [(0, .ref a), (1, .int x1), (2, .int x2), (3, .int x3), (4, .int x4), (5, .int x5)] → W p l e RM_X13_joined s m args below meth c H locs 0 0 (QR G below args s (some (.int z.1)) (st S a v0) (st S a z.2)) (F0 m 34 ls []) := by
  intro n
  induction n with
  | zero => intro x3 x4 x5 v hf; cases hf
  | succ n ih => intro x3 x4 x5 v hf; exact t_X13_joined_34s (fu := fu) hM hml hr hlk hc0  (k34 := f_X13_joined_34 fu n  x1 x2) ih _ _ _ _ hf
noncomputable def f_X13_joined_23 (fu : Nat)  (v : GV) : Option (Int32 × GV) :=
  some ((-2 : Int32), v)
set_option maxHeartbeats 4000000 in
set_option maxRecDepth 100000 in
theorem t_X13_joined_23 {G : GG} {p : Program} {l : Launch} {e : Env} {s : State} {m : MethodId} {args : Array Value} {below : List Frame} {meth : Method} {c : Code} {S : ST} {fu : Nat} {z : Int32 × GV} {a : Nat} {v0 : GV}  {v : GV} (hM : MC G p s m args c cX13_joined w_X13_joined RX13) (hml : c.maxLocals = 8) (hr : meth.sig.returnType = (some .int)) (hlk : meth.locks = false) (hc0 : gC v0 = 12)  (hf : f_X13_joined_23 fu  v  = some z) : gC v = 12 → ∀ (H : Heap) (locs : List Loc), WB G (st S a v) s H locs → ∀ (ls : Array Slot), lv_has ls 8 [] → W p l e RM_X13_joined s m args below meth c H locs 0 0 (QR G below args s (some (.int z.1)) (st S a v0) (st S a z.2)) (F0 m 23 ls []) := by
  intro hc H locs hW ls hl
  have hx := hM.1
  have hb := hM.2.1
  refine lv_bipush (v := (-2 : Int32)) hx hb dX13_joined_23 (by decide) ?_
  cases hf
  exact W.iret hx hb hr (b_ret0 hW (keep_s2 hc0 hc) _) hW.2.2.2 dX13_joined_25 hlk
noncomputable def f_X13_joined_0 (fu : Nat)  (v : GV) (x1 : Int32) (x2 : Int32) : Option (Int32 × GV) :=
  nm (sI v 0 (0 : Int32)) fun v1 =>
  bd (f_X13_isPiece fu v1 (0 : Int32) x1) fun r2 =>
  if r2 = 0 then
    (f_X13_joined_23 fu v1)
  else
    (bd (f_X13_within fu x2 (0 : Int32) (1 : Int32)) fun r4 =>
    if r4 = 0 then
      (f_X13_joined_23 fu v1)
    else
      (f_X13_joined_34 fu fu x1 x2 (0 : Int32) (-1 : Int32) (0 : Int32) v1))
set_option maxHeartbeats 4000000 in
set_option maxRecDepth 100000 in
theorem t_X13_joined_0 {G : GG} {p : Program} {l : Launch} {e : Env} {s : State} {m : MethodId} {args : Array Value} {below : List Frame} {meth : Method} {c : Code} {S : ST} {fu : Nat} {z : Int32 × GV} {a : Nat} {v0 : GV}  {v : GV} {x1 : Int32} {x2 : Int32} (hM : MC G p s m args c cX13_joined w_X13_joined RX13) (hml : c.maxLocals = 8) (hr : meth.sig.returnType = (some .int)) (hlk : meth.locks = false) (hc0 : gC v0 = 12)  (hf : f_X13_joined_0 fu  v x1 x2 = some z) : gC v = 12 → ∀ (H : Heap) (locs : List Loc), WB G (st S a v) s H locs → ∀ (ls : Array Slot), lv_has ls 8 [(0, .ref a), (1, .int x1), (2, .int x2)] → W p l e RM_X13_joined s m args below meth c H locs 0 0 (QR G below args s (some (.int z.1)) (st S a v0) (st S a z.2)) (F0 m 0 ls []) := by
  intro hc H locs hW ls hl
  have hx := hM.1
  have hb := hM.2.1
  refine lv_aload_n hx hb dX13_joined_0 rfl (lv_at hl 0 rfl) ?_
  refine lv_iconst (v := (0 : Int32)) hx hb dX13_joined_1 (by decide) ?_
  refine b_putI hM hW 11 0 hc rfl rfl (by decide) wi_X13 tyX13 tyX13_ok nmX13 (wgm fk_RX13_1) rfl rfl rfl dX13_joined_2 (fun v1 ev1 hc H locs hW => ?_)
  have hf := nm_at ev1 hf
  refine lv_aload_n hx hb dX13_joined_5 rfl (lv_at hl 0 rfl) ?_
  refine lv_iconst (v := (0 : Int32)) hx hb dX13_joined_6 (by decide) ?_
  refine lv_iload_n hx hb dX13_joined_7 rfl (lv_at hl 1 rfl) ?_
  obtain ⟨r2, hr2, hf⟩ := bd_elim hf
  refine b_callVi [.int (0 : Int32), .int x1] [] hM hml hl.1 hW hc rfl (by decide) (c_X13_isPiece l G fu _ a v1 _ _ hc hr2) (cwV 2 hM.2.2.2.1 (gV mk_RX13_345 im_X13_isPiece se_X13_isPiece it_RX13 cd_X13_isPiece) rfl rfl rfl (by decide +kernel) ⟨Nat.le_of_ble_eq_true rfl, Nat.le_of_ble_eq_true rfl⟩) rfl rfl (Nat.le_of_ble_eq_true rfl) ⟨Nat.zero_le _, Nat.zero_le _⟩ dX13_joined_8 (fun H locs hW hk => ?_)
  refine lv_if_eq (tgt := 23) hx hb dX13_joined_11 (by decide) (fun c3 => ?_) (fun c3 => ?_)
  · have hf := if_t c3 hf
    exact t_X13_joined_23 (fu := fu) hM hml hr hlk hc0 hf hc _ _ hW _ (lv_sub hl [] rfl)
  · have hf := if_f c3 hf
    refine lv_iload_n hx hb dX13_joined_14 rfl (lv_at hl 2 rfl) ?_
    refine lv_iconst (v := (0 : Int32)) hx hb dX13_joined_15 (by decide) ?_
    refine lv_iconst (v := (1 : Int32)) hx hb dX13_joined_16 (by decide) ?_
    obtain ⟨r4, hr4, hf⟩ := bd_elim hf
    refine b_callSi [.int x2, .int (0 : Int32), .int (1 : Int32)] [] hM hml hl.1 hW (c_X13_within l G fu _ _ _ _ hr4) (va_cwS 3 hM.2.2.2.1 (gS mk_RX13_231 sm_X13_within it_RX13 cd_X13_within) rfl rfl rfl (by decide +kernel) ⟨Nat.le_of_ble_eq_true rfl, Nat.le_of_ble_eq_true rfl⟩) rfl rfl (Nat.le_of_ble_eq_true rfl) ⟨Nat.zero_le _, Nat.zero_le _⟩ dX13_joined_17 (fun H locs hW hk => ?_)
    refine lv_if_ne (tgt := 26) hx hb dX13_joined_20 (by decide) (fun c5 => ?_) (fun c5 => ?_)
    · have hf := if_f c5 hf
      refine lv_iconst (v := (0 : Int32)) hx hb dX13_joined_26 (by decide) ?_
      refine lv_istore_n (lv' := [(3, .int (0 : Int32)), (0, .ref a), (1, .int x1), (2, .int x2)]) hx hb dX13_joined_27 rfl hl (by decide) rfl (fun ls hl => ?_)
      refine lv_iconst (v := (-1 : Int32)) hx hb dX13_joined_28 (by decide) ?_
      refine lv_istore (lv' := [(4, .int (-1 : Int32)), (3, .int (0 : Int32)), (0, .ref a), (1, .int x1), (2, .int x2)]) hx hb dX13_joined_29 hl (by decide) rfl (fun ls hl => ?_)
      refine lv_iconst (v := (0 : Int32)) hx hb dX13_joined_31 (by decide) ?_
      refine lv_istore (lv' := [(5, .int (0 : Int32)), (4, .int (-1 : Int32)), (3, .int (0 : Int32)), (0, .ref a), (1, .int x1), (2, .int x2)]) hx hb dX13_joined_32 hl (by decide) rfl (fun ls hl => ?_)
      exact t_X13_joined_34 (fu := fu) hM hml hr hlk hc0 _ _ _ _ hf hc _ _ hW _ (lv_sub hl [3, 4, 5, 2, 1, 0] rfl)
    · have hf := if_t c5 hf
      exact t_X13_joined_23 (fu := fu) hM hml hr hlk hc0 hf hc _ _ hW _ (lv_sub hl [] rfl)
noncomputable def f_X13_joined (fu : Nat) (v : GV) (x1 : Int32) (x2 : Int32) : Option (Int32 × GV) := f_X13_joined_0 fu v x1 x2
set_option maxHeartbeats 4000000 in
set_option maxRecDepth 100000 in
theorem c_X13_joined (l : Launch) (G : GG) (fu : Nat) (S : ST) (a : Nat) (v : GV) (x1 : Int32) (x2 : Int32) {z : Int32} {w : GV} (hc : gC v = 12) (hf : f_X13_joined fu v x1 x2 = some (z, w)) : Ct l yX13_joined w_X13_joined RM_X13_joined G (st S a v) [.ref a, .int x1, .int x2] (some (.int z)) (st S a w) 0 0 := by
  refine Met.ofW (cc := cX13_joined) (maxL := 8) (ret := (some .int)) (by decide) rfl ?_
  intro p e s m args below meth c s₁ B hml hv
  obtain ⟨rfl, hB, hK, hz⟩ := hv
  have hM : MC G p s m _ c cX13_joined w_X13_joined RX13 := ⟨B.exec, B.bytes, findClass_of_methodNamed B.named, atoms_spec (ws := w_X13_joined) B.pre, hK, hz⟩
  have hW : WB G (st S a v) s s.heap [] := ⟨hB, va_S.rf⟩
  have hl := lv_entry ([.ref a, .int x1, .int x2]) (n := 8) (Nat.le_of_ble_eq_true rfl)
  rw [lg_entry_eq]
  generalize (lg_sl ([.ref a, .int x1, .int x2]) ++ List.replicate (8 - (lg_sl ([.ref a, .int x1, .int x2])).length) Slot.unset).toArray = ls at hl ⊢
  have hl : lv_has ls 8 [(0, .ref a), (1, .int x1), (2, .int x2)] := hl
  exact t_X13_joined_0 hM hml B.returns B.notSynchronized hc hf hc _ _ hW _ (lv_sub hl [0, 1, 2] rfl)
abbrev w_X13_look : List Cond := Cond.code yX13_look cX13_look 3 (some .boolean) :: wsL_law0
abbrev RM_X13_look : Room := { frames := 2, cells := 0, slots := 0, locals := 41 }
noncomputable def f_X13_look_72 (fu : Nat)  (v : GV) (t1 : Int32) (t2 : Int32) : Option (Int32 × GV) :=
  ck (inb t1 1518) <|
  nm (sA v 24 t1.toNatClampNeg t2) fun v2 =>
  nm (((gA v2 24 (48 : Int32).toNatClampNeg) + (1 : Int32))) fun y3 =>
  nm (sA v2 24 (48 : Int32).toNatClampNeg y3) fun v4 =>
  some ((1 : Int32), v4)
set_option maxHeartbeats 4000000 in
set_option maxRecDepth 100000 in
theorem t_X13_look_72 {G : GG} {p : Program} {l : Launch} {e : Env} {s : State} {m : MethodId} {args : Array Value} {below : List Frame} {meth : Method} {c : Code} {S : ST} {fu : Nat} {z : Int32 × GV} {a : Nat} {v0 : GV}  {v : GV} {t1 : Int32} {t2 : Int32} (hM : MC G p s m args c cX13_look w_X13_look RX13) (hml : c.maxLocals = 3) (hr : meth.sig.returnType = (some .boolean)) (hlk : meth.locks = false) (hc0 : gC v0 = 12)  (hf : f_X13_look_72 fu  v t1 t2 = some z) : gC v = 12 → ∀ (H : Heap) (locs : List Loc), WB G (st S a v) s H locs → ∀ (ls : Array Slot), lv_has ls 3 [(0, .ref a)] → W p l e RM_X13_look s m args below meth c H locs 0 0 (QR G below args s (some (.int z.1)) (st S a v0) (st S a z.2)) (F0 m 72 ls [.int t2, .int t1, .ref (a + 16)]) := by
  intro hc H locs hW ls hl
  have hx := hM.1
  have hb := hM.2.1
  obtain ⟨h1, hf⟩ := ck_elim hf
  refine b_iast (n := 1518) hM hW 11 24 hc (by decide) rfl rfl rfl rfl h1 dX13_look_72 (fun v2 ev2 hc H locs hW => ?_)
  have hf := nm_at ev2 hf
  refine lv_aload_n hx hb dX13_look_73 rfl (lv_at hl 0 rfl) ?_
  refine b_get hM hW 11 24 hc rfl rfl (by decide) wi_X13 (wgm fk_RX13_125) (x := .ref (a + 16)) rfl dX13_look_74 ?_
  refine lv_bipush (v := (48 : Int32)) hx hb dX13_look_77 (by decide) ?_
  refine lv_dup2_11 hx hb dX13_look_79 rfl rfl ?_
  refine b_iald (n := 1518) hM hW 11 24 hc (by decide) rfl rfl rfl rfl (by decide) dX13_look_80 ?_
  refine lv_iconst (v := (1 : Int32)) hx hb dX13_look_81 (by decide) ?_
  refine lv_iadd hx hb dX13_look_82 ?_
  refine lv_topi (fun y3 ey3 => ?_)
  have hf := nm_at ey3 hf
  refine b_iast (n := 1518) hM hW 11 24 hc (by decide) rfl rfl rfl rfl (by decide) dX13_look_83 (fun v4 ev4 hc H locs hW => ?_)
  have hf := nm_at ev4 hf
  refine lv_iconst (v := (1 : Int32)) hx hb dX13_look_84 (by decide) ?_
  cases hf
  exact W.zret (v := (1 : Int32)) hx hb hr (by decide) (b_ret0 hW (keep_s2 hc0 hc) _) hW.2.2.2 dX13_look_85 hlk
noncomputable def f_X13_look_25 (fu : Nat)  (v : GV) : Option (Int32 × GV) :=
  some ((0 : Int32), v)
set_option maxHeartbeats 4000000 in
set_option maxRecDepth 100000 in
theorem t_X13_look_25 {G : GG} {p : Program} {l : Launch} {e : Env} {s : State} {m : MethodId} {args : Array Value} {below : List Frame} {meth : Method} {c : Code} {S : ST} {fu : Nat} {z : Int32 × GV} {a : Nat} {v0 : GV}  {v : GV} (hM : MC G p s m args c cX13_look w_X13_look RX13) (hml : c.maxLocals = 3) (hr : meth.sig.returnType = (some .boolean)) (hlk : meth.locks = false) (hc0 : gC v0 = 12)  (hf : f_X13_look_25 fu  v  = some z) : gC v = 12 → ∀ (H : Heap) (locs : List Loc), WB G (st S a v) s H locs → ∀ (ls : Array Slot), lv_has ls 3 [] → W p l e RM_X13_look s m args below meth c H locs 0 0 (QR G below args s (some (.int z.1)) (st S a v0) (st S a z.2)) (F0 m 25 ls []) := by
  intro hc H locs hW ls hl
  have hx := hM.1
  have hb := hM.2.1
  refine lv_iconst (v := (0 : Int32)) hx hb dX13_look_25 (by decide) ?_
  cases hf
  exact W.zret (v := (0 : Int32)) hx hb hr (by decide) (b_ret0 hW (keep_s2 hc0 hc) _) hW.2.2.2 dX13_look_26 hlk
noncomputable def f_X13_look_0 (fu : Nat)  (v : GV) (x1 : Int32) (x2 : Int32) : Option (Int32 × GV) :=
  nm (sI v 0 (0 : Int32)) fun v1 =>
  bd (f_X13_isSpot fu v1 x1) fun r2 =>
  if r2 = 0 then
    (f_X13_look_25 fu v1)
  else
    (if (gA v1 24 (48 : Int32).toNatClampNeg) = (8 : Int32) then
      (f_X13_look_25 fu v1)
    else
      (ck (inb ((49 : Int32) + ((2 : Int32) * (gA v1 24 (48 : Int32).toNatClampNeg))) 1518) <|
      nm (sA v1 24 ((49 : Int32) + ((2 : Int32) * (gA v1 24 (48 : Int32).toNatClampNeg))).toNatClampNeg x1) fun v6 =>
      if x2 = 0 then
        (f_X13_look_72 fu v6 (((49 : Int32) + ((2 : Int32) * (gA v6 24 (48 : Int32).toNatClampNeg))) + (1 : Int32)) (0 : Int32))
      else
        (f_X13_look_72 fu v6 (((49 : Int32) + ((2 : Int32) * (gA v6 24 (48 : Int32).toNatClampNeg))) + (1 : Int32)) (1 : Int32))))
set_option maxHeartbeats 4000000 in
set_option maxRecDepth 100000 in
theorem t_X13_look_0 {G : GG} {p : Program} {l : Launch} {e : Env} {s : State} {m : MethodId} {args : Array Value} {below : List Frame} {meth : Method} {c : Code} {S : ST} {fu : Nat} {z : Int32 × GV} {a : Nat} {v0 : GV}  {v : GV} {x1 : Int32} {x2 : Int32} (hM : MC G p s m args c cX13_look w_X13_look RX13) (hml : c.maxLocals = 3) (hr : meth.sig.returnType = (some .boolean)) (hlk : meth.locks = false) (hc0 : gC v0 = 12)  (hf : f_X13_look_0 fu  v x1 x2 = some z) : gC v = 12 → ∀ (H : Heap) (locs : List Loc), WB G (st S a v) s H locs → ∀ (ls : Array Slot), lv_has ls 3 [(0, .ref a), (1, .int x1), (2, .int x2)] → W p l e RM_X13_look s m args below meth c H locs 0 0 (QR G below args s (some (.int z.1)) (st S a v0) (st S a z.2)) (F0 m 0 ls []) := by
  intro hc H locs hW ls hl
  have hx := hM.1
  have hb := hM.2.1
  refine lv_aload_n hx hb dX13_look_0 rfl (lv_at hl 0 rfl) ?_
  refine lv_iconst (v := (0 : Int32)) hx hb dX13_look_1 (by decide) ?_
  refine b_putI hM hW 11 0 hc rfl rfl (by decide) wi_X13 tyX13 tyX13_ok nmX13 (wgm fk_RX13_1) rfl rfl rfl dX13_look_2 (fun v1 ev1 hc H locs hW => ?_)
  have hf := nm_at ev1 hf
  refine lv_aload_n hx hb dX13_look_5 rfl (lv_at hl 0 rfl) ?_
  refine lv_iload_n hx hb dX13_look_6 rfl (lv_at hl 1 rfl) ?_
  obtain ⟨r2, hr2, hf⟩ := bd_elim hf
  refine b_callVi [.int x1] [] hM hml hl.1 hW hc rfl (by decide) (c_X13_isSpot l G fu _ a v1 _ hc hr2) (cwV 1 hM.2.2.2.1 (gV mk_RX13_379 im_X13_isSpot se_X13_isSpot it_RX13 cd_X13_isSpot) rfl rfl rfl (by decide +kernel) ⟨Nat.le_of_ble_eq_true rfl, Nat.le_of_ble_eq_true rfl⟩) rfl rfl (Nat.le_of_ble_eq_true rfl) ⟨Nat.zero_le _, Nat.zero_le _⟩ dX13_look_7 (fun H locs hW hk => ?_)
  refine lv_if_eq (tgt := 25) hx hb dX13_look_10 (by decide) (fun c3 => ?_) (fun c3 => ?_)
  · have hf := if_t c3 hf
    exact t_X13_look_25 (fu := fu) hM hml hr hlk hc0 hf hc _ _ hW _ (lv_sub hl [] rfl)
  · have hf := if_f c3 hf
    refine lv_aload_n hx hb dX13_look_13 rfl (lv_at hl 0 rfl) ?_
    refine b_get hM hW 11 24 hc rfl rfl (by decide) wi_X13 (wgm fk_RX13_125) (x := .ref (a + 16)) rfl dX13_look_14 ?_
    refine lv_bipush (v := (48 : Int32)) hx hb dX13_look_17 (by decide) ?_
    refine b_iald (n := 1518) hM hW 11 24 hc (by decide) rfl rfl rfl rfl (by decide) dX13_look_19 ?_
    refine lv_bipush (v := (8 : Int32)) hx hb dX13_look_20 (by decide) ?_
    refine lv_icmp_ne (tgt := 27) hx hb dX13_look_22 (by decide) (fun c4 => ?_) (fun c4 => ?_)
    · have hf := if_f c4 hf
      refine lv_aload_n hx hb dX13_look_27 rfl (lv_at hl 0 rfl) ?_
      refine b_get hM hW 11 24 hc rfl rfl (by decide) wi_X13 (wgm fk_RX13_125) (x := .ref (a + 16)) rfl dX13_look_28 ?_
      refine lv_bipush (v := (49 : Int32)) hx hb dX13_look_31 (by decide) ?_
      refine lv_iconst (v := (2 : Int32)) hx hb dX13_look_33 (by decide) ?_
      refine lv_aload_n hx hb dX13_look_34 rfl (lv_at hl 0 rfl) ?_
      refine b_get hM hW 11 24 hc rfl rfl (by decide) wi_X13 (wgm fk_RX13_125) (x := .ref (a + 16)) rfl dX13_look_35 ?_
      refine lv_bipush (v := (48 : Int32)) hx hb dX13_look_38 (by decide) ?_
      refine b_iald (n := 1518) hM hW 11 24 hc (by decide) rfl rfl rfl rfl (by decide) dX13_look_40 ?_
      refine lv_imul hx hb dX13_look_41 ?_
      refine lv_iadd hx hb dX13_look_42 ?_
      refine lv_iload_n hx hb dX13_look_43 rfl (lv_at hl 1 rfl) ?_
      obtain ⟨h5, hf⟩ := ck_elim hf
      refine b_iast (n := 1518) hM hW 11 24 hc (by decide) rfl rfl rfl rfl h5 dX13_look_44 (fun v6 ev6 hc H locs hW => ?_)
      have hf := nm_at ev6 hf
      refine lv_aload_n hx hb dX13_look_45 rfl (lv_at hl 0 rfl) ?_
      refine b_get hM hW 11 24 hc rfl rfl (by decide) wi_X13 (wgm fk_RX13_125) (x := .ref (a + 16)) rfl dX13_look_46 ?_
      refine lv_bipush (v := (49 : Int32)) hx hb dX13_look_49 (by decide) ?_
      refine lv_iconst (v := (2 : Int32)) hx hb dX13_look_51 (by decide) ?_
      refine lv_aload_n hx hb dX13_look_52 rfl (lv_at hl 0 rfl) ?_
      refine b_get hM hW 11 24 hc rfl rfl (by decide) wi_X13 (wgm fk_RX13_125) (x := .ref (a + 16)) rfl dX13_look_53 ?_
      refine lv_bipush (v := (48 : Int32)) hx hb dX13_look_56 (by decide) ?_
      refine b_iald (n := 1518) hM hW 11 24 hc (by decide) rfl rfl rfl rfl (by decide) dX13_look_58 ?_
      refine lv_imul hx hb dX13_look_59 ?_
      refine lv_iadd hx hb dX13_look_60 ?_
      refine lv_iconst (v := (1 : Int32)) hx hb dX13_look_61 (by decide) ?_
      refine lv_iadd hx hb dX13_look_62 ?_
      refine lv_iload_n hx hb dX13_look_63 rfl (lv_at hl 2 rfl) ?_
      refine lv_if_eq (tgt := 71) hx hb dX13_look_64 (by decide) (fun c7 => ?_) (fun c7 => ?_)
      · have hf := if_t c7 hf
        refine lv_iconst (v := (0 : Int32)) hx hb dX13_look_71 (by decide) ?_
        exact t_X13_look_72 (fu := fu) hM hml hr hlk hc0 hf hc _ _ hW _ (lv_sub hl [0] rfl)
      · have hf := if_f c7 hf
        refine lv_iconst (v := (1 : Int32)) hx hb dX13_look_67 (by decide) ?_
        refine lv_goto (tgt := 72) hx hb dX13_look_68 (by decide) ?_
        exact t_X13_look_72 (fu := fu) hM hml hr hlk hc0 hf hc _ _ hW _ (lv_sub hl [0] rfl)
    · have hf := if_t c4 hf
      exact t_X13_look_25 (fu := fu) hM hml hr hlk hc0 hf hc _ _ hW _ (lv_sub hl [] rfl)
noncomputable def f_X13_look (fu : Nat) (v : GV) (x1 : Int32) (x2 : Int32) : Option (Int32 × GV) := f_X13_look_0 fu v x1 x2
set_option maxHeartbeats 4000000 in
set_option maxRecDepth 100000 in
theorem c_X13_look (l : Launch) (G : GG) (fu : Nat) (S : ST) (a : Nat) (v : GV) (x1 : Int32) (x2 : Int32) {z : Int32} {w : GV} (hc : gC v = 12) (hf : f_X13_look fu v x1 x2 = some (z, w)) : Ct l yX13_look w_X13_look RM_X13_look G (st S a v) [.ref a, .int x1, .int x2] (some (.int z)) (st S a w) 0 0 := by
  refine Met.ofW (cc := cX13_look) (maxL := 3) (ret := (some .boolean)) (by decide) rfl ?_
  intro p e s m args below meth c s₁ B hml hv
  obtain ⟨rfl, hB, hK, hz⟩ := hv
  have hM : MC G p s m _ c cX13_look w_X13_look RX13 := ⟨B.exec, B.bytes, findClass_of_methodNamed B.named, atoms_spec (ws := w_X13_look) B.pre, hK, hz⟩
  have hW : WB G (st S a v) s s.heap [] := ⟨hB, va_S.rf⟩
  have hl := lv_entry ([.ref a, .int x1, .int x2]) (n := 3) (Nat.le_of_ble_eq_true rfl)
  rw [lg_entry_eq]
  generalize (lg_sl ([.ref a, .int x1, .int x2]) ++ List.replicate (3 - (lg_sl ([.ref a, .int x1, .int x2])).length) Slot.unset).toArray = ls at hl ⊢
  have hl : lv_has ls 3 [(0, .ref a), (1, .int x1), (2, .int x2)] := hl
  exact t_X13_look_0 hM hml B.returns B.notSynchronized hc hf hc _ _ hW _ (lv_sub hl [0, 1, 2] rfl)
abbrev w_X13_fitting : List Cond := Cond.code yX13_fitting cX13_fitting 5 (some .int) :: wsL_law0
abbrev RM_X13_fitting : Room := { frames := 0, cells := 0, slots := 0, locals := 0 }
noncomputable def f_X13_fitting_117 (fu : Nat) (k4 : Int32 → Int32 → Option (Int32)) (v : GV) (x2 : Int32) (t0 : Int32) (t1 : Int32) : Option (Int32) :=
  nm ((t0 ||| t1)) fun y1 =>
  nm (x2 + (1 : Int32)) fun y2 =>
  k4 y1 y2
set_option maxHeartbeats 4000000 in
set_option maxRecDepth 100000 in
theorem t_X13_fitting_117 {G : GG} {p : Program} {l : Launch} {e : Env} {s : State} {m : MethodId} {args : Array Value} {below : List Frame} {meth : Method} {c : Code} {S : ST} {fu : Nat} {z : Int32} {a : Nat} {v : GV} {k4 : Int32 → Int32 → Option (Int32)} {x2 : Int32} {t0 : Int32} {t1 : Int32} (hM : MC G p s m args c cX13_fitting w_X13_fitting RX13) (hml : c.maxLocals = 5) (hr : meth.sig.returnType = (some .int)) (hlk : meth.locks = false) (hc0 : gC v = 12) (hk4 : ∀ (x1 : Int32) (x2 : Int32), k4 x1 x2 = some z → ∀ (H : Heap) (locs : List Loc), WB G (st S a v) s H locs → ∀ (ls : Array Slot), lv_has ls 5 [(0, .ref a), (1, .int x1), (2, .int x2)] → W p l e RM_X13_fitting s m args below meth c H locs 0 0 (QR G below args s (some (.int z)) (st S a v) (st S a v)) (F0 m 4 ls [])) (hf : f_X13_fitting_117 fu k4 v x2 t0 t1 = some z) : ∀ (H : Heap) (locs : List Loc), WB G (st S a v) s H locs → ∀ (ls : Array Slot), lv_has ls 5 [(0, .ref a), (2, .int x2)] → W p l e RM_X13_fitting s m args below meth c H locs 0 0 (QR G below args s (some (.int z)) (st S a v) (st S a v)) (F0 m 117 ls [.int t1, .int t0]) := by
  intro H locs hW ls hl
  have hx := hM.1
  have hb := hM.2.1
  have hc := hc0
  refine lv_ior hx hb dX13_fitting_117 ?_
  refine lv_topi (fun y1 ey1 => ?_)
  have hf := nm_at ey1 hf
  refine lv_istore_n (lv' := [(1, .int y1), (0, .ref a), (2, .int x2)]) hx hb dX13_fitting_118 rfl hl (by decide) rfl (fun ls hl => ?_)
  obtain ⟨y2, ey2⟩ : ∃ y : Int32, y = x2 + (1 : Int32) := ⟨_, rfl⟩
  have hf := nm_at ey2 hf
  refine lv_iinc (v := y2) (lv' := [(2, .int y2), (1, .int y1), (0, .ref a)]) hx hb dX13_fitting_119 hl (k := 2) rfl (by rw [ey2]; rfl) (by decide) rfl (fun ls hl => ?_)
  refine lv_goto (tgt := 4) hx hb dX13_fitting_122 (by decide) ?_
  exact hk4 _ _ hf _ _ hW _ (lv_sub hl [2, 1, 0] rfl)
noncomputable def f_X13_fitting_98 (fu : Nat) (k4 : Int32 → Int32 → Option (Int32)) (k37 : Int32 → Int32 → Option (Int32)) (v : GV) (x1 : Int32) (x2 : Int32) (x4 : Int32) (t0 : Int32) : Option (Int32) :=
  nm (x4 + (1 : Int32)) fun y1 =>
  k37 t0 y1
set_option maxHeartbeats 4000000 in
set_option maxRecDepth 100000 in
theorem t_X13_fitting_98 {G : GG} {p : Program} {l : Launch} {e : Env} {s : State} {m : MethodId} {args : Array Value} {below : List Frame} {meth : Method} {c : Code} {S : ST} {fu : Nat} {z : Int32} {a : Nat} {v : GV} {k4 : Int32 → Int32 → Option (Int32)} {k37 : Int32 → Int32 → Option (Int32)} {x1 : Int32} {x2 : Int32} {x4 : Int32} {t0 : Int32} (hM : MC G p s m args c cX13_fitting w_X13_fitting RX13) (hml : c.maxLocals = 5) (hr : meth.sig.returnType = (some .int)) (hlk : meth.locks = false) (hc0 : gC v = 12) (hk4 : ∀ (x1 : Int32) (x2 : Int32), k4 x1 x2 = some z → ∀ (H : Heap) (locs : List Loc), WB G (st S a v) s H locs → ∀ (ls : Array Slot), lv_has ls 5 [(0, .ref a), (1, .int x1), (2, .int x2)] → W p l e RM_X13_fitting s m args below meth c H locs 0 0 (QR G below args s (some (.int z)) (st S a v) (st S a v)) (F0 m 4 ls [])) (hk37 : ∀ (x3 : Int32) (x4 : Int32), k37 x3 x4 = some z → ∀ (H : Heap) (locs : List Loc), WB G (st S a v) s H locs → ∀ (ls : Array Slot), lv_has ls 5 [(0, .ref a), (1, .int x1), (2, .int x2), (3, .int x3), (4, .int x4)] → W p l e RM_X13_fitting s m args below meth c H locs 0 0 (QR G below args s (some (.int z)) (st S a v) (st S a v)) (F0 m 37 ls [])) (hf : f_X13_fitting_98 fu k4 k37 v x1 x2 x4 t0 = some z) : ∀ (H : Heap) (locs : List Loc), WB G (st S a v) s H locs → ∀ (ls : Array Slot), lv_has ls 5 [(0, .ref a), (1, .int x1), (2, .int x2), (4, .int x4)] → W p l e RM_X13_fitting s m args below meth c H locs 0 0 (QR G below args s (some (.int z)) (st S a v) (st S a v)) (F0 m 98 ls [.int t0]) := by
  intro H locs hW ls hl
  have hx := hM.1
  have hb := hM.2.1
  have hc := hc0
  refine lv_istore_n (lv' := [(3, .int t0), (0, .ref a), (1, .int x1), (2, .int x2), (4, .int x4)]) hx hb dX13_fitting_98 rfl hl (by decide) rfl (fun ls hl => ?_)
  obtain ⟨y1, ey1⟩ : ∃ y : Int32, y = x4 + (1 : Int32) := ⟨_, rfl⟩
  have hf := nm_at ey1 hf
  refine lv_iinc (v := y1) (lv' := [(4, .int y1), (3, .int t0), (0, .ref a), (1, .int x1), (2, .int x2)]) hx hb dX13_fitting_99 hl (k := 4) rfl (by rw [ey1]; rfl) (by decide) rfl (fun ls hl => ?_)
  refine lv_goto (tgt := 37) hx hb dX13_fitting_102 (by decide) ?_
  exact hk37 _ _ hf _ _ hW _ (lv_sub hl [2, 3, 4, 1, 0] rfl)
noncomputable def f_X13_fitting_97 (fu : Nat) (k4 : Int32 → Int32 → Option (Int32)) (k37 : Int32 → Int32 → Option (Int32)) (v : GV) (x1 : Int32) (x2 : Int32) (x4 : Int32) : Option (Int32) :=
  f_X13_fitting_98 fu k4 k37 v x1 x2 x4 (0 : Int32)
set_option maxHeartbeats 4000000 in
set_option maxRecDepth 100000 in
theorem t_X13_fitting_97 {G : GG} {p : Program} {l : Launch} {e : Env} {s : State} {m : MethodId} {args : Array Value} {below : List Frame} {meth : Method} {c : Code} {S : ST} {fu : Nat} {z : Int32} {a : Nat} {v : GV} {k4 : Int32 → Int32 → Option (Int32)} {k37 : Int32 → Int32 → Option (Int32)} {x1 : Int32} {x2 : Int32} {x4 : Int32} (hM : MC G p s m args c cX13_fitting w_X13_fitting RX13) (hml : c.maxLocals = 5) (hr : meth.sig.returnType = (some .int)) (hlk : meth.locks = false) (hc0 : gC v = 12) (hk4 : ∀ (x1 : Int32) (x2 : Int32), k4 x1 x2 = some z → ∀ (H : Heap) (locs : List Loc), WB G (st S a v) s H locs → ∀ (ls : Array Slot), lv_has ls 5 [(0, .ref a), (1, .int x1), (2, .int x2)] → W p l e RM_X13_fitting s m args below meth c H locs 0 0 (QR G below args s (some (.int z)) (st S a v) (st S a v)) (F0 m 4 ls [])) (hk37 : ∀ (x3 : Int32) (x4 : Int32), k37 x3 x4 = some z → ∀ (H : Heap) (locs : List Loc), WB G (st S a v) s H locs → ∀ (ls : Array Slot), lv_has ls 5 [(0, .ref a), (1, .int x1), (2, .int x2), (3, .int x3), (4, .int x4)] → W p l e RM_X13_fitting s m args below meth c H locs 0 0 (QR G below args s (some (.int z)) (st S a v) (st S a v)) (F0 m 37 ls [])) (hf : f_X13_fitting_97 fu k4 k37 v x1 x2 x4 = some z) : ∀ (H : Heap) (locs : List Loc), WB G (st S a v) s H locs → ∀ (ls : Array Slot), lv_has ls 5 [(0, .ref a), (1, .int x1), (2, .int x2), (4, .int x4)] → W p l e RM_X13_fitting s m args below meth c H locs 0 0 (QR G below args s (some (.int z)) (st S a v) (st S a v)) (F0 m 97 ls []) := by
  intro H locs hW ls hl
  have hx := hM.1
  have hb := hM.2.1
  have hc := hc0
  refine lv_iconst (v := (0 : Int32)) hx hb dX13_fitting_97 (by decide) ?_
  exact t_X13_fitting_98 (fu := fu) hM hml hr hlk hc0 hk4 hk37 hf _ _ hW _ (lv_sub hl [0, 1, 2, 3] rfl)
noncomputable def f_X13_fitting_37s (fu : Nat) (k4 : Int32 → Int32 → Option (Int32)) (k37 : Int32 → Int32 → Option (Int32)) (v : GV) (x1 : Int32) (x2 : Int32) (x3 : Int32) (x4 : Int32) : Option (Int32) :=
  if (gA v 24 (48 : Int32).toNatClampNeg) ≤ x4 then
    (if x3 = 0 then
      (f_X13_fitting_117 fu k4 v x2 x1 (0 : Int32))
    else
      (f_X13_fitting_117 fu k4 v x2 x1 ((1 : Int32) <<< (x2 &&& 31))))
  else
    (if x3 = 0 then
      (f_X13_fitting_97 fu k4 k37 v x1 x2 x4)
    else
      (nm (((3 : Int32) + x2)) fun y4 =>
      ck (inb y4 1518) <|
      nm (((49 : Int32) + ((2 : Int32) * x4))) fun y6 =>
      ck (inb y6 1518) <|
      nm ((((49 : Int32) + ((2 : Int32) * x4)) + (1 : Int32))) fun y8 =>
      ck (inb y8 1518) <|
      if (((gA v 24 y4.toNatClampNeg) >>> ((gA v 24 y6.toNatClampNeg) &&& 31)) &&& (1 : Int32)) = (gA v 24 y8.toNatClampNeg) then
        (f_X13_fitting_98 fu k4 k37 v x1 x2 x4 (1 : Int32))
      else
        (f_X13_fitting_97 fu k4 k37 v x1 x2 x4)))
noncomputable def f_X13_fitting_37 (fu n : Nat) (k4 : Int32 → Int32 → Option (Int32)) (v : GV) (x1 : Int32) (x2 : Int32) : Int32 → Int32 → Option (Int32) :=
  lq_2 (fun k37 => f_X13_fitting_37s fu k4 k37 v x1 x2) n
set_option maxHeartbeats 4000000 in
set_option maxRecDepth 100000 in
theorem t_X13_fitting_37s {G : GG} {p : Program} {l : Launch} {e : Env} {s : State} {m : MethodId} {args : Array Value} {below : List Frame} {meth : Method} {c : Code} {S : ST} {fu : Nat} {z : Int32} {a : Nat} {v : GV} {k4 : Int32 → Int32 → Option (Int32)} (hM : MC G p s m args c cX13_fitting w_X13_fitting RX13) (hml : c.maxLocals = 5) (hr : meth.sig.returnType = (some .int)) (hlk : meth.locks = false) (hc0 : gC v = 12) {k37 : Int32 → Int32 → Option (Int32)} {x1 : Int32} {x2 : Int32} (hk4 : ∀ (x1 : Int32) (x2 : Int32), k4 x1 x2 = some z → ∀ (H : Heap) (locs : List Loc), WB G (st S a v) s H locs → ∀ (ls : Array Slot), lv_has ls 5 [(0, .ref a), (1, .int x1), (2, .int x2)] → W p l e RM_X13_fitting s m args below meth c H locs 0 0 (QR G below args s (some (.int z)) (st S a v) (st S a v)) (F0 m 4 ls [])) (hk37 : ∀ (x3 : Int32) (x4 : Int32), k37 x3 x4 = some z → ∀ (H : Heap) (locs : List Loc), WB G (st S a v) s H locs → ∀ (ls : Array Slot), lv_has ls 5 [(0, .ref a), (1, .int x1), (2, .int x2), (3, .int x3), (4, .int x4)] → W p l e RM_X13_fitting s m args below meth c H locs 0 0 (QR G below args s (some (.int z)) (st S a v) (st S a v)) (F0 m 37 ls [])) : ∀ (x3 : Int32) (x4 : Int32), f_X13_fitting_37s fu k4 k37 v x1 x2 x3 x4 = some z → ∀ (H : Heap) (locs : List Loc), WB G (st S a v) s H locs → ∀ (ls : Array Slot), lv_has ls 5 [(0, .ref a), (1, .int x1), (2, .int x2), (3, .int x3), (4, .int x4)] → W p l e RM_X13_fitting s m args below meth c H locs 0 0 (QR G below args s (some (.int z)) (st S a v) (st S a v)) (F0 m 37 ls []) := by
  intro x3 x4 hf H locs hW ls hl
  have hx := hM.1
  have hb := hM.2.1
  have hc := hc0
  refine lv_iload hx hb dX13_fitting_37 (lv_at hl 4 rfl) ?_
  refine lv_aload_n hx hb dX13_fitting_39 rfl (lv_at hl 0 rfl) ?_
  refine b_get hM hW 11 24 hc rfl rfl (by decide) wi_X13 (wgm fk_RX13_125) (x := .ref (a + 16)) rfl dX13_fitting_40 ?_
  refine lv_bipush (v := (48 : Int32)) hx hb dX13_fitting_43 (by decide) ?_
  refine b_iald (n := 1518) hM hW 11 24 hc (by decide) rfl rfl rfl rfl (by decide) dX13_fitting_45 ?_
  refine lv_icmp_ge (tgt := 105) hx hb dX13_fitting_46 (by decide) (fun c1 => ?_) (fun c1 => ?_)
  · have hf := if_t c1 hf
    refine lv_iload_n hx hb dX13_fitting_105 rfl (lv_at hl 1 rfl) ?_
    refine lv_iload_n hx hb dX13_fitting_106 rfl (lv_at hl 3 rfl) ?_
    refine lv_if_eq (tgt := 116) hx hb dX13_fitting_107 (by decide) (fun c2 => ?_) (fun c2 => ?_)
    · have hf := if_t c2 hf
      refine lv_iconst (v := (0 : Int32)) hx hb dX13_fitting_116 (by decide) ?_
      exact t_X13_fitting_117 (fu := fu) hM hml hr hlk hc0 hk4 hf _ _ hW _ (lv_sub hl [0, 2] rfl)
    · have hf := if_f c2 hf
      refine lv_iconst (v := (1 : Int32)) hx hb dX13_fitting_110 (by decide) ?_
      refine lv_iload_n hx hb dX13_fitting_111 rfl (lv_at hl 2 rfl) ?_
      refine lv_ishl hx hb dX13_fitting_112 ?_
      refine lv_goto (tgt := 117) hx hb dX13_fitting_113 (by decide) ?_
      exact t_X13_fitting_117 (fu := fu) hM hml hr hlk hc0 hk4 hf _ _ hW _ (lv_sub hl [0, 2] rfl)
  · have hf := if_f c1 hf
    refine lv_iload_n hx hb dX13_fitting_49 rfl (lv_at hl 3 rfl) ?_
    refine lv_if_eq (tgt := 97) hx hb dX13_fitting_50 (by decide) (fun c3 => ?_) (fun c3 => ?_)
    · have hf := if_t c3 hf
      exact t_X13_fitting_97 (fu := fu) hM hml hr hlk hc0 hk4 hk37 hf _ _ hW _ (lv_sub hl [0, 1, 2, 4] rfl)
    · have hf := if_f c3 hf
      refine lv_aload_n hx hb dX13_fitting_53 rfl (lv_at hl 0 rfl) ?_
      refine b_get hM hW 11 24 hc rfl rfl (by decide) wi_X13 (wgm fk_RX13_125) (x := .ref (a + 16)) rfl dX13_fitting_54 ?_
      refine lv_iconst (v := (3 : Int32)) hx hb dX13_fitting_57 (by decide) ?_
      refine lv_iload_n hx hb dX13_fitting_58 rfl (lv_at hl 2 rfl) ?_
      refine lv_iadd hx hb dX13_fitting_59 ?_
      refine lv_topi (fun y4 ey4 => ?_)
      have hf := nm_at ey4 hf
      obtain ⟨h5, hf⟩ := ck_elim hf
      refine b_iald (n := 1518) hM hW 11 24 hc (by decide) rfl rfl rfl rfl h5 dX13_fitting_60 ?_
      refine lv_aload_n hx hb dX13_fitting_61 rfl (lv_at hl 0 rfl) ?_
      refine b_get hM hW 11 24 hc rfl rfl (by decide) wi_X13 (wgm fk_RX13_125) (x := .ref (a + 16)) rfl dX13_fitting_62 ?_
      refine lv_bipush (v := (49 : Int32)) hx hb dX13_fitting_65 (by decide) ?_
      refine lv_iconst (v := (2 : Int32)) hx hb dX13_fitting_67 (by decide) ?_
      refine lv_iload hx hb dX13_fitting_68 (lv_at hl 4 rfl) ?_
      refine lv_imul hx hb dX13_fitting_70 ?_
      refine lv_iadd hx hb dX13_fitting_71 ?_
      refine lv_topi (fun y6 ey6 => ?_)
      have hf := nm_at ey6 hf
      obtain ⟨h7, hf⟩ := ck_elim hf
      refine b_iald (n := 1518) hM hW 11 24 hc (by decide) rfl rfl rfl rfl h7 dX13_fitting_72 ?_
      refine lv_ishr hx hb dX13_fitting_73 ?_
      refine lv_iconst (v := (1 : Int32)) hx hb dX13_fitting_74 (by decide) ?_
      refine lv_iand hx hb dX13_fitting_75 ?_
      refine lv_aload_n hx hb dX13_fitting_76 rfl (lv_at hl 0 rfl) ?_
      refine b_get hM hW 11 24 hc rfl rfl (by decide) wi_X13 (wgm fk_RX13_125) (x := .ref (a + 16)) rfl dX13_fitting_77 ?_
      refine lv_bipush (v := (49 : Int32)) hx hb dX13_fitting_80 (by decide) ?_
      refine lv_iconst (v := (2 : Int32)) hx hb dX13_fitting_82 (by decide) ?_
      refine lv_iload hx hb dX13_fitting_83 (lv_at hl 4 rfl) ?_
      refine lv_imul hx hb dX13_fitting_85 ?_
      refine lv_iadd hx hb dX13_fitting_86 ?_
      refine lv_iconst (v := (1 : Int32)) hx hb dX13_fitting_87 (by decide) ?_
      refine lv_iadd hx hb dX13_fitting_88 ?_
      refine lv_topi (fun y8 ey8 => ?_)
      have hf := nm_at ey8 hf
      obtain ⟨h9, hf⟩ := ck_elim hf
      refine b_iald (n := 1518) hM hW 11 24 hc (by decide) rfl rfl rfl rfl h9 dX13_fitting_89 ?_
      refine lv_icmp_ne (tgt := 97) hx hb dX13_fitting_90 (by decide) (fun c10 => ?_) (fun c10 => ?_)
      · have hf := if_f c10 hf
        exact t_X13_fitting_97 (fu := fu) hM hml hr hlk hc0 hk4 hk37 hf _ _ hW _ (lv_sub hl [0, 1, 2, 4] rfl)
      · have hf := if_t c10 hf
        refine lv_iconst (v := (1 : Int32)) hx hb dX13_fitting_93 (by decide) ?_
        refine lv_goto (tgt := 98) hx hb dX13_fitting_94 (by decide) ?_
        exact t_X13_fitting_98 (fu := fu) hM hml hr hlk hc0 hk4 hk37 hf _ _ hW _ (lv_sub hl [0, 1, 2, 4] rfl)
theorem t_X13_fitting_37 {G : GG} {p : Program} {l : Launch} {e : Env} {s : State} {m : MethodId} {args : Array Value} {below : List Frame} {meth : Method} {c : Code} {S : ST} {fu : Nat} {z : Int32} {a : Nat} {v : GV} {k4 : Int32 → Int32 → Option (Int32)} {x1 : Int32} {x2 : Int32} (hM : MC G p s m args c cX13_fitting w_X13_fitting RX13) (hml : c.maxLocals = 5) (hr : meth.sig.returnType = (some .int)) (hlk : meth.locks = false) (hc0 : gC v = 12) (hk4 : ∀ (x1 : Int32) (x2 : Int32), k4 x1 x2 = some z → ∀ (H : Heap) (locs : List Loc), WB G (st S a v) s H locs → ∀ (ls : Array Slot), lv_has ls 5 [(0, .ref a), (1, .int x1), (2, .int x2)] → W p l e RM_X13_fitting s m args below meth c H locs 0 0 (QR G below args s (some (.int z)) (st S a v) (st S a v)) (F0 m 4 ls [])) : ∀ {n : Nat} (x3 : Int32) (x4 : Int32), f_X13_fitting_37 fu n k4 v x1 x2 x3 x4 = some z → ∀ (H : Heap) (locs : List Loc), WB G (st S a v) s H locs → ∀ (ls : Array Slot), lv_has ls 5 [(0, .ref a), (1, .int x1), (2, .int x2), (3, .int x3), (4, .int x4)] → W p l e RM_X13_fitting s m args below meth c H locs 0 0 (QR G below args s (some (.int z)) (st S a v) (st S a v)) (F0 m 37 ls []) := by
  intro n
  induction n with
  | zero => intro x3 x4 hf; cases hf
  | succ n ih => intro x3 x4 hf; exact t_X13_fitting_37s (fu := fu) hM hml hr hlk hc0 hk4 (k37 := f_X13_fitting_37 fu n k4 v x1 x2) ih _ _ hf
noncomputable def f_X13_fitting_33 (fu : Nat) (k4 : Int32 → Int32 → Option (Int32)) (v : GV) (x1 : Int32) (x2 : Int32) (t0 : Int32) : Option (Int32) :=
  f_X13_fitting_37 fu fu k4 v x1 x2 t0 (0 : Int32)
set_option maxHeartbeats 4000000 in
set_option maxRecDepth 100000 in
theorem t_X13_fitting_33 {G : GG} {p : Program} {l : Launch} {e : Env} {s : State} {m : MethodId} {args : Array Value} {below : List Frame} {meth : Method} {c : Code} {S : ST} {fu : Nat} {z : Int32} {a : Nat} {v : GV} {k4 : Int32 → Int32 → Option (Int32)} {x1 : Int32} {x2 : Int32} {t0 : Int32} (hM : MC G p s m args c cX13_fitting w_X13_fitting RX13) (hml : c.maxLocals = 5) (hr : meth.sig.returnType = (some .int)) (hlk : meth.locks = false) (hc0 : gC v = 12) (hk4 : ∀ (x1 : Int32) (x2 : Int32), k4 x1 x2 = some z → ∀ (H : Heap) (locs : List Loc), WB G (st S a v) s H locs → ∀ (ls : Array Slot), lv_has ls 5 [(0, .ref a), (1, .int x1), (2, .int x2)] → W p l e RM_X13_fitting s m args below meth c H locs 0 0 (QR G below args s (some (.int z)) (st S a v) (st S a v)) (F0 m 4 ls [])) (hf : f_X13_fitting_33 fu k4 v x1 x2 t0 = some z) : ∀ (H : Heap) (locs : List Loc), WB G (st S a v) s H locs → ∀ (ls : Array Slot), lv_has ls 5 [(0, .ref a), (1, .int x1), (2, .int x2)] → W p l e RM_X13_fitting s m args below meth c H locs 0 0 (QR G below args s (some (.int z)) (st S a v) (st S a v)) (F0 m 33 ls [.int t0]) := by
  intro H locs hW ls hl
  have hx := hM.1
  have hb := hM.2.1
  have hc := hc0
  refine lv_istore_n (lv' := [(3, .int t0), (0, .ref a), (1, .int x1), (2, .int x2)]) hx hb dX13_fitting_33 rfl hl (by decide) rfl (fun ls hl => ?_)
  refine lv_iconst (v := (0 : Int32)) hx hb dX13_fitting_34 (by decide) ?_
  refine lv_istore (lv' := [(4, .int (0 : Int32)), (3, .int t0), (0, .ref a), (1, .int x1), (2, .int x2)]) hx hb dX13_fitting_35 hl (by decide) rfl (fun ls hl => ?_)
  exact t_X13_fitting_37 (fu := fu) hM hml hr hlk hc0 hk4 _ _ hf _ _ hW _ (lv_sub hl [2, 3, 4, 1, 0] rfl)
noncomputable def f_X13_fitting_4s (fu : Nat)  (k4 : Int32 → Int32 → Option (Int32)) (v : GV) (x1 : Int32) (x2 : Int32) : Option (Int32) :=
  if (gA v 24 (2 : Int32).toNatClampNeg) ≤ x2 then
    (some x1)
  else
    (nm (((11 : Int32) + x2)) fun y2 =>
    ck (inb y2 1518) <|
    if (gA v 24 y2.toNatClampNeg) = (6 : Int32) then
      (f_X13_fitting_33 fu k4 v x1 x2 (0 : Int32))
    else
      (f_X13_fitting_33 fu k4 v x1 x2 (1 : Int32)))
noncomputable def f_X13_fitting_4 (fu n : Nat)  (v : GV) : Int32 → Int32 → Option (Int32) :=
  lq_2 (fun k4 => f_X13_fitting_4s fu  k4 v) n
set_option maxHeartbeats 4000000 in
set_option maxRecDepth 100000 in
theorem t_X13_fitting_4s {G : GG} {p : Program} {l : Launch} {e : Env} {s : State} {m : MethodId} {args : Array Value} {below : List Frame} {meth : Method} {c : Code} {S : ST} {fu : Nat} {z : Int32} {a : Nat} {v : GV}  (hM : MC G p s m args c cX13_fitting w_X13_fitting RX13) (hml : c.maxLocals = 5) (hr : meth.sig.returnType = (some .int)) (hlk : meth.locks = false) (hc0 : gC v = 12) {k4 : Int32 → Int32 → Option (Int32)}  (hk4 : ∀ (x1 : Int32) (x2 : Int32), k4 x1 x2 = some z → ∀ (H : Heap) (locs : List Loc), WB G (st S a v) s H locs → ∀ (ls : Array Slot), lv_has ls 5 [(0, .ref a), (1, .int x1), (2, .int x2)] → W p l e RM_X13_fitting s m args below meth c H locs 0 0 (QR G below args s (some (.int z)) (st S a v) (st S a v)) (F0 m 4 ls [])) : ∀ (x1 : Int32) (x2 : Int32), f_X13_fitting_4s fu  k4 v x1 x2 = some z → ∀ (H : Heap) (locs : List Loc), WB G (st S a v) s H locs → ∀ (ls : Array Slot), lv_has ls 5 [(0, .ref a), (1, .int x1), (2, .int x2)] → W p l e RM_X13_fitting s m args below meth c H locs 0 0 (QR G below args s (some (.int z)) (st S a v) (st S a v)) (F0 m 4 ls []) := by
  intro x1 x2 hf H locs hW ls hl
  have hx := hM.1
  have hb := hM.2.1
  have hc := hc0
  refine lv_iload_n hx hb dX13_fitting_4 rfl (lv_at hl 2 rfl) ?_
  refine lv_aload_n hx hb dX13_fitting_5 rfl (lv_at hl 0 rfl) ?_
  refine b_get hM hW 11 24 hc rfl rfl (by decide) wi_X13 (wgm fk_RX13_125) (x := .ref (a + 16)) rfl dX13_fitting_6 ?_
  refine lv_iconst (v := (2 : Int32)) hx hb dX13_fitting_9 (by decide) ?_
  refine b_iald (n := 1518) hM hW 11 24 hc (by decide) rfl rfl rfl rfl (by decide) dX13_fitting_10 ?_
  refine lv_icmp_ge (tgt := 125) hx hb dX13_fitting_11 (by decide) (fun c1 => ?_) (fun c1 => ?_)
  · have hf := if_t c1 hf
    refine lv_iload_n hx hb dX13_fitting_125 rfl (lv_at hl 1 rfl) ?_
    cases hf
    exact W.iret hx hb hr (b_ret0 hW (fun _ _ => rfl) _) hW.2.2.2 dX13_fitting_126 hlk
  · have hf := if_f c1 hf
    refine lv_aload_n hx hb dX13_fitting_14 rfl (lv_at hl 0 rfl) ?_
    refine b_get hM hW 11 24 hc rfl rfl (by decide) wi_X13 (wgm fk_RX13_125) (x := .ref (a + 16)) rfl dX13_fitting_15 ?_
    refine lv_bipush (v := (11 : Int32)) hx hb dX13_fitting_18 (by decide) ?_
    refine lv_iload_n hx hb dX13_fitting_20 rfl (lv_at hl 2 rfl) ?_
    refine lv_iadd hx hb dX13_fitting_21 ?_
    refine lv_topi (fun y2 ey2 => ?_)
    have hf := nm_at ey2 hf
    obtain ⟨h3, hf⟩ := ck_elim hf
    refine b_iald (n := 1518) hM hW 11 24 hc (by decide) rfl rfl rfl rfl h3 dX13_fitting_22 ?_
    refine lv_bipush (v := (6 : Int32)) hx hb dX13_fitting_23 (by decide) ?_
    refine lv_icmp_eq (tgt := 32) hx hb dX13_fitting_25 (by decide) (fun c4 => ?_) (fun c4 => ?_)
    · have hf := if_t c4 hf
      refine lv_iconst (v := (0 : Int32)) hx hb dX13_fitting_32 (by decide) ?_
      exact t_X13_fitting_33 (fu := fu) hM hml hr hlk hc0 hk4 hf _ _ hW _ (lv_sub hl [0, 1, 2] rfl)
    · have hf := if_f c4 hf
      refine lv_iconst (v := (1 : Int32)) hx hb dX13_fitting_28 (by decide) ?_
      refine lv_goto (tgt := 33) hx hb dX13_fitting_29 (by decide) ?_
      exact t_X13_fitting_33 (fu := fu) hM hml hr hlk hc0 hk4 hf _ _ hW _ (lv_sub hl [0, 1, 2] rfl)
theorem t_X13_fitting_4 {G : GG} {p : Program} {l : Launch} {e : Env} {s : State} {m : MethodId} {args : Array Value} {below : List Frame} {meth : Method} {c : Code} {S : ST} {fu : Nat} {z : Int32} {a : Nat} {v : GV}  (hM : MC G p s m args c cX13_fitting w_X13_fitting RX13) (hml : c.maxLocals = 5) (hr : meth.sig.returnType = (some .int)) (hlk : meth.locks = false) (hc0 : gC v = 12)  : ∀ {n : Nat} (x1 : Int32) (x2 : Int32), f_X13_fitting_4 fu n  v x1 x2 = some z → ∀ (H : Heap) (locs : List Loc), WB G (st S a v) s H locs → ∀ (ls : Array Slot), lv_has ls 5 [(0, .ref a), (1, .int x1), (2, .int x2)] → W p l e RM_X13_fitting s m args below meth c H locs 0 0 (QR G below args s (some (.int z)) (st S a v) (st S a v)) (F0 m 4 ls []) := by
  intro n
  induction n with
  | zero => intro x1 x2 hf; cases hf
  | succ n ih => intro x1 x2 hf; exact t_X13_fitting_4s (fu := fu) hM hml hr hlk hc0  (k4 := f_X13_fitting_4 fu n  v) ih _ _ hf
noncomputable def f_X13_fitting_0 (fu : Nat)  (v : GV) : Option (Int32) :=
  f_X13_fitting_4 fu fu v (0 : Int32) (0 : Int32)
set_option maxHeartbeats 4000000 in
set_option maxRecDepth 100000 in
theorem t_X13_fitting_0 {G : GG} {p : Program} {l : Launch} {e : Env} {s : State} {m : MethodId} {args : Array Value} {below : List Frame} {meth : Method} {c : Code} {S : ST} {fu : Nat} {z : Int32} {a : Nat} {v : GV}  (hM : MC G p s m args c cX13_fitting w_X13_fitting RX13) (hml : c.maxLocals = 5) (hr : meth.sig.returnType = (some .int)) (hlk : meth.locks = false) (hc0 : gC v = 12)  (hf : f_X13_fitting_0 fu  v  = some z) : ∀ (H : Heap) (locs : List Loc), WB G (st S a v) s H locs → ∀ (ls : Array Slot), lv_has ls 5 [(0, .ref a)] → W p l e RM_X13_fitting s m args below meth c H locs 0 0 (QR G below args s (some (.int z)) (st S a v) (st S a v)) (F0 m 0 ls []) := by
  intro H locs hW ls hl
  have hx := hM.1
  have hb := hM.2.1
  have hc := hc0
  refine lv_iconst (v := (0 : Int32)) hx hb dX13_fitting_0 (by decide) ?_
  refine lv_istore_n (lv' := [(1, .int (0 : Int32)), (0, .ref a)]) hx hb dX13_fitting_1 rfl hl (by decide) rfl (fun ls hl => ?_)
  refine lv_iconst (v := (0 : Int32)) hx hb dX13_fitting_2 (by decide) ?_
  refine lv_istore_n (lv' := [(2, .int (0 : Int32)), (1, .int (0 : Int32)), (0, .ref a)]) hx hb dX13_fitting_3 rfl hl (by decide) rfl (fun ls hl => ?_)
  exact t_X13_fitting_4 (fu := fu) hM hml hr hlk hc0 _ _ hf _ _ hW _ (lv_sub hl [2, 1, 0] rfl)
noncomputable def f_X13_fitting (fu : Nat) (v : GV) : Option (Int32) := f_X13_fitting_0 fu v
set_option maxHeartbeats 4000000 in
set_option maxRecDepth 100000 in
theorem c_X13_fitting (l : Launch) (G : GG) (fu : Nat) (S : ST) (a : Nat) (v : GV) {z : Int32} (hc : gC v = 12) (hf : f_X13_fitting fu v = some z) : Ct l yX13_fitting w_X13_fitting RM_X13_fitting G (st S a v) [.ref a] (some (.int z)) (st S a v) 0 0 := by
  refine Met.ofW (cc := cX13_fitting) (maxL := 5) (ret := (some .int)) (by decide) rfl ?_
  intro p e s m args below meth c s₁ B hml hv
  obtain ⟨rfl, hB, hK, hz⟩ := hv
  have hM : MC G p s m _ c cX13_fitting w_X13_fitting RX13 := ⟨B.exec, B.bytes, findClass_of_methodNamed B.named, atoms_spec (ws := w_X13_fitting) B.pre, hK, hz⟩
  have hW : WB G (st S a v) s s.heap [] := ⟨hB, va_S.rf⟩
  have hl := lv_entry ([.ref a]) (n := 5) (Nat.le_of_ble_eq_true rfl)
  rw [lg_entry_eq]
  generalize (lg_sl ([.ref a]) ++ List.replicate (5 - (lg_sl ([.ref a])).length) Slot.unset).toArray = ls at hl ⊢
  have hl : lv_has ls 5 [(0, .ref a)] := hl
  exact t_X13_fitting_0 hM hml B.returns B.notSynchronized hc hf _ _ hW _ (lv_sub hl [0] rfl)
abbrev w_X13_fits : List Cond := Cond.code yX13_fits cX13_fits 1 (some .int) :: wsL_law0
abbrev RM_X13_fits : Room := { frames := 1, cells := 0, slots := 0, locals := 24 }
noncomputable def f_X13_fits_0 (fu : Nat)  (v : GV) : Option (Int32 × GV) :=
  nm (sI v 0 (0 : Int32)) fun v1 =>
  bd (f_X13_fitting fu v1) fun r2 =>
  some (r2, v1)
set_option maxHeartbeats 4000000 in
set_option maxRecDepth 100000 in
theorem t_X13_fits_0 {G : GG} {p : Program} {l : Launch} {e : Env} {s : State} {m : MethodId} {args : Array Value} {below : List Frame} {meth : Method} {c : Code} {S : ST} {fu : Nat} {z : Int32 × GV} {a : Nat} {v0 : GV}  {v : GV} (hM : MC G p s m args c cX13_fits w_X13_fits RX13) (hml : c.maxLocals = 1) (hr : meth.sig.returnType = (some .int)) (hlk : meth.locks = false) (hc0 : gC v0 = 12)  (hf : f_X13_fits_0 fu  v  = some z) : gC v = 12 → ∀ (H : Heap) (locs : List Loc), WB G (st S a v) s H locs → ∀ (ls : Array Slot), lv_has ls 1 [(0, .ref a)] → W p l e RM_X13_fits s m args below meth c H locs 0 0 (QR G below args s (some (.int z.1)) (st S a v0) (st S a z.2)) (F0 m 0 ls []) := by
  intro hc H locs hW ls hl
  have hx := hM.1
  have hb := hM.2.1
  refine lv_aload_n hx hb dX13_fits_0 rfl (lv_at hl 0 rfl) ?_
  refine lv_iconst (v := (0 : Int32)) hx hb dX13_fits_1 (by decide) ?_
  refine b_putI hM hW 11 0 hc rfl rfl (by decide) wi_X13 tyX13 tyX13_ok nmX13 (wgm fk_RX13_1) rfl rfl rfl dX13_fits_2 (fun v1 ev1 hc H locs hW => ?_)
  have hf := nm_at ev1 hf
  refine lv_aload_n hx hb dX13_fits_5 rfl (lv_at hl 0 rfl) ?_
  obtain ⟨r2, hr2, hf⟩ := bd_elim hf
  refine b_callVi [] [] hM hml hl.1 hW hc rfl (by decide) (c_X13_fitting l G fu _ a v1 hc hr2) (cwV 0 hM.2.2.2.1 (gV mk_RX13_424 im_X13_fitting se_X13_fitting it_RX13 cd_X13_fitting) rfl rfl rfl (by decide +kernel) ⟨Nat.le_of_ble_eq_true rfl, Nat.le_of_ble_eq_true rfl⟩) rfl rfl (Nat.le_of_ble_eq_true rfl) ⟨Nat.zero_le _, Nat.zero_le _⟩ dX13_fits_6 (fun H locs hW hk => ?_)
  cases hf
  exact W.iret hx hb hr (b_ret0 hW (keep_s2 hc0 hc) _) hW.2.2.2 dX13_fits_9 hlk
noncomputable def f_X13_fits (fu : Nat) (v : GV) : Option (Int32 × GV) := f_X13_fits_0 fu v
set_option maxHeartbeats 4000000 in
set_option maxRecDepth 100000 in
theorem c_X13_fits (l : Launch) (G : GG) (fu : Nat) (S : ST) (a : Nat) (v : GV) {z : Int32} {w : GV} (hc : gC v = 12) (hf : f_X13_fits fu v = some (z, w)) : Ct l yX13_fits w_X13_fits RM_X13_fits G (st S a v) [.ref a] (some (.int z)) (st S a w) 0 0 := by
  refine Met.ofW (cc := cX13_fits) (maxL := 1) (ret := (some .int)) (by decide) rfl ?_
  intro p e s m args below meth c s₁ B hml hv
  obtain ⟨rfl, hB, hK, hz⟩ := hv
  have hM : MC G p s m _ c cX13_fits w_X13_fits RX13 := ⟨B.exec, B.bytes, findClass_of_methodNamed B.named, atoms_spec (ws := w_X13_fits) B.pre, hK, hz⟩
  have hW : WB G (st S a v) s s.heap [] := ⟨hB, va_S.rf⟩
  have hl := lv_entry ([.ref a]) (n := 1) (Nat.le_of_ble_eq_true rfl)
  rw [lg_entry_eq]
  generalize (lg_sl ([.ref a]) ++ List.replicate (1 - (lg_sl ([.ref a])).length) Slot.unset).toArray = ls at hl ⊢
  have hl : lv_has ls 1 [(0, .ref a)] := hl
  exact t_X13_fits_0 hM hml B.returns B.notSynchronized hc hf hc _ _ hW _ (lv_sub hl [0] rfl)
