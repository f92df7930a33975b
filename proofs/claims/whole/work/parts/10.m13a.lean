abbrev w_X13_thrown : List Cond := Cond.code yX13_thrown cX13_thrown 1 (some .int) :: wsL_law0
abbrev RM_X13_thrown : Room := { frames := 0, cells := 0, slots := 0, locals := 0 }
noncomputable def f_X13_thrown_0 (fu : Nat)  (v : GV) : Option (Int32) :=
  some (gI v 0)
set_option maxHeartbeats 4000000 in
set_option maxRecDepth 100000 in
theorem t_X13_thrown_0 {G : GG} {p : Program} {l : Launch} {e : Env} {s : State} {m : MethodId} {args : Array Value} {below : List Frame} {meth : Method} {c : Code} {S : ST} {fu : Nat} {z : Int32} {a : Nat} {v : GV}  (hM : MC G p s m args c cX13_thrown w_X13_thrown RX13) (hml : c.maxLocals = 1) (hr : meth.sig.returnType = (some .int)) (hlk : meth.locks = false) (hc0 : gC v = 12)  (hf : f_X13_thrown_0 fu  v  = some z) : ∀ (H : Heap) (locs : List Loc), WB G (st S a v) s H locs → ∀ (ls : Array Slot), lv_has ls 1 [(0, .ref a)] → W p l e RM_X13_thrown s m args below meth c H locs 0 0 (QR G below args s (some (.int z)) (st S a v) (st S a v)) (F0 m 0 ls []) := by
  intro H locs hW ls hl
  have hx := hM.1
  have hb := hM.2.1
  have hc := hc0
  refine lv_aload_n hx hb dX13_thrown_0 rfl (lv_at hl 0 rfl) ?_
  refine b_get hM hW 11 0 hc rfl rfl (by decide) wi_X13 (wgm fk_RX13_1) (x := .int (gI v 0)) rfl dX13_thrown_1 ?_
  cases hf
  exact W.iret hx hb hr (b_ret0 hW (fun _ _ => rfl) _) hW.2.2.2 dX13_thrown_4 hlk
noncomputable def f_X13_thrown (fu : Nat) (v : GV) : Option (Int32) := f_X13_thrown_0 fu v
set_option maxHeartbeats 4000000 in
set_option maxRecDepth 100000 in
theorem c_X13_thrown (l : Launch) (G : GG) (fu : Nat) (S : ST) (a : Nat) (v : GV) {z : Int32} (hc : gC v = 12) (hf : f_X13_thrown fu v = some z) : Ct l yX13_thrown w_X13_thrown RM_X13_thrown G (st S a v) [.ref a] (some (.int z)) (st S a v) 0 0 := by
  refine Met.ofW (cc := cX13_thrown) (maxL := 1) (ret := (some .int)) (by decide) rfl ?_
  intro p e s m args below meth c s₁ B hml hv
  obtain ⟨rfl, hB, hK, hz⟩ := hv
  have hM : MC G p s m _ c cX13_thrown w_X13_thrown RX13 := ⟨B.exec, B.bytes, findClass_of_methodNamed B.named, atoms_spec (ws := w_X13_thrown) B.pre, hK, hz⟩
  have hW : WB G (st S a v) s s.heap [] := ⟨hB, va_S.rf⟩
  have hl := lv_entry ([.ref a]) (n := 1) (Nat.le_of_ble_eq_true rfl)
  rw [lg_entry_eq]
  generalize (lg_sl ([.ref a]) ++ List.replicate (1 - (lg_sl ([.ref a])).length) Slot.unset).toArray = ls at hl ⊢
  have hl : lv_has ls 1 [(0, .ref a)] := hl
  exact t_X13_thrown_0 hM hml B.returns B.notSynchronized hc hf _ _ hW _ (lv_sub hl [0] rfl)
abbrev w_X13_lay : List Cond := Cond.code yX13_lay cX13_lay 5 none :: wsL_law0
abbrev RM_X13_lay : Room := { frames := 0, cells := 0, slots := 0, locals := 0 }
noncomputable def f_X13_lay_69 (fu : Nat) (k3 : Int32 → GV → Option (GV)) (v : GV) (x1 : Int64) (x3 : Int32) : Option (GV) :=
  nm (x3 + (-8 : Int32)) fun y1 =>
  k3 y1 v
set_option maxHeartbeats 4000000 in
set_option maxRecDepth 100000 in
theorem t_X13_lay_69 {G : GG} {p : Program} {l : Launch} {e : Env} {s : State} {m : MethodId} {args : Array Value} {below : List Frame} {meth : Method} {c : Code} {S : ST} {fu : Nat} {z : GV} {a : Nat} {v0 : GV} {k3 : Int32 → GV → Option (GV)} {v : GV} {x1 : Int64} {x3 : Int32} (hM : MC G p s m args c cX13_lay w_X13_lay RX13) (hml : c.maxLocals = 5) (hr : meth.sig.returnType = none) (hlk : meth.locks = false) (hc0 : gC v0 = 12) (hk3 : ∀ (x3 : Int32) (v : GV), k3 x3 v = some z → gC v = 12 → ∀ (H : Heap) (locs : List Loc), WB G (st S a v) s H locs → ∀ (ls : Array Slot), lv_has ls 5 [(0, .ref a), (1, .long x1), (3, .int x3)] → W p l e RM_X13_lay s m args below meth c H locs 0 0 (QR G below args s none (st S a v0) (st S a z)) (F0 m 3 ls [])) (hf : f_X13_lay_69 fu k3 v x1 x3 = some z) : gC v = 12 → ∀ (H : Heap) (locs : List Loc), WB G (st S a v) s H locs → ∀ (ls : Array Slot), lv_has ls 5 [(0, .ref a), (1, .long x1), (3, .int x3)] → W p l e RM_X13_lay s m args below meth c H locs 0 0 (QR G below args s none (st S a v0) (st S a z)) (F0 m 69 ls []) := by
  intro hc H locs hW ls hl
  have hx := hM.1
  have hb := hM.2.1
  obtain ⟨y1, ey1⟩ : ∃ y : Int32, y = x3 + (-8 : Int32) := ⟨_, rfl⟩
  have hf := nm_at ey1 hf
  refine lv_iinc (v := y1) (lv' := [(3, .int y1), (0, .ref a), (1, .long x1)]) hx hb dX13_lay_69 hl (k := 2) rfl (by rw [ey1]; rfl) (by decide) rfl (fun ls hl => ?_)
  refine lv_goto (tgt := 3) hx hb dX13_lay_72 (by decide) ?_
  exact hk3 _ _ hf hc _ _ hW _ (lv_sub hl [1, 2, 0] rfl)
noncomputable def f_X13_lay_38 (fu : Nat) (k3 : Int32 → GV → Option (GV)) (v : GV) (x1 : Int64) (x3 : Int32) (x4 : Int32) : Option (GV) :=
  if (1000 : Int32) ≤ (gI v 2) then
    (f_X13_lay_69 fu k3 v x1 x3)
  else
    (ck (inb (gI v 2) 1000) <|
    nm (sA v 1 (gI v 2).toNatClampNeg x4) fun v3 =>
    nm (sI v3 2 ((gI v3 2) + (1 : Int32))) fun v4 =>
    f_X13_lay_69 fu k3 v4 x1 x3)
set_option maxHeartbeats 4000000 in
set_option maxRecDepth 100000 in
theorem t_X13_lay_38 {G : GG} {p : Program} {l : Launch} {e : Env} {s : State} {m : MethodId} {args : Array Value} {below : List Frame} {meth : Method} {c : Code} {S : ST} {fu : Nat} {z : GV} {a : Nat} {v0 : GV} {k3 : Int32 → GV → Option (GV)} {v : GV} {x1 : Int64} {x3 : Int32} {x4 : Int32} (hM : MC G p s m args c cX13_lay w_X13_lay RX13) (hml : c.maxLocals = 5) (hr : meth.sig.returnType = none) (hlk : meth.locks = false) (hc0 : gC v0 = 12) (hk3 : ∀ (x3 : Int32) (v : GV), k3 x3 v = some z → gC v = 12 → ∀ (H : Heap) (locs : List Loc), WB G (st S a v) s H locs → ∀ (ls : Array Slot), lv_has ls 5 [(0, .ref a), (1, .long x1), (3, .int x3)] → W p l e RM_X13_lay s m args below meth c H locs 0 0 (QR G below args s none (st S a v0) (st S a z)) (F0 m 3 ls [])) (hf : f_X13_lay_38 fu k3 v x1 x3 x4 = some z) : gC v = 12 → ∀ (H : Heap) (locs : List Loc), WB G (st S a v) s H locs → ∀ (ls : Array Slot), lv_has ls 5 [(0, .ref a), (1, .long x1), (3, .int x3), (4, .int x4)] → W p l e RM_X13_lay s m args below meth c H locs 0 0 (QR G below args s none (st S a v0) (st S a z)) (F0 m 38 ls []) := by
  intro hc H locs hW ls hl
  have hx := hM.1
  have hb := hM.2.1
  refine lv_aload_n hx hb dX13_lay_38 rfl (lv_at hl 0 rfl) ?_
  refine b_get hM hW 11 2 hc rfl rfl (by decide) wi_X13 (wgm fk_RX13_11) (x := .int (gI v 2)) rfl dX13_lay_39 ?_
  refine lv_sipush (v := (1000 : Int32)) hx hb dX13_lay_42 (by decide) ?_
  refine lv_icmp_ge (tgt := 69) hx hb dX13_lay_45 (by decide) (fun c1 => ?_) (fun c1 => ?_)
  · have hf := if_t c1 hf
    exact t_X13_lay_69 (fu := fu) hM hml hr hlk hc0 hk3 hf hc _ _ hW _ (lv_sub hl [0, 1, 2] rfl)
  · have hf := if_f c1 hf
    refine lv_aload_n hx hb dX13_lay_48 rfl (lv_at hl 0 rfl) ?_
    refine b_get hM hW 11 1 hc rfl rfl (by decide) wi_X13 (wgm fk_RX13_14) (x := .ref (a + 1)) rfl dX13_lay_49 ?_
    refine lv_aload_n hx hb dX13_lay_52 rfl (lv_at hl 0 rfl) ?_
    refine b_get hM hW 11 2 hc rfl rfl (by decide) wi_X13 (wgm fk_RX13_11) (x := .int (gI v 2)) rfl dX13_lay_53 ?_
    refine lv_iload hx hb dX13_lay_56 (lv_at hl 3 rfl) ?_
    obtain ⟨h2, hf⟩ := ck_elim hf
    refine b_iast (n := 1000) hM hW 11 1 hc (by decide) rfl rfl rfl rfl h2 dX13_lay_58 (fun v3 ev3 hc H locs hW => ?_)
    have hf := nm_at ev3 hf
    refine lv_aload_n hx hb dX13_lay_59 rfl (lv_at hl 0 rfl) ?_
    refine lv_dup hx hb dX13_lay_60 rfl ?_
    refine b_get hM hW 11 2 hc rfl rfl (by decide) wi_X13 (wgm fk_RX13_11) (x := .int (gI v3 2)) rfl dX13_lay_61 ?_
    refine lv_iconst (v := (1 : Int32)) hx hb dX13_lay_64 (by decide) ?_
    refine lv_iadd hx hb dX13_lay_65 ?_
    refine b_putI hM hW 11 2 hc rfl rfl (by decide) wi_X13 tyX13 tyX13_ok nmX13 (wgm fk_RX13_11) rfl rfl rfl dX13_lay_66 (fun v4 ev4 hc H locs hW => ?_)
    have hf := nm_at ev4 hf
    exact t_X13_lay_69 (fu := fu) hM hml hr hlk hc0 hk3 hf hc _ _ hW _ (lv_sub hl [0, 1, 2] rfl)
noncomputable def f_X13_lay_3s (fu : Nat)  (k3 : Int32 → GV → Option (GV)) (x1 : Int64) (x3 : Int32) (v : GV) : Option (GV) :=
  if x3 < 0 then
    (some v)
  else
    (nm ((((x1 >>> (x3.toInt64 &&& 63))).toInt32 &&& (255 : Int32))) fun y2 =>
    if y2 = (10 : Int32) then
      (f_X13_lay_38 fu k3 v x1 x3 y2)
    else
      (if y2 < (32 : Int32) then
        (f_X13_lay_69 fu k3 v x1 x3)
      else
        (if (126 : Int32) < y2 then
          (f_X13_lay_69 fu k3 v x1 x3)
        else
          (f_X13_lay_38 fu k3 v x1 x3 y2))))
noncomputable def f_X13_lay_3 (fu n : Nat)  (x1 : Int64) : Int32 → GV → Option (GV) :=
  lq_2 (fun k3 => f_X13_lay_3s fu  k3 x1) n
set_option maxHeartbeats 4000000 in
set_option maxRecDepth 100000 in
theorem t_X13_lay_3s {G : GG} {p : Program} {l : Launch} {e : Env} {s : State} {m : MethodId} {args : Array Value} {below : List Frame} {meth : Method} {c : Code} {S : ST} {fu : Nat} {z : GV} {a : Nat} {v0 : GV}  (hM : MC G p s m args c cX13_lay w_X13_lay RX13) (hml : c.maxLocals = 5) (hr : meth.sig.returnType = none) (hlk : meth.locks = false) (hc0 : gC v0 = 12) {k3 : Int32 → GV → Option (GV)} {x1 : Int64}  (hk3 : ∀ (x3 : Int32) (v : GV), k3 x3 v = some z → gC v = 12 → ∀ (H : Heap) (locs : List Loc), WB G (st S a v) s H locs → ∀ (ls : Array Slot), lv_has ls 5 [(0, .ref a), (1, .long x1), (3, .int x3)] → W p l e RM_X13_lay s m args below meth c H locs 0 0 (QR G below args s none (st S a v0) (st S a z)) (F0 m 3 ls [])) : ∀ (x3 : Int32) (v : GV), f_X13_lay_3s fu  k3 x1 x3 v = some z → gC v = 12 → ∀ (H : Heap) (locs : List Loc), WB G (st S a v) s H locs → ∀ (ls : Array Slot), lv_has ls 5 [(0, .ref a), (1, .long x1), (3, .int x3)] → W p l e RM_X13_lay s m args below meth c H locs 0 0 (QR G below args s none (st S a v0) (st S a z)) (F0 m 3 ls []) := by
  intro x3 v hf hc H locs hW ls hl
  have hx := hM.1
  have hb := hM.2.1
  refine lv_iload_n hx hb dX13_lay_3 rfl (lv_at hl 2 rfl) ?_
  refine lv_if_lt (tgt := 75) hx hb dX13_lay_4 (by decide) (fun c1 => ?_) (fun c1 => ?_)
  · have hf := if_t c1 hf
    cases hf
    exact W.vret hx hb hr (b_ret0 hW (keep_s2 hc0 hc) _) hW.2.2.2 dX13_lay_75 hlk
  · have hf := if_f c1 hf
    refine lv_lload_n hx hb dX13_lay_7 rfl (lv_at hl 1 rfl) ?_
    refine lv_iload_n hx hb dX13_lay_8 rfl (lv_at hl 2 rfl) ?_
    refine lv_lshr hx hb dX13_lay_9 rfl ?_
    refine lv_l2i hx hb dX13_lay_10 rfl ?_
    refine lv_sipush (v := (255 : Int32)) hx hb dX13_lay_11 (by decide) ?_
    refine lv_iand hx hb dX13_lay_14 ?_
    refine lv_topi (fun y2 ey2 => ?_)
    have hf := nm_at ey2 hf
    refine lv_istore (lv' := [(4, .int y2), (0, .ref a), (1, .long x1), (3, .int x3)]) hx hb dX13_lay_15 hl (by decide) rfl (fun ls hl => ?_)
    refine lv_iload hx hb dX13_lay_17 (lv_at hl 0 rfl) ?_
    refine lv_bipush (v := (10 : Int32)) hx hb dX13_lay_19 (by decide) ?_
    refine lv_icmp_eq (tgt := 38) hx hb dX13_lay_21 (by decide) (fun c3 => ?_) (fun c3 => ?_)
    · have hf := if_t c3 hf
      exact t_X13_lay_38 (fu := fu) hM hml hr hlk hc0 hk3 hf hc _ _ hW _ (lv_sub hl [1, 2, 3, 0] rfl)
    · have hf := if_f c3 hf
      refine lv_iload hx hb dX13_lay_24 (lv_at hl 0 rfl) ?_
      refine lv_bipush (v := (32 : Int32)) hx hb dX13_lay_26 (by decide) ?_
      refine lv_icmp_lt (tgt := 69) hx hb dX13_lay_28 (by decide) (fun c4 => ?_) (fun c4 => ?_)
      · have hf := if_t c4 hf
        exact t_X13_lay_69 (fu := fu) hM hml hr hlk hc0 hk3 hf hc _ _ hW _ (lv_sub hl [1, 2, 3] rfl)
      · have hf := if_f c4 hf
        refine lv_iload hx hb dX13_lay_31 (lv_at hl 0 rfl) ?_
        refine lv_bipush (v := (126 : Int32)) hx hb dX13_lay_33 (by decide) ?_
        refine lv_icmp_gt (tgt := 69) hx hb dX13_lay_35 (by decide) (fun c5 => ?_) (fun c5 => ?_)
        · have hf := if_t c5 hf
          exact t_X13_lay_69 (fu := fu) hM hml hr hlk hc0 hk3 hf hc _ _ hW _ (lv_sub hl [1, 2, 3] rfl)
        · have hf := if_f c5 hf
          exact t_X13_lay_38 (fu := fu) hM hml hr hlk hc0 hk3 hf hc _ _ hW _ (lv_sub hl [1, 2, 3, 0] rfl)
theorem t_X13_lay_3 {G : GG} {p : Program} {l : Launch} {e : Env} {s : State} {m : MethodId} {args : Array Value} {below : List Frame} {meth : Method} {c : Code} {S : ST} {fu : Nat} {z : GV} {a : Nat} {v0 : GV}  {x1 : Int64} (hM : MC G p s m args c cX13_lay w_X13_lay RX13) (hml : c.maxLocals = 5) (hr : meth.sig.returnType = none) (hlk : meth.locks = false) (hc0 : gC v0 = 12)  : ∀ {n : Nat} (x3 : Int32) (v : GV), f_X13_lay_3 fu n  x1 x3 v = some z → gC v = 12 → ∀ (H : Heap) (locs : List Loc), WB G (st S a v) s H locs → ∀ (ls : Array Slot), lv_has ls 5 [(0, .ref a), (1, .long x1), (3, .int x3)] → W p l e RM_X13_lay s m args below meth c H locs 0 0 (QR G below args s none (st S a v0) (st S a z)) (F0 m 3 ls []) := by
  intro n
  induction n with
  | zero => intro x3 v hf; cases hf
  | succ n ih => intro x3 v hf; exact t_X13_lay_3s (fu := fu) hM hml hr hlk hc0  (k3 := f_X13_lay_3 fu n  x1) ih _ _ hf
noncomputable def f_X13_lay_0 (fu : Nat)  (v : GV) (x1 : Int64) : Option (GV) :=
  f_X13_lay_3 fu fu x1 (56 : Int32) v
set_option maxHeartbeats 4000000 in
set_option maxRecDepth 100000 in
theorem t_X13_lay_0 {G : GG} {p : Program} {l : Launch} {e : Env} {s : State} {m : MethodId} {args : Array Value} {below : List Frame} {meth : Method} {c : Code} {S : ST} {fu : Nat} {z : GV} {a : Nat} {v0 : GV}  {v : GV} {x1 : Int64} (hM : MC G p s m args c cX13_lay w_X13_lay RX13) (hml : c.maxLocals = 5) (hr : meth.sig.returnType = none) (hlk : meth.locks = false) (hc0 : gC v0 = 12)  (hf : f_X13_lay_0 fu  v x1 = some z) : gC v = 12 → ∀ (H : Heap) (locs : List Loc), WB G (st S a v) s H locs → ∀ (ls : Array Slot), lv_has ls 5 [(0, .ref a), (1, .long x1)] → W p l e RM_X13_lay s m args below meth c H locs 0 0 (QR G below args s none (st S a v0) (st S a z)) (F0 m 0 ls []) := by
  intro hc H locs hW ls hl
  have hx := hM.1
  have hb := hM.2.1
  refine lv_bipush (v := (56 : Int32)) hx hb dX13_lay_0 (by decide) ?_
  refine lv_istore_n (lv' := [(3, .int (56 : Int32)), (0, .ref a), (1, .long x1)]) hx hb dX13_lay_2 rfl hl (by decide) rfl (fun ls hl => ?_)
  exact t_X13_lay_3 (fu := fu) hM hml hr hlk hc0 _ _ hf hc _ _ hW _ (lv_sub hl [1, 2, 0] rfl)
noncomputable def f_X13_lay (fu : Nat) (v : GV) (x1 : Int64) : Option (GV) := f_X13_lay_0 fu v x1
set_option maxHeartbeats 4000000 in
set_option maxRecDepth 100000 in
theorem c_X13_lay (l : Launch) (G : GG) (fu : Nat) (S : ST) (a : Nat) (v : GV) (x1 : Int64) {z : GV} (hc : gC v = 12) (hf : f_X13_lay fu v x1 = some z) : Ct l yX13_lay w_X13_lay RM_X13_lay G (st S a v) [.ref a, .long x1] none (st S a z) 0 0 := by
  refine Met.ofW (cc := cX13_lay) (maxL := 5) (ret := none) (by decide) rfl ?_
  intro p e s m args below meth c s₁ B hml hv
  obtain ⟨rfl, hB, hK, hz⟩ := hv
  have hM : MC G p s m _ c cX13_lay w_X13_lay RX13 := ⟨B.exec, B.bytes, findClass_of_methodNamed B.named, atoms_spec (ws := w_X13_lay) B.pre, hK, hz⟩
  have hW : WB G (st S a v) s s.heap [] := ⟨hB, va_S.rf⟩
  have hl := lv_entry ([.ref a, .long x1]) (n := 5) (Nat.le_of_ble_eq_true rfl)
  rw [lg_entry_eq]
  generalize (lg_sl ([.ref a, .long x1]) ++ List.replicate (5 - (lg_sl ([.ref a, .long x1])).length) Slot.unset).toArray = ls at hl ⊢
  have hl : lv_has ls 5 [(0, .ref a), (1, .long x1)] := hl
  exact t_X13_lay_0 hM hml B.returns B.notSynchronized hc hf hc _ _ hW _ (lv_sub hl [0, 1] rfl)
abbrev w_X13_feed : List Cond := Cond.code yX13_feed cX13_feed 7 (some .int) :: wsL_law0
abbrev RM_X13_feed : Room := { frames := 1, cells := 0, slots := 0, locals := 24 }
noncomputable def f_X13_feed_0 (fu : Nat)  (v : GV) (x1 : Int64) (x3 : Int64) (x5 : Int64) : Option (Int32 × GV) :=
  nm (sI v 0 (0 : Int32)) fun v1 =>
  bd (f_X13_lay fu v1 x1) fun v3 =>
  bd (f_X13_lay fu v3 x3) fun v5 =>
  bd (f_X13_lay fu v5 x5) fun v7 =>
  some ((gI v7 2), v7)
set_option maxHeartbeats 4000000 in
set_option maxRecDepth 100000 in
theorem t_X13_feed_0 {G : GG} {p : Program} {l : Launch} {e : Env} {s : State} {m : MethodId} {args : Array Value} {below : List Frame} {meth : Method} {c : Code} {S : ST} {fu : Nat} {z : Int32 × GV} {a : Nat} {v0 : GV}  {v : GV} {x1 : Int64} {x3 : Int64} {x5 : Int64} (hM : MC G p s m args c cX13_feed w_X13_feed RX13) (hml : c.maxLocals = 7) (hr : meth.sig.returnType = (some .int)) (hlk : meth.locks = false) (hc0 : gC v0 = 12)  (hf : f_X13_feed_0 fu  v x1 x3 x5 = some z) : gC v = 12 → ∀ (H : Heap) (locs : List Loc), WB G (st S a v) s H locs → ∀ (ls : Array Slot), lv_has ls 7 [(0, .ref a), (1, .long x1), (3, .long x3), (5, .long x5)] → W p l e RM_X13_feed s m args below meth c H locs 0 0 (QR G below args s (some (.int z.1)) (st S a v0) (st S a z.2)) (F0 m 0 ls []) := by
  intro hc H locs hW ls hl
  have hx := hM.1
  have hb := hM.2.1
  refine lv_aload_n hx hb dX13_feed_0 rfl (lv_at hl 0 rfl) ?_
  refine lv_iconst (v := (0 : Int32)) hx hb dX13_feed_1 (by decide) ?_
  refine b_putI hM hW 11 0 hc rfl rfl (by decide) wi_X13 tyX13 tyX13_ok nmX13 (wgm fk_RX13_1) rfl rfl rfl dX13_feed_2 (fun v1 ev1 hc H locs hW => ?_)
  have hf := nm_at ev1 hf
  refine lv_aload_n hx hb dX13_feed_5 rfl (lv_at hl 0 rfl) ?_
  refine lv_lload_n hx hb dX13_feed_6 rfl (lv_at hl 1 rfl) ?_
  obtain ⟨v3, hr2, hf⟩ := bd_elim hf
  refine b_callVv [.long x1] [] hM hml hl.1 hW hc rfl (by decide) (c_X13_lay l G fu _ a v1 _ hc hr2) (cwV 1 hM.2.2.2.1 (gV mk_RX13_7 im_X13_lay se_X13_lay it_RX13 cd_X13_lay) rfl rfl rfl (by decide +kernel) ⟨Nat.le_of_ble_eq_true rfl, Nat.le_of_ble_eq_true rfl⟩) rfl rfl (Nat.le_of_ble_eq_true rfl) ⟨Nat.zero_le _, Nat.zero_le _⟩ dX13_feed_7 (fun H locs hW hk => ?_)
  have hc := keep_at hc hk
  refine lv_aload_n hx hb dX13_feed_10 rfl (lv_at hl 0 rfl) ?_
  refine lv_lload_n hx hb dX13_feed_11 rfl (lv_at hl 2 rfl) ?_
  obtain ⟨v5, hr4, hf⟩ := bd_elim hf
  refine b_callVv [.long x3] [] hM hml hl.1 hW hc rfl (by decide) (c_X13_lay l G fu _ a v3 _ hc hr4) (cwV 1 hM.2.2.2.1 (gV mk_RX13_7 im_X13_lay se_X13_lay it_RX13 cd_X13_lay) rfl rfl rfl (by decide +kernel) ⟨Nat.le_of_ble_eq_true rfl, Nat.le_of_ble_eq_true rfl⟩) rfl rfl (Nat.le_of_ble_eq_true rfl) ⟨Nat.zero_le _, Nat.zero_le _⟩ dX13_feed_12 (fun H locs hW hk => ?_)
  have hc := keep_at hc hk
  refine lv_aload_n hx hb dX13_feed_15 rfl (lv_at hl 0 rfl) ?_
  refine lv_lload hx hb dX13_feed_16 (lv_at hl 3 rfl) ?_
  obtain ⟨v7, hr6, hf⟩ := bd_elim hf
  refine b_callVv [.long x5] [] hM hml hl.1 hW hc rfl (by decide) (c_X13_lay l G fu _ a v5 _ hc hr6) (cwV 1 hM.2.2.2.1 (gV mk_RX13_7 im_X13_lay se_X13_lay it_RX13 cd_X13_lay) rfl rfl rfl (by decide +kernel) ⟨Nat.le_of_ble_eq_true rfl, Nat.le_of_ble_eq_true rfl⟩) rfl rfl (Nat.le_of_ble_eq_true rfl) ⟨Nat.zero_le _, Nat.zero_le _⟩ dX13_feed_18 (fun H locs hW hk => ?_)
  have hc := keep_at hc hk
  refine lv_aload_n hx hb dX13_feed_21 rfl (lv_at hl 0 rfl) ?_
  refine b_get hM hW 11 2 hc rfl rfl (by decide) wi_X13 (wgm fk_RX13_11) (x := .int (gI v7 2)) rfl dX13_feed_22 ?_
  cases hf
  exact W.iret hx hb hr (b_ret0 hW (keep_s2 hc0 hc) _) hW.2.2.2 dX13_feed_25 hlk
noncomputable def f_X13_feed (fu : Nat) (v : GV) (x1 : Int64) (x3 : Int64) (x5 : Int64) : Option (Int32 × GV) := f_X13_feed_0 fu v x1 x3 x5
set_option maxHeartbeats 4000000 in
set_option maxRecDepth 100000 in
theorem c_X13_feed (l : Launch) (G : GG) (fu : Nat) (S : ST) (a : Nat) (v : GV) (x1 : Int64) (x3 : Int64) (x5 : Int64) {z : Int32} {w : GV} (hc : gC v = 12) (hf : f_X13_feed fu v x1 x3 x5 = some (z, w)) : Ct l yX13_feed w_X13_feed RM_X13_feed G (st S a v) [.ref a, .long x1, .long x3, .long x5] (some (.int z)) (st S a w) 0 0 := by
  refine Met.ofW (cc := cX13_feed) (maxL := 7) (ret := (some .int)) (by decide) rfl ?_
  intro p e s m args below meth c s₁ B hml hv
  obtain ⟨rfl, hB, hK, hz⟩ := hv
  have hM : MC G p s m _ c cX13_feed w_X13_feed RX13 := ⟨B.exec, B.bytes, findClass_of_methodNamed B.named, atoms_spec (ws := w_X13_feed) B.pre, hK, hz⟩
  have hW : WB G (st S a v) s s.heap [] := ⟨hB, va_S.rf⟩
  have hl := lv_entry ([.ref a, .long x1, .long x3, .long x5]) (n := 7) (Nat.le_of_ble_eq_true rfl)
  rw [lg_entry_eq]
  generalize (lg_sl ([.ref a, .long x1, .long x3, .long x5]) ++ List.replicate (7 - (lg_sl ([.ref a, .long x1, .long x3, .long x5])).length) Slot.unset).toArray = ls at hl ⊢
  have hl : lv_has ls 7 [(0, .ref a), (1, .long x1), (3, .long x3), (5, .long x5)] := hl
  exact t_X13_feed_0 hM hml B.returns B.notSynchronized hc hf hc _ _ hW _ (lv_sub hl [0, 1, 2, 3] rfl)
abbrev w_X13_standsAsAlways : List Cond := Cond.code yX13_standsAsAlways cX13_standsAsAlways 3 none :: wsL_law0
abbrev RM_X13_standsAsAlways : Room := { frames := 0, cells := 0, slots := 0, locals := 0 }
noncomputable def f_X13_standsAsAlways_2s (fu : Nat)  (k2 : Int32 → GV → Option (GV)) (x1 : Int32) (x2 : Int32) (v : GV) : Option (GV) :=
  if (70 : Int32) ≤ x2 then
    (ck (inb (x1 + (3 : Int32)) 140) <|
    nm (sA v 10 (x1 + (3 : Int32)).toNatClampNeg (1 : Int32)) fun v3 =>
    ck (inb (x1 + (4 : Int32)) 140) <|
    nm (sA v3 10 (x1 + (4 : Int32)).toNatClampNeg (-1 : Int32)) fun v5 =>
    ck (inb ((x1 + (4 : Int32)) + (1 : Int32)) 140) <|
    nm (sA v5 10 ((x1 + (4 : Int32)) + (1 : Int32)).toNatClampNeg (-1 : Int32)) fun v7 =>
    ck (inb (x1 + (30 : Int32)) 140) <|
    nm (sA v7 10 (x1 + (30 : Int32)).toNatClampNeg (-1 : Int32)) fun v9 =>
    ck (inb ((x1 + (30 : Int32)) + (3 : Int32)) 140) <|
    nm (sA v9 10 ((x1 + (30 : Int32)) + (3 : Int32)).toNatClampNeg (5 : Int32)) fun v11 =>
    some v11)
  else
    (ck (inb (x1 + x2) 140) <|
    nm (sA v 10 (x1 + x2).toNatClampNeg (0 : Int32)) fun v13 =>
    nm (x2 + (1 : Int32)) fun y14 =>
    k2 y14 v13)
noncomputable def f_X13_standsAsAlways_2 (fu n : Nat)  (x1 : Int32) : Int32 → GV → Option (GV) :=
  lq_2 (fun k2 => f_X13_standsAsAlways_2s fu  k2 x1) n
set_option maxHeartbeats 4000000 in
set_option maxRecDepth 100000 in
theorem t_X13_standsAsAlways_2s {G : GG} {p : Program} {l : Launch} {e : Env} {s : State} {m : MethodId} {args : Array Value} {below : List Frame} {meth : Method} {c : Code} {S : ST} {fu : Nat} {z : GV} {a : Nat} {v0 : GV}  (hM : MC G p s m args c cX13_standsAsAlways w_X13_standsAsAlways RX13) (hml : c.maxLocals = 3) (hr : meth.sig.returnType = none) (hlk : meth.locks = false) (hc0 : gC v0 = 12) {k2 : Int32 → GV → Option (GV)} {x1 : Int32}  (hk2 : ∀ (x2 : Int32) (v : GV), k2 x2 v = some z → gC v = 12 → ∀ (H : Heap) (locs : List Loc), WB G (st S a v) s H locs → ∀ (ls : Array Slot), lv_has ls 3 [(0, .ref a), (1, .int x1), (2, .int x2)] → W p l e RM_X13_standsAsAlways s m args below meth c H locs 0 0 (QR G below args s none (st S a v0) (st S a z)) (F0 m 2 ls [])) : ∀ (x2 : Int32) (v : GV), f_X13_standsAsAlways_2s fu  k2 x1 x2 v = some z → gC v = 12 → ∀ (H : Heap) (locs : List Loc), WB G (st S a v) s H locs → ∀ (ls : Array Slot), lv_has ls 3 [(0, .ref a), (1, .int x1), (2, .int x2)] → W p l e RM_X13_standsAsAlways s m args below meth c H locs 0 0 (QR G below args s none (st S a v0) (st S a z)) (F0 m 2 ls []) := by
  intro x2 v hf hc H locs hW ls hl
  have hx := hM.1
  have hb := hM.2.1
  refine lv_iload_n hx hb dX13_standsAsAlways_2 rfl (lv_at hl 2 rfl) ?_
  refine lv_bipush (v := (70 : Int32)) hx hb dX13_standsAsAlways_3 (by decide) ?_
  refine lv_icmp_ge (tgt := 23) hx hb dX13_standsAsAlways_5 (by decide) (fun c1 => ?_) (fun c1 => ?_)
  · have hf := if_t c1 hf
    refine lv_aload_n hx hb dX13_standsAsAlways_23 rfl (lv_at hl 0 rfl) ?_
    refine b_get hM hW 11 10 hc rfl rfl (by decide) wi_X13 (wgm fk_RX13_95) (x := .ref (a + 6)) rfl dX13_standsAsAlways_24 ?_
    refine lv_iload_n hx hb dX13_standsAsAlways_27 rfl (lv_at hl 1 rfl) ?_
    refine lv_iconst (v := (3 : Int32)) hx hb dX13_standsAsAlways_28 (by decide) ?_
    refine lv_iadd hx hb dX13_standsAsAlways_29 ?_
    refine lv_iconst (v := (1 : Int32)) hx hb dX13_standsAsAlways_30 (by decide) ?_
    obtain ⟨h2, hf⟩ := ck_elim hf
    refine b_iast (n := 140) hM hW 11 10 hc (by decide) rfl rfl rfl rfl h2 dX13_standsAsAlways_31 (fun v3 ev3 hc H locs hW => ?_)
    have hf := nm_at ev3 hf
    refine lv_aload_n hx hb dX13_standsAsAlways_32 rfl (lv_at hl 0 rfl) ?_
    refine b_get hM hW 11 10 hc rfl rfl (by decide) wi_X13 (wgm fk_RX13_95) (x := .ref (a + 6)) rfl dX13_standsAsAlways_33 ?_
    refine lv_iload_n hx hb dX13_standsAsAlways_36 rfl (lv_at hl 1 rfl) ?_
    refine lv_iconst (v := (4 : Int32)) hx hb dX13_standsAsAlways_37 (by decide) ?_
    refine lv_iadd hx hb dX13_standsAsAlways_38 ?_
    refine lv_iconst (v := (-1 : Int32)) hx hb dX13_standsAsAlways_39 (by decide) ?_
    obtain ⟨h4, hf⟩ := ck_elim hf
    refine b_iast (n := 140) hM hW 11 10 hc (by decide) rfl rfl rfl rfl h4 dX13_standsAsAlways_40 (fun v5 ev5 hc H locs hW => ?_)
    have hf := nm_at ev5 hf
    refine lv_aload_n hx hb dX13_standsAsAlways_41 rfl (lv_at hl 0 rfl) ?_
    refine b_get hM hW 11 10 hc rfl rfl (by decide) wi_X13 (wgm fk_RX13_95) (x := .ref (a + 6)) rfl dX13_standsAsAlways_42 ?_
    refine lv_iload_n hx hb dX13_standsAsAlways_45 rfl (lv_at hl 1 rfl) ?_
    refine lv_iconst (v := (4 : Int32)) hx hb dX13_standsAsAlways_46 (by decide) ?_
    refine lv_iadd hx hb dX13_standsAsAlways_47 ?_
    refine lv_iconst (v := (1 : Int32)) hx hb dX13_standsAsAlways_48 (by decide) ?_
    refine lv_iadd hx hb dX13_standsAsAlways_49 ?_
    refine lv_iconst (v := (-1 : Int32)) hx hb dX13_standsAsAlways_50 (by decide) ?_
    obtain ⟨h6, hf⟩ := ck_elim hf
    refine b_iast (n := 140) hM hW 11 10 hc (by decide) rfl rfl rfl rfl h6 dX13_standsAsAlways_51 (fun v7 ev7 hc H locs hW => ?_)
    have hf := nm_at ev7 hf
    refine lv_aload_n hx hb dX13_standsAsAlways_52 rfl (lv_at hl 0 rfl) ?_
    refine b_get hM hW 11 10 hc rfl rfl (by decide) wi_X13 (wgm fk_RX13_95) (x := .ref (a + 6)) rfl dX13_standsAsAlways_53 ?_
    refine lv_iload_n hx hb dX13_standsAsAlways_56 rfl (lv_at hl 1 rfl) ?_
    refine lv_bipush (v := (30 : Int32)) hx hb dX13_standsAsAlways_57 (by decide) ?_
    refine lv_iadd hx hb dX13_standsAsAlways_59 ?_
    refine lv_iconst (v := (-1 : Int32)) hx hb dX13_standsAsAlways_60 (by decide) ?_
    obtain ⟨h8, hf⟩ := ck_elim hf
    refine b_iast (n := 140) hM hW 11 10 hc (by decide) rfl rfl rfl rfl h8 dX13_standsAsAlways_61 (fun v9 ev9 hc H locs hW => ?_)
    have hf := nm_at ev9 hf
    refine lv_aload_n hx hb dX13_standsAsAlways_62 rfl (lv_at hl 0 rfl) ?_
    refine b_get hM hW 11 10 hc rfl rfl (by decide) wi_X13 (wgm fk_RX13_95) (x := .ref (a + 6)) rfl dX13_standsAsAlways_63 ?_
    refine lv_iload_n hx hb dX13_standsAsAlways_66 rfl (lv_at hl 1 rfl) ?_
    refine lv_bipush (v := (30 : Int32)) hx hb dX13_standsAsAlways_67 (by decide) ?_
    refine lv_iadd hx hb dX13_standsAsAlways_69 ?_
    refine lv_iconst (v := (3 : Int32)) hx hb dX13_standsAsAlways_70 (by decide) ?_
    refine lv_iadd hx hb dX13_standsAsAlways_71 ?_
    refine lv_iconst (v := (5 : Int32)) hx hb dX13_standsAsAlways_72 (by decide) ?_
    obtain ⟨h10, hf⟩ := ck_elim hf
    refine b_iast (n := 140) hM hW 11 10 hc (by decide) rfl rfl rfl rfl h10 dX13_standsAsAlways_73 (fun v11 ev11 hc H locs hW => ?_)
    have hf := nm_at ev11 hf
    cases hf
    exact W.vret hx hb hr (b_ret0 hW (keep_s2 hc0 hc) _) hW.2.2.2 dX13_standsAsAlways_74 hlk
  · have hf := if_f c1 hf
    refine lv_aload_n hx hb dX13_standsAsAlways_8 rfl (lv_at hl 0 rfl) ?_
    refine b_get hM hW 11 10 hc rfl rfl (by decide) wi_X13 (wgm fk_RX13_95) (x := .ref (a + 6)) rfl dX13_standsAsAlways_9 ?_
    refine lv_iload_n hx hb dX13_standsAsAlways_12 rfl (lv_at hl 1 rfl) ?_
    refine lv_iload_n hx hb dX13_standsAsAlways_13 rfl (lv_at hl 2 rfl) ?_
    refine lv_iadd hx hb dX13_standsAsAlways_14 ?_
    refine lv_iconst (v := (0 : Int32)) hx hb dX13_standsAsAlways_15 (by decide) ?_
    obtain ⟨h12, hf⟩ := ck_elim hf
    refine b_iast (n := 140) hM hW 11 10 hc (by decide) rfl rfl rfl rfl h12 dX13_standsAsAlways_16 (fun v13 ev13 hc H locs hW => ?_)
    have hf := nm_at ev13 hf
    obtain ⟨y14, ey14⟩ : ∃ y : Int32, y = x2 + (1 : Int32) := ⟨_, rfl⟩
    have hf := nm_at ey14 hf
    refine lv_iinc (v := y14) (lv' := [(2, .int y14), (0, .ref a), (1, .int x1)]) hx hb dX13_standsAsAlways_17 hl (k := 2) rfl (by rw [ey14]; rfl) (by decide) rfl (fun ls hl => ?_)
    refine lv_goto (tgt := 2) hx hb dX13_standsAsAlways_20 (by decide) ?_
    exact hk2 _ _ hf hc _ _ hW _ (lv_sub hl [1, 2, 0] rfl)
theorem t_X13_standsAsAlways_2 {G : GG} {p : Program} {l : Launch} {e : Env} {s : State} {m : MethodId} {args : Array Value} {below : List Frame} {meth : Method} {c : Code} {S : ST} {fu : Nat} {z : GV} {a : Nat} {v0 : GV}  {x1 : Int32} (hM : MC G p s m args c cX13_standsAsAlways w_X13_standsAsAlways RX13) (hml : c.maxLocals = 3) (hr : meth.sig.returnType = none) (hlk : meth.locks = false) (hc0 : gC v0 = 12)  : ∀ {n : Nat} (x2 : Int32) (v : GV), f_X13_standsAsAlways_2 fu n  x1 x2 v = some z → gC v = 12 → ∀ (H : Heap) (locs : List Loc), WB G (st S a v) s H locs → ∀ (ls : Array Slot), lv_has ls 3 [(0, .ref a), (1, .int x1), (2, .int x2)] → W p l e RM_X13_standsAsAlways s m args below meth c H locs 0 0 (QR G below args s none (st S a v0) (st S a z)) (F0 m 2 ls []) := by
  intro n
  induction n with
  | zero => intro x2 v hf; cases hf
  | succ n ih => intro x2 v hf; exact t_X13_standsAsAlways_2s (fu := fu) hM hml hr hlk hc0  (k2 := f_X13_standsAsAlways_2 fu n  x1) ih _ _ hf
noncomputable def f_X13_standsAsAlways_0 (fu : Nat)  (v : GV) (x1 : Int32) : Option (GV) :=
  f_X13_standsAsAlways_2 fu fu x1 (0 : Int32) v
set_option maxHeartbeats 4000000 in
set_option maxRecDepth 100000 in
theorem t_X13_standsAsAlways_0 {G : GG} {p : Program} {l : Launch} {e : Env} {s : State} {m : MethodId} {args : Array Value} {below : List Frame} {meth : Method} {c : Code} {S : ST} {fu : Nat} {z : GV} {a : Nat} {v0 : GV}  {v : GV} {x1 : Int32} (hM : MC G p s m args c cX13_standsAsAlways w_X13_standsAsAlways RX13) (hml : c.maxLocals = 3) (hr : meth.sig.returnType = none) (hlk : meth.locks = false) (hc0 : gC v0 = 12)  (hf : f_X13_standsAsAlways_0 fu  v x1 = some z) : gC v = 12 → ∀ (H : Heap) (locs : List Loc), WB G (st S a v) s H locs → ∀ (ls : Array Slot), lv_has ls 3 [(0, .ref a), (1, .int x1)] → W p l e RM_X13_standsAsAlways s m args below meth c H locs 0 0 (QR G below args s none (st S a v0) (st S a z)) (F0 m 0 ls []) := by
  intro hc H locs hW ls hl
  have hx := hM.1
  have hb := hM.2.1
  refine lv_iconst (v := (0 : Int32)) hx hb dX13_standsAsAlways_0 (by decide) ?_
  refine lv_istore_n (lv' := [(2, .int (0 : Int32)), (0, .ref a), (1, .int x1)]) hx hb dX13_standsAsAlways_1 rfl hl (by decide) rfl (fun ls hl => ?_)
  exact t_X13_standsAsAlways_2 (fu := fu) hM hml hr hlk hc0 _ _ hf hc _ _ hW _ (lv_sub hl [1, 2, 0] rfl)
noncomputable def f_X13_standsAsAlways (fu : Nat) (v : GV) (x1 : Int32) : Option (GV) := f_X13_standsAsAlways_0 fu v x1
set_option maxHeartbeats 4000000 in
set_option maxRecDepth 100000 in
theorem c_X13_standsAsAlways (l : Launch) (G : GG) (fu : Nat) (S : ST) (a : Nat) (v : GV) (x1 : Int32) {z : GV} (hc : gC v = 12) (hf : f_X13_standsAsAlways fu v x1 = some z) : Ct l yX13_standsAsAlways w_X13_standsAsAlways RM_X13_standsAsAlways G (st S a v) [.ref a, .int x1] none (st S a z) 0 0 := by
  refine Met.ofW (cc := cX13_standsAsAlways) (maxL := 3) (ret := none) (by decide) rfl ?_
  intro p e s m args below meth c s₁ B hml hv
  obtain ⟨rfl, hB, hK, hz⟩ := hv
  have hM : MC G p s m _ c cX13_standsAsAlways w_X13_standsAsAlways RX13 := ⟨B.exec, B.bytes, findClass_of_methodNamed B.named, atoms_spec (ws := w_X13_standsAsAlways) B.pre, hK, hz⟩
  have hW : WB G (st S a v) s s.heap [] := ⟨hB, va_S.rf⟩
  have hl := lv_entry ([.ref a, .int x1]) (n := 3) (Nat.le_of_ble_eq_true rfl)
  rw [lg_entry_eq]
  generalize (lg_sl ([.ref a, .int x1]) ++ List.replicate (3 - (lg_sl ([.ref a, .int x1])).length) Slot.unset).toArray = ls at hl ⊢
  have hl : lv_has ls 3 [(0, .ref a), (1, .int x1)] := hl
  exact t_X13_standsAsAlways_0 hM hml B.returns B.notSynchronized hc hf hc _ _ hW _ (lv_sub hl [0, 1] rfl)
abbrev w_X13_thieves : List Cond := Cond.code yX13_thieves cX13_thieves 1 (some .int) :: wsL_law0
abbrev RM_X13_thieves : Room := { frames := 0, cells := 0, slots := 0, locals := 0 }
noncomputable def f_X13_thieves_0 (fu : Nat)  (v : GV) : Option (Int32) :=
  some (gA v 10 (1 : Int32).toNatClampNeg)
set_option maxHeartbeats 4000000 in
set_option maxRecDepth 100000 in
theorem t_X13_thieves_0 {G : GG} {p : Program} {l : Launch} {e : Env} {s : State} {m : MethodId} {args : Array Value} {below : List Frame} {meth : Method} {c : Code} {S : ST} {fu : Nat} {z : Int32} {a : Nat} {v : GV}  (hM : MC G p s m args c cX13_thieves w_X13_thieves RX13) (hml : c.maxLocals = 1) (hr : meth.sig.returnType = (some .int)) (hlk : meth.locks = false) (hc0 : gC v = 12)  (hf : f_X13_thieves_0 fu  v  = some z) : ∀ (H : Heap) (locs : List Loc), WB G (st S a v) s H locs → ∀ (ls : Array Slot), lv_has ls 1 [(0, .ref a)] → W p l e RM_X13_thieves s m args below meth c H locs 0 0 (QR G below args s (some (.int z)) (st S a v) (st S a v)) (F0 m 0 ls []) := by
  intro H locs hW ls hl
  have hx := hM.1
  have hb := hM.2.1
  have hc := hc0
  refine lv_aload_n hx hb dX13_thieves_0 rfl (lv_at hl 0 rfl) ?_
  refine b_get hM hW 11 10 hc rfl rfl (by decide) wi_X13 (wgm fk_RX13_95) (x := .ref (a + 6)) rfl dX13_thieves_1 ?_
  refine lv_iconst (v := (1 : Int32)) hx hb dX13_thieves_4 (by decide) ?_
  refine b_iald (n := 140) hM hW 11 10 hc (by decide) rfl rfl rfl rfl (by decide) dX13_thieves_5 ?_
  cases hf
  exact W.iret hx hb hr (b_ret0 hW (fun _ _ => rfl) _) hW.2.2.2 dX13_thieves_6 hlk
noncomputable def f_X13_thieves (fu : Nat) (v : GV) : Option (Int32) := f_X13_thieves_0 fu v
set_option maxHeartbeats 4000000 in
set_option maxRecDepth 100000 in
theorem c_X13_thieves (l : Launch) (G : GG) (fu : Nat) (S : ST) (a : Nat) (v : GV) {z : Int32} (hc : gC v = 12) (hf : f_X13_thieves fu v = some z) : Ct l yX13_thieves w_X13_thieves RM_X13_thieves G (st S a v) [.ref a] (some (.int z)) (st S a v) 0 0 := by
  refine Met.ofW (cc := cX13_thieves) (maxL := 1) (ret := (some .int)) (by decide) rfl ?_
  intro p e s m args below meth c s₁ B hml hv
  obtain ⟨rfl, hB, hK, hz⟩ := hv
  have hM : MC G p s m _ c cX13_thieves w_X13_thieves RX13 := ⟨B.exec, B.bytes, findClass_of_methodNamed B.named, atoms_spec (ws := w_X13_thieves) B.pre, hK, hz⟩
  have hW : WB G (st S a v) s s.heap [] := ⟨hB, va_S.rf⟩
  have hl := lv_entry ([.ref a]) (n := 1) (Nat.le_of_ble_eq_true rfl)
  rw [lg_entry_eq]
  generalize (lg_sl ([.ref a]) ++ List.replicate (1 - (lg_sl ([.ref a])).length) Slot.unset).toArray = ls at hl ⊢
  have hl : lv_has ls 1 [(0, .ref a)] := hl
  exact t_X13_thieves_0 hM hml B.returns B.notSynchronized hc hf _ _ hW _ (lv_sub hl [0] rfl)
abbrev w_X13_thiefOf : List Cond := Cond.code yX13_thiefOf cX13_thiefOf 3 (some .int) :: wsL_law0
abbrev RM_X13_thiefOf : Room := { frames := 0, cells := 0, slots := 0, locals := 0 }
noncomputable def f_X13_thiefOf_0 (fu : Nat)  (v : GV) (x1 : Int32) (x2 : Int32) : Option (Int32) :=
  nm ((((6 : Int32) + ((4 : Int32) * x1)) + x2)) fun y1 =>
  ck (inb y1 140) <|
  some (gA v 10 y1.toNatClampNeg)
set_option maxHeartbeats 4000000 in
set_option maxRecDepth 100000 in
theorem t_X13_thiefOf_0 {G : GG} {p : Program} {l : Launch} {e : Env} {s : State} {m : MethodId} {args : Array Value} {below : List Frame} {meth : Method} {c : Code} {S : ST} {fu : Nat} {z : Int32} {a : Nat} {v : GV}  {x1 : Int32} {x2 : Int32} (hM : MC G p s m args c cX13_thiefOf w_X13_thiefOf RX13) (hml : c.maxLocals = 3) (hr : meth.sig.returnType = (some .int)) (hlk : meth.locks = false) (hc0 : gC v = 12)  (hf : f_X13_thiefOf_0 fu  v x1 x2 = some z) : ∀ (H : Heap) (locs : List Loc), WB G (st S a v) s H locs → ∀ (ls : Array Slot), lv_has ls 3 [(0, .ref a), (1, .int x1), (2, .int x2)] → W p l e RM_X13_thiefOf s m args below meth c H locs 0 0 (QR G below args s (some (.int z)) (st S a v) (st S a v)) (F0 m 0 ls []) := by
  intro H locs hW ls hl
  have hx := hM.1
  have hb := hM.2.1
  have hc := hc0
  refine lv_aload_n hx hb dX13_thiefOf_0 rfl (lv_at hl 0 rfl) ?_
  refine b_get hM hW 11 10 hc rfl rfl (by decide) wi_X13 (wgm fk_RX13_95) (x := .ref (a + 6)) rfl dX13_thiefOf_1 ?_
  refine lv_bipush (v := (6 : Int32)) hx hb dX13_thiefOf_4 (by decide) ?_
  refine lv_iconst (v := (4 : Int32)) hx hb dX13_thiefOf_6 (by decide) ?_
  refine lv_iload_n hx hb dX13_thiefOf_7 rfl (lv_at hl 1 rfl) ?_
  refine lv_imul hx hb dX13_thiefOf_8 ?_
  refine lv_iadd hx hb dX13_thiefOf_9 ?_
  refine lv_iload_n hx hb dX13_thiefOf_10 rfl (lv_at hl 2 rfl) ?_
  refine lv_iadd hx hb dX13_thiefOf_11 ?_
  refine lv_topi (fun y1 ey1 => ?_)
  have hf := nm_at ey1 hf
  obtain ⟨h2, hf⟩ := ck_elim hf
  refine b_iald (n := 140) hM hW 11 10 hc (by decide) rfl rfl rfl rfl h2 dX13_thiefOf_12 ?_
  cases hf
  exact W.iret hx hb hr (b_ret0 hW (fun _ _ => rfl) _) hW.2.2.2 dX13_thiefOf_13 hlk
noncomputable def f_X13_thiefOf (fu : Nat) (v : GV) (x1 : Int32) (x2 : Int32) : Option (Int32) := f_X13_thiefOf_0 fu v x1 x2
set_option maxHeartbeats 4000000 in
set_option maxRecDepth 100000 in
theorem c_X13_thiefOf (l : Launch) (G : GG) (fu : Nat) (S : ST) (a : Nat) (v : GV) (x1 : Int32) (x2 : Int32) {z : Int32} (hc : gC v = 12) (hf : f_X13_thiefOf fu v x1 x2 = some z) : Ct l yX13_thiefOf w_X13_thiefOf RM_X13_thiefOf G (st S a v) [.ref a, .int x1, .int x2] (some (.int z)) (st S a v) 0 0 := by
  refine Met.ofW (cc := cX13_thiefOf) (maxL := 3) (ret := (some .int)) (by decide) rfl ?_
  intro p e s m args below meth c s₁ B hml hv
  obtain ⟨rfl, hB, hK, hz⟩ := hv
  have hM : MC G p s m _ c cX13_thiefOf w_X13_thiefOf RX13 := ⟨B.exec, B.bytes, findClass_of_methodNamed B.named, atoms_spec (ws := w_X13_thiefOf) B.pre, hK, hz⟩
  have hW : WB G (st S a v) s s.heap [] := ⟨hB, va_S.rf⟩
  have hl := lv_entry ([.ref a, .int x1, .int x2]) (n := 3) (Nat.le_of_ble_eq_true rfl)
  rw [lg_entry_eq]
  generalize (lg_sl ([.ref a, .int x1, .int x2]) ++ List.replicate (3 - (lg_sl ([.ref a, .int x1, .int x2])).length) Slot.unset).toArray = ls at hl ⊢
  have hl : lv_has ls 3 [(0, .ref a), (1, .int x1), (2, .int x2)] := hl
  exact t_X13_thiefOf_0 hM hml B.returns B.notSynchronized hc hf _ _ hW _ (lv_sub hl [0, 1, 2] rfl)
abbrev w_X13_starts : List Cond := Cond.code yX13_starts cX13_starts 4 none :: wsL_law0
abbrev RM_X13_starts : Room := { frames := 1, cells := 0, slots := 0, locals := 22 }
noncomputable def f_X13_starts_161s (fu : Nat)  (k161 : Int32 → GV → Option (GV)) (x1 : Int32) (x2 : Int32) (v : GV) : Option (GV) :=
  bd (f_X13_thieves fu v) fun r1 =>
  if r1 ≤ x2 then
    (some v)
  else
    (bd (f_X13_thiefOf fu v x2 (2 : Int32)) fun r3 =>
    ck (inb ((x1 + (43 : Int32)) + x2) 1518) <|
    nm (sA v 24 ((x1 + (43 : Int32)) + x2).toNatClampNeg r3) fun v5 =>
    nm (x2 + (1 : Int32)) fun y6 =>
    k161 y6 v5)
noncomputable def f_X13_starts_161 (fu n : Nat)  (x1 : Int32) : Int32 → GV → Option (GV) :=
  lq_2 (fun k161 => f_X13_starts_161s fu  k161 x1) n
set_option maxHeartbeats 4000000 in
set_option maxRecDepth 100000 in
theorem t_X13_starts_161s {G : GG} {p : Program} {l : Launch} {e : Env} {s : State} {m : MethodId} {args : Array Value} {below : List Frame} {meth : Method} {c : Code} {S : ST} {fu : Nat} {z : GV} {a : Nat} {v0 : GV}  (hM : MC G p s m args c cX13_starts w_X13_starts RX13) (hml : c.maxLocals = 4) (hr : meth.sig.returnType = none) (hlk : meth.locks = false) (hc0 : gC v0 = 12) {k161 : Int32 → GV → Option (GV)} {x1 : Int32}  (hk161 : ∀ (x2 : Int32) (v : GV), k161 x2 v = some z → gC v = 12 → ∀ (H : Heap) (locs : List Loc), WB G (st S a v) s H locs → ∀ (ls : Array Slot), lv_has ls 4 [(0, .ref a), (1, .int x1), (2, .int x2)] → W p l e RM_X13_starts s m args below meth c H locs 0 0 (QR G below args s none (st S a v0) (st S a z)) (F0 m 161 ls [])) : ∀ (x2 : Int32) (v : GV), f_X13_starts_161s fu  k161 x1 x2 v = some z → gC v = 12 → ∀ (H : Heap) (locs : List Loc), WB G (st S a v) s H locs → ∀ (ls : Array Slot), lv_has ls 4 [(0, .ref a), (1, .int x1), (2, .int x2)] → W p l e RM_X13_starts s m args below meth c H locs 0 0 (QR G below args s none (st S a v0) (st S a z)) (F0 m 161 ls []) := by
  intro x2 v hf hc H locs hW ls hl
  have hx := hM.1
  have hb := hM.2.1
  refine lv_iload_n hx hb dX13_starts_161 rfl (lv_at hl 2 rfl) ?_
  refine lv_aload_n hx hb dX13_starts_162 rfl (lv_at hl 0 rfl) ?_
  obtain ⟨r1, hr1, hf⟩ := bd_elim hf
  refine b_callVi [] [.int x2] hM hml hl.1 hW hc rfl (by decide) (c_X13_thieves l G fu _ a v hc hr1) (cwV 0 hM.2.2.2.1 (gV mk_RX13_320 im_X13_thieves se_X13_thieves it_RX13 cd_X13_thieves) rfl rfl rfl (by decide +kernel) ⟨Nat.le_of_ble_eq_true rfl, Nat.le_of_ble_eq_true rfl⟩) rfl rfl (Nat.le_of_ble_eq_true rfl) ⟨Nat.zero_le _, Nat.zero_le _⟩ dX13_starts_163 (fun H locs hW hk => ?_)
  refine lv_icmp_ge (tgt := 192) hx hb dX13_starts_166 (by decide) (fun c2 => ?_) (fun c2 => ?_)
  · have hf := if_t c2 hf
    cases hf
    exact W.vret hx hb hr (b_ret0 hW (keep_s2 hc0 hc) _) hW.2.2.2 dX13_starts_192 hlk
  · have hf := if_f c2 hf
    refine lv_aload_n hx hb dX13_starts_169 rfl (lv_at hl 0 rfl) ?_
    refine b_get hM hW 11 24 hc rfl rfl (by decide) wi_X13 (wgm fk_RX13_125) (x := .ref (a + 16)) rfl dX13_starts_170 ?_
    refine lv_iload_n hx hb dX13_starts_173 rfl (lv_at hl 1 rfl) ?_
    refine lv_bipush (v := (43 : Int32)) hx hb dX13_starts_174 (by decide) ?_
    refine lv_iadd hx hb dX13_starts_176 ?_
    refine lv_iload_n hx hb dX13_starts_177 rfl (lv_at hl 2 rfl) ?_
    refine lv_iadd hx hb dX13_starts_178 ?_
    refine lv_aload_n hx hb dX13_starts_179 rfl (lv_at hl 0 rfl) ?_
    refine lv_iload_n hx hb dX13_starts_180 rfl (lv_at hl 2 rfl) ?_
    refine lv_iconst (v := (2 : Int32)) hx hb dX13_starts_181 (by decide) ?_
    obtain ⟨r3, hr3, hf⟩ := bd_elim hf
    refine b_callVi [.int x2, .int (2 : Int32)] [.int ((x1 + (43 : Int32)) + x2), .ref (a + 16)] hM hml hl.1 hW hc rfl (by decide) (c_X13_thiefOf l G fu _ a v _ _ hc hr3) (cwV 2 hM.2.2.2.1 (gV mk_RX13_323 im_X13_thiefOf se_X13_thiefOf it_RX13 cd_X13_thiefOf) rfl rfl rfl (by decide +kernel) ⟨Nat.le_of_ble_eq_true rfl, Nat.le_of_ble_eq_true rfl⟩) rfl rfl (Nat.le_of_ble_eq_true rfl) ⟨Nat.zero_le _, Nat.zero_le _⟩ dX13_starts_182 (fun H locs hW hk => ?_)
    obtain ⟨h4, hf⟩ := ck_elim hf
    refine b_iast (n := 1518) hM hW 11 24 hc (by decide) rfl rfl rfl rfl h4 dX13_starts_185 (fun v5 ev5 hc H locs hW => ?_)
    have hf := nm_at ev5 hf
    obtain ⟨y6, ey6⟩ : ∃ y : Int32, y = x2 + (1 : Int32) := ⟨_, rfl⟩
    have hf := nm_at ey6 hf
    refine lv_iinc (v := y6) (lv' := [(2, .int y6), (0, .ref a), (1, .int x1)]) hx hb dX13_starts_186 hl (k := 2) rfl (by rw [ey6]; rfl) (by decide) rfl (fun ls hl => ?_)
    refine lv_goto (tgt := 161) hx hb dX13_starts_189 (by decide) ?_
    exact hk161 _ _ hf hc _ _ hW _ (lv_sub hl [1, 2, 0] rfl)
theorem t_X13_starts_161 {G : GG} {p : Program} {l : Launch} {e : Env} {s : State} {m : MethodId} {args : Array Value} {below : List Frame} {meth : Method} {c : Code} {S : ST} {fu : Nat} {z : GV} {a : Nat} {v0 : GV}  {x1 : Int32} (hM : MC G p s m args c cX13_starts w_X13_starts RX13) (hml : c.maxLocals = 4) (hr : meth.sig.returnType = none) (hlk : meth.locks = false) (hc0 : gC v0 = 12)  : ∀ {n : Nat} (x2 : Int32) (v : GV), f_X13_starts_161 fu n  x1 x2 v = some z → gC v = 12 → ∀ (H : Heap) (locs : List Loc), WB G (st S a v) s H locs → ∀ (ls : Array Slot), lv_has ls 4 [(0, .ref a), (1, .int x1), (2, .int x2)] → W p l e RM_X13_starts s m args below meth c H locs 0 0 (QR G below args s none (st S a v0) (st S a z)) (F0 m 161 ls []) := by
  intro n
  induction n with
  | zero => intro x2 v hf; cases hf
  | succ n ih => intro x2 v hf; exact t_X13_starts_161s (fu := fu) hM hml hr hlk hc0  (k161 := f_X13_starts_161 fu n  x1) ih _ _ hf
noncomputable def f_X13_starts_114 (fu : Nat) (k39 : Int32 → GV → Option (GV)) (v : GV) (x1 : Int32) (x2 : Int32) (x3 : Int32) (t1 : Int32) (t2 : Int32) : Option (GV) :=
  ck (inb t1 1518) <|
  nm (sA v 24 t1.toNatClampNeg t2) fun v2 =>
  nm ((x3 + (2 : Int32))) fun y3 =>
  ck (inb y3 140) <|
  nm ((gA v2 10 y3.toNatClampNeg)) fun y5 =>
  ck (inb ((x1 + (35 : Int32)) + x2) 1518) <|
  nm (sA v2 24 ((x1 + (35 : Int32)) + x2).toNatClampNeg y5) fun v7 =>
  nm ((x3 + (3 : Int32))) fun y8 =>
  ck (inb y8 140) <|
  nm ((gA v7 10 y8.toNatClampNeg)) fun y10 =>
  ck (inb ((x1 + (11 : Int32)) + x2) 1518) <|
  nm (sA v7 24 ((x1 + (11 : Int32)) + x2).toNatClampNeg y10) fun v12 =>
  nm (x2 + (1 : Int32)) fun y13 =>
  k39 y13 v12
set_option maxHeartbeats 4000000 in
set_option maxRecDepth 100000 in
theorem t_X13_starts_114 {G : GG} {p : Program} {l : Launch} {e : Env} {s : State} {m : MethodId} {args : Array Value} {below : List Frame} {meth : Method} {c : Code} {S : ST} {fu : Nat} {z : GV} {a : Nat} {v0 : GV} {k39 : Int32 → GV → Option (GV)} {v : GV} {x1 : Int32} {x2 : Int32} {x3 : Int32} {t1 : Int32} {t2 : Int32} (hM : MC G p s m args c cX13_starts w_X13_starts RX13) (hml : c.maxLocals = 4) (hr : meth.sig.returnType = none) (hlk : meth.locks = false) (hc0 : gC v0 = 12) (hk39 : ∀ (x2 : Int32) (v : GV), k39 x2 v = some z → gC v = 12 → ∀ (H : Heap) (locs : List Loc), WB G (st S a v) s H locs → ∀ (ls : Array Slot), lv_has ls 4 [(0, .ref a), (1, .int x1), (2, .int x2)] → W p l e RM_X13_starts s m args below meth c H locs 0 0 (QR G below args s none (st S a v0) (st S a z)) (F0 m 39 ls [])) (hf : f_X13_starts_114 fu k39 v x1 x2 x3 t1 t2 = some z) : gC v = 12 → ∀ (H : Heap) (locs : List Loc), WB G (st S a v) s H locs → ∀ (ls : Array Slot), lv_has ls 4 [(0, .ref a), (1, .int x1), (2, .int x2), (3, .int x3)] → W p l e RM_X13_starts s m args below meth c H locs 0 0 (QR G below args s none (st S a v0) (st S a z)) (F0 m 114 ls [.int t2, .int t1, .ref (a + 16)]) := by
  intro hc H locs hW ls hl
  have hx := hM.1
  have hb := hM.2.1
  obtain ⟨h1, hf⟩ := ck_elim hf
  refine b_iast (n := 1518) hM hW 11 24 hc (by decide) rfl rfl rfl rfl h1 dX13_starts_114 (fun v2 ev2 hc H locs hW => ?_)
  have hf := nm_at ev2 hf
  refine lv_aload_n hx hb dX13_starts_115 rfl (lv_at hl 0 rfl) ?_
  refine b_get hM hW 11 24 hc rfl rfl (by decide) wi_X13 (wgm fk_RX13_125) (x := .ref (a + 16)) rfl dX13_starts_116 ?_
  refine lv_iload_n hx hb dX13_starts_119 rfl (lv_at hl 1 rfl) ?_
  refine lv_bipush (v := (35 : Int32)) hx hb dX13_starts_120 (by decide) ?_
  refine lv_iadd hx hb dX13_starts_122 ?_
  refine lv_iload_n hx hb dX13_starts_123 rfl (lv_at hl 2 rfl) ?_
  refine lv_iadd hx hb dX13_starts_124 ?_
  refine lv_aload_n hx hb dX13_starts_125 rfl (lv_at hl 0 rfl) ?_
  refine b_get hM hW 11 10 hc rfl rfl (by decide) wi_X13 (wgm fk_RX13_95) (x := .ref (a + 6)) rfl dX13_starts_126 ?_
  refine lv_iload_n hx hb dX13_starts_129 rfl (lv_at hl 3 rfl) ?_
  refine lv_iconst (v := (2 : Int32)) hx hb dX13_starts_130 (by decide) ?_
  refine lv_iadd hx hb dX13_starts_131 ?_
  refine lv_topi (fun y3 ey3 => ?_)
  have hf := nm_at ey3 hf
  obtain ⟨h4, hf⟩ := ck_elim hf
  refine b_iald (n := 140) hM hW 11 10 hc (by decide) rfl rfl rfl rfl h4 dX13_starts_132 ?_
  refine lv_topi (fun y5 ey5 => ?_)
  have hf := nm_at ey5 hf
  obtain ⟨h6, hf⟩ := ck_elim hf
  refine b_iast (n := 1518) hM hW 11 24 hc (by decide) rfl rfl rfl rfl h6 dX13_starts_133 (fun v7 ev7 hc H locs hW => ?_)
  have hf := nm_at ev7 hf
  refine lv_aload_n hx hb dX13_starts_134 rfl (lv_at hl 0 rfl) ?_
  refine b_get hM hW 11 24 hc rfl rfl (by decide) wi_X13 (wgm fk_RX13_125) (x := .ref (a + 16)) rfl dX13_starts_135 ?_
  refine lv_iload_n hx hb dX13_starts_138 rfl (lv_at hl 1 rfl) ?_
  refine lv_bipush (v := (11 : Int32)) hx hb dX13_starts_139 (by decide) ?_
  refine lv_iadd hx hb dX13_starts_141 ?_
  refine lv_iload_n hx hb dX13_starts_142 rfl (lv_at hl 2 rfl) ?_
  refine lv_iadd hx hb dX13_starts_143 ?_
  refine lv_aload_n hx hb dX13_starts_144 rfl (lv_at hl 0 rfl) ?_
  refine b_get hM hW 11 10 hc rfl rfl (by decide) wi_X13 (wgm fk_RX13_95) (x := .ref (a + 6)) rfl dX13_starts_145 ?_
  refine lv_iload_n hx hb dX13_starts_148 rfl (lv_at hl 3 rfl) ?_
  refine lv_iconst (v := (3 : Int32)) hx hb dX13_starts_149 (by decide) ?_
  refine lv_iadd hx hb dX13_starts_150 ?_
  refine lv_topi (fun y8 ey8 => ?_)
  have hf := nm_at ey8 hf
  obtain ⟨h9, hf⟩ := ck_elim hf
  refine b_iald (n := 140) hM hW 11 10 hc (by decide) rfl rfl rfl rfl h9 dX13_starts_151 ?_
  refine lv_topi (fun y10 ey10 => ?_)
  have hf := nm_at ey10 hf
  obtain ⟨h11, hf⟩ := ck_elim hf
  refine b_iast (n := 1518) hM hW 11 24 hc (by decide) rfl rfl rfl rfl h11 dX13_starts_152 (fun v12 ev12 hc H locs hW => ?_)
  have hf := nm_at ev12 hf
  obtain ⟨y13, ey13⟩ : ∃ y : Int32, y = x2 + (1 : Int32) := ⟨_, rfl⟩
  have hf := nm_at ey13 hf
  refine lv_iinc (v := y13) (lv' := [(2, .int y13), (0, .ref a), (1, .int x1), (3, .int x3)]) hx hb dX13_starts_153 hl (k := 2) rfl (by rw [ey13]; rfl) (by decide) rfl (fun ls hl => ?_)
  refine lv_goto (tgt := 39) hx hb dX13_starts_156 (by decide) ?_
  exact hk39 _ _ hf hc _ _ hW _ (lv_sub hl [1, 2, 0] rfl)
noncomputable def f_X13_starts_39s (fu : Nat)  (k39 : Int32 → GV → Option (GV)) (x1 : Int32) (x2 : Int32) (v : GV) : Option (GV) :=
  if (gA v 10 (3 : Int32).toNatClampNeg) ≤ x2 then
    (f_X13_starts_161 fu fu x1 (0 : Int32) v)
  else
    (nm (((30 : Int32) + ((4 : Int32) * x2))) fun y2 =>
    ck (inb y2 140) <|
    nm ((gA v 10 y2.toNatClampNeg)) fun y4 =>
    ck (inb ((x1 + (27 : Int32)) + x2) 1518) <|
    nm (sA v 24 ((x1 + (27 : Int32)) + x2).toNatClampNeg y4) fun v6 =>
    if x2 = 0 then
      (f_X13_starts_114 fu k39 v6 x1 x2 y2 ((x1 + (3 : Int32)) + x2) (0 : Int32))
    else
      (ck (inb y2 140) <|
      nm (((x1 + (3 : Int32)) + (gA v6 10 y2.toNatClampNeg))) fun y9 =>
      ck (inb y9 1518) <|
      nm ((y2 + (1 : Int32))) fun y11 =>
      ck (inb y11 140) <|
      f_X13_starts_114 fu k39 v6 x1 x2 y2 ((x1 + (3 : Int32)) + x2) ((gA v6 24 y9.toNatClampNeg) ^^^ (gA v6 10 y11.toNatClampNeg))))
noncomputable def f_X13_starts_39 (fu n : Nat)  (x1 : Int32) : Int32 → GV → Option (GV) :=
  lq_2 (fun k39 => f_X13_starts_39s fu  k39 x1) n
set_option maxHeartbeats 4000000 in
set_option maxRecDepth 100000 in
theorem t_X13_starts_39s {G : GG} {p : Program} {l : Launch} {e : Env} {s : State} {m : MethodId} {args : Array Value} {below : List Frame} {meth : Method} {c : Code} {S : ST} {fu : Nat} {z : GV} {a : Nat} {v0 : GV}  (hM : MC G p s m args c cX13_starts w_X13_starts RX13) (hml : c.maxLocals = 4) (hr : meth.sig.returnType = none) (hlk : meth.locks = false) (hc0 : gC v0 = 12) {k39 : Int32 → GV → Option (GV)} {x1 : Int32}  (hk39 : ∀ (x2 : Int32) (v : GV), k39 x2 v = some z → gC v = 12 → ∀ (H : Heap) (locs : List Loc), WB G (st S a v) s H locs → ∀ (ls : Array Slot), lv_has ls 4 [(0, .ref a), (1, .int x1), (2, .int x2)] → W p l e RM_X13_starts s m args below meth c H locs 0 0 (QR G below args s none (st S a v0) (st S a z)) (F0 m 39 ls [])) : ∀ (x2 : Int32) (v : GV), f_X13_starts_39s fu  k39 x1 x2 v = some z → gC v = 12 → ∀ (H : Heap) (locs : List Loc), WB G (st S a v) s H locs → ∀ (ls : Array Slot), lv_has ls 4 [(0, .ref a), (1, .int x1), (2, .int x2)] → W p l e RM_X13_starts s m args below meth c H locs 0 0 (QR G below args s none (st S a v0) (st S a z)) (F0 m 39 ls []) := by
  intro x2 v hf hc H locs hW ls hl
  have hx := hM.1
  have hb := hM.2.1
  refine lv_iload_n hx hb dX13_starts_39 rfl (lv_at hl 2 rfl) ?_
  refine lv_aload_n hx hb dX13_starts_40 rfl (lv_at hl 0 rfl) ?_
  refine b_get hM hW 11 10 hc rfl rfl (by decide) wi_X13 (wgm fk_RX13_95) (x := .ref (a + 6)) rfl dX13_starts_41 ?_
  refine lv_iconst (v := (3 : Int32)) hx hb dX13_starts_44 (by decide) ?_
  refine b_iald (n := 140) hM hW 11 10 hc (by decide) rfl rfl rfl rfl (by decide) dX13_starts_45 ?_
  refine lv_icmp_ge (tgt := 159) hx hb dX13_starts_46 (by decide) (fun c1 => ?_) (fun c1 => ?_)
  · have hf := if_t c1 hf
    refine lv_iconst (v := (0 : Int32)) hx hb dX13_starts_159 (by decide) ?_
    refine lv_istore_n (lv' := [(2, .int (0 : Int32)), (0, .ref a), (1, .int x1)]) hx hb dX13_starts_160 rfl hl (by decide) rfl (fun ls hl => ?_)
    exact t_X13_starts_161 (fu := fu) hM hml hr hlk hc0 _ _ hf hc _ _ hW _ (lv_sub hl [1, 2, 0] rfl)
  · have hf := if_f c1 hf
    refine lv_bipush (v := (30 : Int32)) hx hb dX13_starts_49 (by decide) ?_
    refine lv_iconst (v := (4 : Int32)) hx hb dX13_starts_51 (by decide) ?_
    refine lv_iload_n hx hb dX13_starts_52 rfl (lv_at hl 2 rfl) ?_
    refine lv_imul hx hb dX13_starts_53 ?_
    refine lv_iadd hx hb dX13_starts_54 ?_
    refine lv_topi (fun y2 ey2 => ?_)
    have hf := nm_at ey2 hf
    refine lv_istore_n (lv' := [(3, .int y2), (0, .ref a), (1, .int x1), (2, .int x2)]) hx hb dX13_starts_55 rfl hl (by decide) rfl (fun ls hl => ?_)
    refine lv_aload_n hx hb dX13_starts_56 rfl (lv_at hl 1 rfl) ?_
    refine b_get hM hW 11 24 hc rfl rfl (by decide) wi_X13 (wgm fk_RX13_125) (x := .ref (a + 16)) rfl dX13_starts_57 ?_
    refine lv_iload_n hx hb dX13_starts_60 rfl (lv_at hl 2 rfl) ?_
    refine lv_bipush (v := (27 : Int32)) hx hb dX13_starts_61 (by decide) ?_
    refine lv_iadd hx hb dX13_starts_63 ?_
    refine lv_iload_n hx hb dX13_starts_64 rfl (lv_at hl 3 rfl) ?_
    refine lv_iadd hx hb dX13_starts_65 ?_
    refine lv_aload_n hx hb dX13_starts_66 rfl (lv_at hl 1 rfl) ?_
    refine b_get hM hW 11 10 hc rfl rfl (by decide) wi_X13 (wgm fk_RX13_95) (x := .ref (a + 6)) rfl dX13_starts_67 ?_
    refine lv_iload_n hx hb dX13_starts_70 rfl (lv_at hl 0 rfl) ?_
    obtain ⟨h3, hf⟩ := ck_elim hf
    refine b_iald (n := 140) hM hW 11 10 hc (by decide) rfl rfl rfl rfl h3 dX13_starts_71 ?_
    refine lv_topi (fun y4 ey4 => ?_)
    have hf := nm_at ey4 hf
    obtain ⟨h5, hf⟩ := ck_elim hf
    refine b_iast (n := 1518) hM hW 11 24 hc (by decide) rfl rfl rfl rfl h5 dX13_starts_72 (fun v6 ev6 hc H locs hW => ?_)
    have hf := nm_at ev6 hf
    refine lv_aload_n hx hb dX13_starts_73 rfl (lv_at hl 1 rfl) ?_
    refine b_get hM hW 11 24 hc rfl rfl (by decide) wi_X13 (wgm fk_RX13_125) (x := .ref (a + 16)) rfl dX13_starts_74 ?_
    refine lv_iload_n hx hb dX13_starts_77 rfl (lv_at hl 2 rfl) ?_
    refine lv_iconst (v := (3 : Int32)) hx hb dX13_starts_78 (by decide) ?_
    refine lv_iadd hx hb dX13_starts_79 ?_
    refine lv_iload_n hx hb dX13_starts_80 rfl (lv_at hl 3 rfl) ?_
    refine lv_iadd hx hb dX13_starts_81 ?_
    refine lv_iload_n hx hb dX13_starts_82 rfl (lv_at hl 3 rfl) ?_
    refine lv_if_ne (tgt := 90) hx hb dX13_starts_83 (by decide) (fun c7 => ?_) (fun c7 => ?_)
    · have hf := if_f c7 hf
      refine lv_aload_n hx hb dX13_starts_90 rfl (lv_at hl 1 rfl) ?_
      refine b_get hM hW 11 24 hc rfl rfl (by decide) wi_X13 (wgm fk_RX13_125) (x := .ref (a + 16)) rfl dX13_starts_91 ?_
      refine lv_iload_n hx hb dX13_starts_94 rfl (lv_at hl 2 rfl) ?_
      refine lv_iconst (v := (3 : Int32)) hx hb dX13_starts_95 (by decide) ?_
      refine lv_iadd hx hb dX13_starts_96 ?_
      refine lv_aload_n hx hb dX13_starts_97 rfl (lv_at hl 1 rfl) ?_
      refine b_get hM hW 11 10 hc rfl rfl (by decide) wi_X13 (wgm fk_RX13_95) (x := .ref (a + 6)) rfl dX13_starts_98 ?_
      refine lv_iload_n hx hb dX13_starts_101 rfl (lv_at hl 0 rfl) ?_
      obtain ⟨h8, hf⟩ := ck_elim hf
      refine b_iald (n := 140) hM hW 11 10 hc (by decide) rfl rfl rfl rfl h8 dX13_starts_102 ?_
      refine lv_iadd hx hb dX13_starts_103 ?_
      refine lv_topi (fun y9 ey9 => ?_)
      have hf := nm_at ey9 hf
      obtain ⟨h10, hf⟩ := ck_elim hf
      refine b_iald (n := 1518) hM hW 11 24 hc (by decide) rfl rfl rfl rfl h10 dX13_starts_104 ?_
      refine lv_aload_n hx hb dX13_starts_105 rfl (lv_at hl 1 rfl) ?_
      refine b_get hM hW 11 10 hc rfl rfl (by decide) wi_X13 (wgm fk_RX13_95) (x := .ref (a + 6)) rfl dX13_starts_106 ?_
      refine lv_iload_n hx hb dX13_starts_109 rfl (lv_at hl 0 rfl) ?_
      refine lv_iconst (v := (1 : Int32)) hx hb dX13_starts_110 (by decide) ?_
      refine lv_iadd hx hb dX13_starts_111 ?_
      refine lv_topi (fun y11 ey11 => ?_)
      have hf := nm_at ey11 hf
      obtain ⟨h12, hf⟩ := ck_elim hf
      refine b_iald (n := 140) hM hW 11 10 hc (by decide) rfl rfl rfl rfl h12 dX13_starts_112 ?_
      refine lv_ixor hx hb dX13_starts_113 ?_
      exact t_X13_starts_114 (fu := fu) hM hml hr hlk hc0 hk39 hf hc _ _ hW _ (lv_sub hl [1, 2, 3, 0] rfl)
    · have hf := if_t c7 hf
      refine lv_iconst (v := (0 : Int32)) hx hb dX13_starts_86 (by decide) ?_
      refine lv_goto (tgt := 114) hx hb dX13_starts_87 (by decide) ?_
      exact t_X13_starts_114 (fu := fu) hM hml hr hlk hc0 hk39 hf hc _ _ hW _ (lv_sub hl [1, 2, 3, 0] rfl)
theorem t_X13_starts_39 {G : GG} {p : Program} {l : Launch} {e : Env} {s : State} {m : MethodId} {args : Array Value} {below : List Frame} {meth : Method} {c : Code} {S : ST} {fu : Nat} {z : GV} {a : Nat} {v0 : GV}  {x1 : Int32} (hM : MC G p s m args c cX13_starts w_X13_starts RX13) (hml : c.maxLocals = 4) (hr : meth.sig.returnType = none) (hlk : meth.locks = false) (hc0 : gC v0 = 12)  : ∀ {n : Nat} (x2 : Int32) (v : GV), f_X13_starts_39 fu n  x1 x2 v = some z → gC v = 12 → ∀ (H : Heap) (locs : List Loc), WB G (st S a v) s H locs → ∀ (ls : Array Slot), lv_has ls 4 [(0, .ref a), (1, .int x1), (2, .int x2)] → W p l e RM_X13_starts s m args below meth c H locs 0 0 (QR G below args s none (st S a v0) (st S a z)) (F0 m 39 ls []) := by
  intro n
  induction n with
  | zero => intro x2 v hf; cases hf
  | succ n ih => intro x2 v hf; exact t_X13_starts_39s (fu := fu) hM hml hr hlk hc0  (k39 := f_X13_starts_39 fu n  x1) ih _ _ hf
noncomputable def f_X13_starts_2s (fu : Nat)  (k2 : Int32 → GV → Option (GV)) (x1 : Int32) (x2 : Int32) (v : GV) : Option (GV) :=
  if (48 : Int32) ≤ x2 then
    (nm ((gA v 10 (3 : Int32).toNatClampNeg)) fun y2 =>
    ck (inb (x1 + (2 : Int32)) 1518) <|
    nm (sA v 24 (x1 + (2 : Int32)).toNatClampNeg y2) fun v4 =>
    f_X13_starts_39 fu fu x1 (0 : Int32) v4)
  else
    (ck (inb (x1 + x2) 1518) <|
    nm (sA v 24 (x1 + x2).toNatClampNeg (0 : Int32)) fun v6 =>
    nm (x2 + (1 : Int32)) fun y7 =>
    k2 y7 v6)
noncomputable def f_X13_starts_2 (fu n : Nat)  (x1 : Int32) : Int32 → GV → Option (GV) :=
  lq_2 (fun k2 => f_X13_starts_2s fu  k2 x1) n
set_option maxHeartbeats 4000000 in
set_option maxRecDepth 100000 in
theorem t_X13_starts_2s {G : GG} {p : Program} {l : Launch} {e : Env} {s : State} {m : MethodId} {args : Array Value} {below : List Frame} {meth : Method} {c : Code} {S : ST} {fu : Nat} {z : GV} {a : Nat} {v0 : GV}  (hM : MC G p s m args c cX13_starts w_X13_starts RX13) (hml : c.maxLocals = 4) (hr : meth.sig.returnType = none) (hlk : meth.locks = false) (hc0 : gC v0 = 12) {k2 : Int32 → GV → Option (GV)} {x1 : Int32}  (hk2 : ∀ (x2 : Int32) (v : GV), k2 x2 v = some z → gC v = 12 → ∀ (H : Heap) (locs : List Loc), WB G (st S a v) s H locs → ∀ (ls : Array Slot), lv_has ls 4 [(0, .ref a), (1, .int x1), (2, .int x2)] → W p l e RM_X13_starts s m args below meth c H locs 0 0 (QR G below args s none (st S a v0) (st S a z)) (F0 m 2 ls [])) : ∀ (x2 : Int32) (v : GV), f_X13_starts_2s fu  k2 x1 x2 v = some z → gC v = 12 → ∀ (H : Heap) (locs : List Loc), WB G (st S a v) s H locs → ∀ (ls : Array Slot), lv_has ls 4 [(0, .ref a), (1, .int x1), (2, .int x2)] → W p l e RM_X13_starts s m args below meth c H locs 0 0 (QR G below args s none (st S a v0) (st S a z)) (F0 m 2 ls []) := by
  intro x2 v hf hc H locs hW ls hl
  have hx := hM.1
  have hb := hM.2.1
  refine lv_iload_n hx hb dX13_starts_2 rfl (lv_at hl 2 rfl) ?_
  refine lv_bipush (v := (48 : Int32)) hx hb dX13_starts_3 (by decide) ?_
  refine lv_icmp_ge (tgt := 23) hx hb dX13_starts_5 (by decide) (fun c1 => ?_) (fun c1 => ?_)
  · have hf := if_t c1 hf
    refine lv_aload_n hx hb dX13_starts_23 rfl (lv_at hl 0 rfl) ?_
    refine b_get hM hW 11 24 hc rfl rfl (by decide) wi_X13 (wgm fk_RX13_125) (x := .ref (a + 16)) rfl dX13_starts_24 ?_
    refine lv_iload_n hx hb dX13_starts_27 rfl (lv_at hl 1 rfl) ?_
    refine lv_iconst (v := (2 : Int32)) hx hb dX13_starts_28 (by decide) ?_
    refine lv_iadd hx hb dX13_starts_29 ?_
    refine lv_aload_n hx hb dX13_starts_30 rfl (lv_at hl 0 rfl) ?_
    refine b_get hM hW 11 10 hc rfl rfl (by decide) wi_X13 (wgm fk_RX13_95) (x := .ref (a + 6)) rfl dX13_starts_31 ?_
    refine lv_iconst (v := (3 : Int32)) hx hb dX13_starts_34 (by decide) ?_
    refine b_iald (n := 140) hM hW 11 10 hc (by decide) rfl rfl rfl rfl (by decide) dX13_starts_35 ?_
    refine lv_topi (fun y2 ey2 => ?_)
    have hf := nm_at ey2 hf
    obtain ⟨h3, hf⟩ := ck_elim hf
    refine b_iast (n := 1518) hM hW 11 24 hc (by decide) rfl rfl rfl rfl h3 dX13_starts_36 (fun v4 ev4 hc H locs hW => ?_)
    have hf := nm_at ev4 hf
    refine lv_iconst (v := (0 : Int32)) hx hb dX13_starts_37 (by decide) ?_
    refine lv_istore_n (lv' := [(2, .int (0 : Int32)), (0, .ref a), (1, .int x1)]) hx hb dX13_starts_38 rfl hl (by decide) rfl (fun ls hl => ?_)
    exact t_X13_starts_39 (fu := fu) hM hml hr hlk hc0 _ _ hf hc _ _ hW _ (lv_sub hl [1, 2, 0] rfl)
  · have hf := if_f c1 hf
    refine lv_aload_n hx hb dX13_starts_8 rfl (lv_at hl 0 rfl) ?_
    refine b_get hM hW 11 24 hc rfl rfl (by decide) wi_X13 (wgm fk_RX13_125) (x := .ref (a + 16)) rfl dX13_starts_9 ?_
    refine lv_iload_n hx hb dX13_starts_12 rfl (lv_at hl 1 rfl) ?_
    refine lv_iload_n hx hb dX13_starts_13 rfl (lv_at hl 2 rfl) ?_
    refine lv_iadd hx hb dX13_starts_14 ?_
    refine lv_iconst (v := (0 : Int32)) hx hb dX13_starts_15 (by decide) ?_
    obtain ⟨h5, hf⟩ := ck_elim hf
    refine b_iast (n := 1518) hM hW 11 24 hc (by decide) rfl rfl rfl rfl h5 dX13_starts_16 (fun v6 ev6 hc H locs hW => ?_)
    have hf := nm_at ev6 hf
    obtain ⟨y7, ey7⟩ : ∃ y : Int32, y = x2 + (1 : Int32) := ⟨_, rfl⟩
    have hf := nm_at ey7 hf
    refine lv_iinc (v := y7) (lv' := [(2, .int y7), (0, .ref a), (1, .int x1)]) hx hb dX13_starts_17 hl (k := 2) rfl (by rw [ey7]; rfl) (by decide) rfl (fun ls hl => ?_)
    refine lv_goto (tgt := 2) hx hb dX13_starts_20 (by decide) ?_
    exact hk2 _ _ hf hc _ _ hW _ (lv_sub hl [1, 2, 0] rfl)
theorem t_X13_starts_2 {G : GG} {p : Program} {l : Launch} {e : Env} {s : State} {m : MethodId} {args : Array Value} {below : List Frame} {meth : Method} {c : Code} {S : ST} {fu : Nat} {z : GV} {a : Nat} {v0 : GV}  {x1 : Int32} (hM : MC G p s m args c cX13_starts w_X13_starts RX13) (hml : c.maxLocals = 4) (hr : meth.sig.returnType = none) (hlk : meth.locks = false) (hc0 : gC v0 = 12)  : ∀ {n : Nat} (x2 : Int32) (v : GV), f_X13_starts_2 fu n  x1 x2 v = some z → gC v = 12 → ∀ (H : Heap) (locs : List Loc), WB G (st S a v) s H locs → ∀ (ls : Array Slot), lv_has ls 4 [(0, .ref a), (1, .int x1), (2, .int x2)] → W p l e RM_X13_starts s m args below meth c H locs 0 0 (QR G below args s none (st S a v0) (st S a z)) (F0 m 2 ls []) := by
  intro n
  induction n with
  | zero => intro x2 v hf; cases hf
  | succ n ih => intro x2 v hf; exact t_X13_starts_2s (fu := fu) hM hml hr hlk hc0  (k2 := f_X13_starts_2 fu n  x1) ih _ _ hf
noncomputable def f_X13_starts_0 (fu : Nat)  (v : GV) (x1 : Int32) : Option (GV) :=
  f_X13_starts_2 fu fu x1 (0 : Int32) v
set_option maxHeartbeats 4000000 in
set_option maxRecDepth 100000 in
theorem t_X13_starts_0 {G : GG} {p : Program} {l : Launch} {e : Env} {s : State} {m : MethodId} {args : Array Value} {below : List Frame} {meth : Method} {c : Code} {S : ST} {fu : Nat} {z : GV} {a : Nat} {v0 : GV}  {v : GV} {x1 : Int32} (hM : MC G p s m args c cX13_starts w_X13_starts RX13) (hml : c.maxLocals = 4) (hr : meth.sig.returnType = none) (hlk : meth.locks = false) (hc0 : gC v0 = 12)  (hf : f_X13_starts_0 fu  v x1 = some z) : gC v = 12 → ∀ (H : Heap) (locs : List Loc), WB G (st S a v) s H locs → ∀ (ls : Array Slot), lv_has ls 4 [(0, .ref a), (1, .int x1)] → W p l e RM_X13_starts s m args below meth c H locs 0 0 (QR G below args s none (st S a v0) (st S a z)) (F0 m 0 ls []) := by
  intro hc H locs hW ls hl
  have hx := hM.1
  have hb := hM.2.1
  refine lv_iconst (v := (0 : Int32)) hx hb dX13_starts_0 (by decide) ?_
  refine lv_istore_n (lv' := [(2, .int (0 : Int32)), (0, .ref a), (1, .int x1)]) hx hb dX13_starts_1 rfl hl (by decide) rfl (fun ls hl => ?_)
  exact t_X13_starts_2 (fu := fu) hM hml hr hlk hc0 _ _ hf hc _ _ hW _ (lv_sub hl [1, 2, 0] rfl)
noncomputable def f_X13_starts (fu : Nat) (v : GV) (x1 : Int32) : Option (GV) := f_X13_starts_0 fu v x1
set_option maxHeartbeats 4000000 in
set_option maxRecDepth 100000 in
theorem c_X13_starts (l : Launch) (G : GG) (fu : Nat) (S : ST) (a : Nat) (v : GV) (x1 : Int32) {z : GV} (hc : gC v = 12) (hf : f_X13_starts fu v x1 = some z) : Ct l yX13_starts w_X13_starts RM_X13_starts G (st S a v) [.ref a, .int x1] none (st S a z) 0 0 := by
  refine Met.ofW (cc := cX13_starts) (maxL := 4) (ret := none) (by decide) rfl ?_
  intro p e s m args below meth c s₁ B hml hv
  obtain ⟨rfl, hB, hK, hz⟩ := hv
  have hM : MC G p s m _ c cX13_starts w_X13_starts RX13 := ⟨B.exec, B.bytes, findClass_of_methodNamed B.named, atoms_spec (ws := w_X13_starts) B.pre, hK, hz⟩
  have hW : WB G (st S a v) s s.heap [] := ⟨hB, va_S.rf⟩
  have hl := lv_entry ([.ref a, .int x1]) (n := 4) (Nat.le_of_ble_eq_true rfl)
  rw [lg_entry_eq]
  generalize (lg_sl ([.ref a, .int x1]) ++ List.replicate (4 - (lg_sl ([.ref a, .int x1])).length) Slot.unset).toArray = ls at hl ⊢
  have hl : lv_has ls 4 [(0, .ref a), (1, .int x1)] := hl
  exact t_X13_starts_0 hM hml B.returns B.notSynchronized hc hf hc _ _ hW _ (lv_sub hl [0, 1] rfl)
abbrev w_X13_begins : List Cond := Cond.code yX13_begins cX13_begins 2 none :: wsL_law0
abbrev RM_X13_begins : Room := { frames := 2, cells := 0, slots := 0, locals := 45 }
noncomputable def f_X13_begins_27s (fu : Nat)  (k27 : Int32 → GV → Option (GV)) (x1 : Int32) (v : GV) : Option (GV) :=
  if (4 : Int32) ≤ x1 then
    (some v)
  else
    (ck (inb x1 4) <|
    nm (sA v 26 x1.toNatClampNeg (vp_nar .boolean (0 : Int32))) fun v3 =>
    nm (x1 + (1 : Int32)) fun y4 =>
    k27 y4 v3)
noncomputable def f_X13_begins_27 (fu n : Nat)  : Int32 → GV → Option (GV) :=
  lq_2 (fun k27 => f_X13_begins_27s fu  k27 ) n
set_option maxHeartbeats 4000000 in
set_option maxRecDepth 100000 in
theorem t_X13_begins_27s {G : GG} {p : Program} {l : Launch} {e : Env} {s : State} {m : MethodId} {args : Array Value} {below : List Frame} {meth : Method} {c : Code} {S : ST} {fu : Nat} {z : GV} {a : Nat} {v0 : GV}  (hM : MC G p s m args c cX13_begins w_X13_begins RX13) (hml : c.maxLocals = 2) (hr : meth.sig.returnType = none) (hlk : meth.locks = false) (hc0 : gC v0 = 12) {k27 : Int32 → GV → Option (GV)}  (hk27 : ∀ (x1 : Int32) (v : GV), k27 x1 v = some z → gC v = 12 → ∀ (H : Heap) (locs : List Loc), WB G (st S a v) s H locs → ∀ (ls : Array Slot), lv_has ls 2 [(0, .ref a), (1, .int x1)] → W p l e RM_X13_begins s m args below meth c H locs 0 0 (QR G below args s none (st S a v0) (st S a z)) (F0 m 27 ls [])) : ∀ (x1 : Int32) (v : GV), f_X13_begins_27s fu  k27  x1 v = some z → gC v = 12 → ∀ (H : Heap) (locs : List Loc), WB G (st S a v) s H locs → ∀ (ls : Array Slot), lv_has ls 2 [(0, .ref a), (1, .int x1)] → W p l e RM_X13_begins s m args below meth c H locs 0 0 (QR G below args s none (st S a v0) (st S a z)) (F0 m 27 ls []) := by
  intro x1 v hf hc H locs hW ls hl
  have hx := hM.1
  have hb := hM.2.1
  refine lv_iload_n hx hb dX13_begins_27 rfl (lv_at hl 1 rfl) ?_
  refine lv_iconst (v := (4 : Int32)) hx hb dX13_begins_28 (by decide) ?_
  refine lv_icmp_ge (tgt := 45) hx hb dX13_begins_29 (by decide) (fun c1 => ?_) (fun c1 => ?_)
  · have hf := if_t c1 hf
    cases hf
    exact W.vret hx hb hr (b_ret0 hW (keep_s2 hc0 hc) _) hW.2.2.2 dX13_begins_45 hlk
  · have hf := if_f c1 hf
    refine lv_aload_n hx hb dX13_begins_32 rfl (lv_at hl 0 rfl) ?_
    refine b_get hM hW 11 26 hc rfl rfl (by decide) wi_X13 (wgm fk_RX13_128) (x := .ref (a + 17)) rfl dX13_begins_33 ?_
    refine lv_iload_n hx hb dX13_begins_36 rfl (lv_at hl 1 rfl) ?_
    refine lv_iconst (v := (0 : Int32)) hx hb dX13_begins_37 (by decide) ?_
    obtain ⟨h2, hf⟩ := ck_elim hf
    refine b_zast (n := 4) hM hW 11 26 hc (by decide) rfl rfl rfl rfl h2 dX13_begins_38 (fun v3 ev3 hc H locs hW => ?_)
    have hf := nm_at ev3 hf
    obtain ⟨y4, ey4⟩ : ∃ y : Int32, y = x1 + (1 : Int32) := ⟨_, rfl⟩
    have hf := nm_at ey4 hf
    refine lv_iinc (v := y4) (lv' := [(1, .int y4), (0, .ref a)]) hx hb dX13_begins_39 hl (k := 1) rfl (by rw [ey4]; rfl) (by decide) rfl (fun ls hl => ?_)
    refine lv_goto (tgt := 27) hx hb dX13_begins_42 (by decide) ?_
    exact hk27 _ _ hf hc _ _ hW _ (lv_sub hl [1, 0] rfl)
theorem t_X13_begins_27 {G : GG} {p : Program} {l : Launch} {e : Env} {s : State} {m : MethodId} {args : Array Value} {below : List Frame} {meth : Method} {c : Code} {S : ST} {fu : Nat} {z : GV} {a : Nat} {v0 : GV}  (hM : MC G p s m args c cX13_begins w_X13_begins RX13) (hml : c.maxLocals = 2) (hr : meth.sig.returnType = none) (hlk : meth.locks = false) (hc0 : gC v0 = 12)  : ∀ {n : Nat} (x1 : Int32) (v : GV), f_X13_begins_27 fu n   x1 v = some z → gC v = 12 → ∀ (H : Heap) (locs : List Loc), WB G (st S a v) s H locs → ∀ (ls : Array Slot), lv_has ls 2 [(0, .ref a), (1, .int x1)] → W p l e RM_X13_begins s m args below meth c H locs 0 0 (QR G below args s none (st S a v0) (st S a z)) (F0 m 27 ls []) := by
  intro n
  induction n with
  | zero => intro x1 v hf; cases hf
  | succ n ih => intro x1 v hf; exact t_X13_begins_27s (fu := fu) hM hml hr hlk hc0  (k27 := f_X13_begins_27 fu n  ) ih _ _ hf
noncomputable def f_X13_begins_0 (fu : Nat)  (v : GV) : Option (GV) :=
  bd (f_X13_starts fu v (0 : Int32)) fun v2 =>
  nm (sA v2 24 (48 : Int32).toNatClampNeg (0 : Int32)) fun v3 =>
  nm (sA v3 21 (0 : Int32).toNatClampNeg (0 : Int32)) fun v4 =>
  nm (sI v4 25 (0 : Int32)) fun v5 =>
  f_X13_begins_27 fu fu (0 : Int32) v5
set_option maxHeartbeats 4000000 in
set_option maxRecDepth 100000 in
theorem t_X13_begins_0 {G : GG} {p : Program} {l : Launch} {e : Env} {s : State} {m : MethodId} {args : Array Value} {below : List Frame} {meth : Method} {c : Code} {S : ST} {fu : Nat} {z : GV} {a : Nat} {v0 : GV}  {v : GV} (hM : MC G p s m args c cX13_begins w_X13_begins RX13) (hml : c.maxLocals = 2) (hr : meth.sig.returnType = none) (hlk : meth.locks = false) (hc0 : gC v0 = 12)  (hf : f_X13_begins_0 fu  v  = some z) : gC v = 12 → ∀ (H : Heap) (locs : List Loc), WB G (st S a v) s H locs → ∀ (ls : Array Slot), lv_has ls 2 [(0, .ref a)] → W p l e RM_X13_begins s m args below meth c H locs 0 0 (QR G below args s none (st S a v0) (st S a z)) (F0 m 0 ls []) := by
  intro hc H locs hW ls hl
  have hx := hM.1
  have hb := hM.2.1
  refine lv_aload_n hx hb dX13_begins_0 rfl (lv_at hl 0 rfl) ?_
  refine lv_iconst (v := (0 : Int32)) hx hb dX13_begins_1 (by decide) ?_
  obtain ⟨v2, hr1, hf⟩ := bd_elim hf
  refine b_callVv [.int (0 : Int32)] [] hM hml hl.1 hW hc rfl (by decide) (c_X13_starts l G fu _ a v _ hc hr1) (cwV 1 hM.2.2.2.1 (gV mk_RX13_326 im_X13_starts se_X13_starts it_RX13 cd_X13_starts) rfl rfl rfl (by decide +kernel) ⟨Nat.le_of_ble_eq_true rfl, Nat.le_of_ble_eq_true rfl⟩) rfl rfl (Nat.le_of_ble_eq_true rfl) ⟨Nat.zero_le _, Nat.zero_le _⟩ dX13_begins_2 (fun H locs hW hk => ?_)
  have hc := keep_at hc hk
  refine lv_aload_n hx hb dX13_begins_5 rfl (lv_at hl 0 rfl) ?_
  refine b_get hM hW 11 24 hc rfl rfl (by decide) wi_X13 (wgm fk_RX13_125) (x := .ref (a + 16)) rfl dX13_begins_6 ?_
  refine lv_bipush (v := (48 : Int32)) hx hb dX13_begins_9 (by decide) ?_
  refine lv_iconst (v := (0 : Int32)) hx hb dX13_begins_11 (by decide) ?_
  refine b_iast (n := 1518) hM hW 11 24 hc (by decide) rfl rfl rfl rfl (by decide) dX13_begins_12 (fun v3 ev3 hc H locs hW => ?_)
  have hf := nm_at ev3 hf
  refine lv_aload_n hx hb dX13_begins_13 rfl (lv_at hl 0 rfl) ?_
  refine b_get hM hW 11 21 hc rfl rfl (by decide) wi_X13 (wgm fk_RX13_116) (x := .ref (a + 13)) rfl dX13_begins_14 ?_
  refine lv_iconst (v := (0 : Int32)) hx hb dX13_begins_17 (by decide) ?_
  refine lv_iconst (v := (0 : Int32)) hx hb dX13_begins_18 (by decide) ?_
  refine b_iast (n := 250) hM hW 11 21 hc (by decide) rfl rfl rfl rfl (by decide) dX13_begins_19 (fun v4 ev4 hc H locs hW => ?_)
  have hf := nm_at ev4 hf
  refine lv_aload_n hx hb dX13_begins_20 rfl (lv_at hl 0 rfl) ?_
  refine lv_iconst (v := (0 : Int32)) hx hb dX13_begins_21 (by decide) ?_
  refine b_putI hM hW 11 25 hc rfl rfl (by decide) wi_X13 tyX13 tyX13_ok nmX13 (wgm fk_RX13_329) rfl rfl rfl dX13_begins_22 (fun v5 ev5 hc H locs hW => ?_)
  have hf := nm_at ev5 hf
  refine lv_iconst (v := (0 : Int32)) hx hb dX13_begins_25 (by decide) ?_
  refine lv_istore_n (lv' := [(1, .int (0 : Int32)), (0, .ref a)]) hx hb dX13_begins_26 rfl hl (by decide) rfl (fun ls hl => ?_)
  exact t_X13_begins_27 (fu := fu) hM hml hr hlk hc0 _ _ hf hc _ _ hW _ (lv_sub hl [1, 0] rfl)
noncomputable def f_X13_begins (fu : Nat) (v : GV) : Option (GV) := f_X13_begins_0 fu v
set_option maxHeartbeats 4000000 in
set_option maxRecDepth 100000 in
theorem c_X13_begins (l : Launch) (G : GG) (fu : Nat) (S : ST) (a : Nat) (v : GV) {z : GV} (hc : gC v = 12) (hf : f_X13_begins fu v = some z) : Ct l yX13_begins w_X13_begins RM_X13_begins G (st S a v) [.ref a] none (st S a z) 0 0 := by
  refine Met.ofW (cc := cX13_begins) (maxL := 2) (ret := none) (by decide) rfl ?_
  intro p e s m args below meth c s₁ B hml hv
  obtain ⟨rfl, hB, hK, hz⟩ := hv
  have hM : MC G p s m _ c cX13_begins w_X13_begins RX13 := ⟨B.exec, B.bytes, findClass_of_methodNamed B.named, atoms_spec (ws := w_X13_begins) B.pre, hK, hz⟩
  have hW : WB G (st S a v) s s.heap [] := ⟨hB, va_S.rf⟩
  have hl := lv_entry ([.ref a]) (n := 2) (Nat.le_of_ble_eq_true rfl)
  rw [lg_entry_eq]
  generalize (lg_sl ([.ref a]) ++ List.replicate (2 - (lg_sl ([.ref a])).length) Slot.unset).toArray = ls at hl ⊢
  have hl : lv_has ls 2 [(0, .ref a)] := hl
  exact t_X13_begins_0 hM hml B.returns B.notSynchronized hc hf hc _ _ hW _ (lv_sub hl [0] rfl)
abbrev w_X13_isLetter : List Cond := Cond.code yX13_isLetter cX13_isLetter 1 (some .boolean) :: wsL_law0
abbrev RM_X13_isLetter : Room := { frames := 0, cells := 0, slots := 0, locals := 0 }
noncomputable def f_X13_isLetter_16 (fu : Nat)  : Option (Int32) :=
  some (0 : Int32)
set_option maxHeartbeats 4000000 in
set_option maxRecDepth 100000 in
theorem t_X13_isLetter_16 {G : GG} {p : Program} {l : Launch} {e : Env} {s : State} {m : MethodId} {args : Array Value} {below : List Frame} {meth : Method} {c : Code} {S : ST} {fu : Nat} {z : Int32}  (hM : MC G p s m args c cX13_isLetter w_X13_isLetter RX13) (hml : c.maxLocals = 1) (hr : meth.sig.returnType = (some .boolean)) (hlk : meth.locks = false)  (hf : f_X13_isLetter_16 fu    = some z) : ∀ (H : Heap) (locs : List Loc), WB G S s H locs → ∀ (ls : Array Slot), lv_has ls 1 [] → W p l e RM_X13_isLetter s m args below meth c H locs 0 0 (QR G below args s (some (.int z)) S S) (F0 m 16 ls []) := by
  intro H locs hW ls hl
  have hx := hM.1
  have hb := hM.2.1
  refine lv_iconst (v := (0 : Int32)) hx hb dX13_isLetter_16 (by decide) ?_
  cases hf
  exact W.zret (v := (0 : Int32)) hx hb hr (by decide) (b_ret0 hW (fun _ _ => rfl) _) hW.2.2.2 dX13_isLetter_17 hlk
noncomputable def f_X13_isLetter_0 (fu : Nat)  (x0 : Int32) : Option (Int32) :=
  if x0 < (97 : Int32) then
    (f_X13_isLetter_16 fu)
  else
    (if (122 : Int32) < x0 then
      (f_X13_isLetter_16 fu)
    else
      (some (1 : Int32)))
set_option maxHeartbeats 4000000 in
set_option maxRecDepth 100000 in
theorem t_X13_isLetter_0 {G : GG} {p : Program} {l : Launch} {e : Env} {s : State} {m : MethodId} {args : Array Value} {below : List Frame} {meth : Method} {c : Code} {S : ST} {fu : Nat} {z : Int32}  {x0 : Int32} (hM : MC G p s m args c cX13_isLetter w_X13_isLetter RX13) (hml : c.maxLocals = 1) (hr : meth.sig.returnType = (some .boolean)) (hlk : meth.locks = false)  (hf : f_X13_isLetter_0 fu   x0 = some z) : ∀ (H : Heap) (locs : List Loc), WB G S s H locs → ∀ (ls : Array Slot), lv_has ls 1 [(0, .int x0)] → W p l e RM_X13_isLetter s m args below meth c H locs 0 0 (QR G below args s (some (.int z)) S S) (F0 m 0 ls []) := by
  intro H locs hW ls hl
  have hx := hM.1
  have hb := hM.2.1
  refine lv_iload_n hx hb dX13_isLetter_0 rfl (lv_at hl 0 rfl) ?_
  refine lv_bipush (v := (97 : Int32)) hx hb dX13_isLetter_1 (by decide) ?_
  refine lv_icmp_lt (tgt := 16) hx hb dX13_isLetter_3 (by decide) (fun c1 => ?_) (fun c1 => ?_)
  · have hf := if_t c1 hf
    exact t_X13_isLetter_16 (fu := fu) hM hml hr hlk hf _ _ hW _ (lv_sub hl [] rfl)
  · have hf := if_f c1 hf
    refine lv_iload_n hx hb dX13_isLetter_6 rfl (lv_at hl 0 rfl) ?_
    refine lv_bipush (v := (122 : Int32)) hx hb dX13_isLetter_7 (by decide) ?_
    refine lv_icmp_gt (tgt := 16) hx hb dX13_isLetter_9 (by decide) (fun c2 => ?_) (fun c2 => ?_)
    · have hf := if_t c2 hf
      exact t_X13_isLetter_16 (fu := fu) hM hml hr hlk hf _ _ hW _ (lv_sub hl [] rfl)
    · have hf := if_f c2 hf
      refine lv_iconst (v := (1 : Int32)) hx hb dX13_isLetter_12 (by decide) ?_
      refine lv_goto (tgt := 17) hx hb dX13_isLetter_13 (by decide) ?_
      cases hf
      exact W.zret (v := (1 : Int32)) hx hb hr (by decide) (b_ret0 hW (fun _ _ => rfl) _) hW.2.2.2 dX13_isLetter_17 hlk
noncomputable def f_X13_isLetter (fu : Nat) (x0 : Int32) : Option (Int32) := f_X13_isLetter_0 fu x0
set_option maxHeartbeats 4000000 in
set_option maxRecDepth 100000 in
theorem c_X13_isLetter (l : Launch) (G : GG) (fu : Nat) (S : ST) (x0 : Int32) {z : Int32} (hf : f_X13_isLetter fu x0 = some z) : Ct l yX13_isLetter w_X13_isLetter RM_X13_isLetter G S [.int x0] (some (.int z)) S 0 0 := by
  refine Met.ofW (cc := cX13_isLetter) (maxL := 1) (ret := (some .boolean)) (by decide) rfl ?_
  intro p e s m args below meth c s₁ B hml hv
  obtain ⟨rfl, hB, hK, hz⟩ := hv
  have hM : MC G p s m _ c cX13_isLetter w_X13_isLetter RX13 := ⟨B.exec, B.bytes, findClass_of_methodNamed B.named, atoms_spec (ws := w_X13_isLetter) B.pre, hK, hz⟩
  have hW : WB G S s s.heap [] := ⟨hB, va_S.rf⟩
  have hl := lv_entry ([.int x0]) (n := 1) (Nat.le_of_ble_eq_true rfl)
  rw [lg_entry_eq]
  generalize (lg_sl ([.int x0]) ++ List.replicate (1 - (lg_sl ([.int x0])).length) Slot.unset).toArray = ls at hl ⊢
  have hl : lv_has ls 1 [(0, .int x0)] := hl
  exact t_X13_isLetter_0 hM hml B.returns B.notSynchronized hf _ _ hW _ (lv_sub hl [0] rfl)
abbrev w_X13_isDigit : List Cond := Cond.code yX13_isDigit cX13_isDigit 1 (some .boolean) :: wsL_law0
abbrev RM_X13_isDigit : Room := { frames := 0, cells := 0, slots := 0, locals := 0 }
noncomputable def f_X13_isDigit_16 (fu : Nat)  : Option (Int32) :=
  some (0 : Int32)
set_option maxHeartbeats 4000000 in
set_option maxRecDepth 100000 in
theorem t_X13_isDigit_16 {G : GG} {p : Program} {l : Launch} {e : Env} {s : State} {m : MethodId} {args : Array Value} {below : List Frame} {meth : Method} {c : Code} {S : ST} {fu : Nat} {z : Int32}  (hM : MC G p s m args c cX13_isDigit w_X13_isDigit RX13) (hml : c.maxLocals = 1) (hr : meth.sig.returnType = (some .boolean)) (hlk : meth.locks = false)  (hf : f_X13_isDigit_16 fu    = some z) : ∀ (H : Heap) (locs : List Loc), WB G S s H locs → ∀ (ls : Array Slot), lv_has ls 1 [] → W p l e RM_X13_isDigit s m args below meth c H locs 0 0 (QR G below args s (some (.int z)) S S) (F0 m 16 ls []) := by
  intro H locs hW ls hl
  have hx := hM.1
  have hb := hM.2.1
  refine lv_iconst (v := (0 : Int32)) hx hb dX13_isDigit_16 (by decide) ?_
  cases hf
  exact W.zret (v := (0 : Int32)) hx hb hr (by decide) (b_ret0 hW (fun _ _ => rfl) _) hW.2.2.2 dX13_isDigit_17 hlk
noncomputable def f_X13_isDigit_0 (fu : Nat)  (x0 : Int32) : Option (Int32) :=
  if x0 < (48 : Int32) then
    (f_X13_isDigit_16 fu)
  else
    (if (57 : Int32) < x0 then
      (f_X13_isDigit_16 fu)
    else
      (some (1 : Int32)))
set_option maxHeartbeats 4000000 in
set_option maxRecDepth 100000 in
theorem t_X13_isDigit_0 {G : GG} {p : Program} {l : Launch} {e : Env} {s : State} {m : MethodId} {args : Array Value} {below : List Frame} {meth : Method} {c : Code} {S : ST} {fu : Nat} {z : Int32}  {x0 : Int32} (hM : MC G p s m args c cX13_isDigit w_X13_isDigit RX13) (hml : c.maxLocals = 1) (hr : meth.sig.returnType = (some .boolean)) (hlk : meth.locks = false)  (hf : f_X13_isDigit_0 fu   x0 = some z) : ∀ (H : Heap) (locs : List Loc), WB G S s H locs → ∀ (ls : Array Slot), lv_has ls 1 [(0, .int x0)] → W p l e RM_X13_isDigit s m args below meth c H locs 0 0 (QR G below args s (some (.int z)) S S) (F0 m 0 ls []) := by
  intro H locs hW ls hl
  have hx := hM.1
  have hb := hM.2.1
  refine lv_iload_n hx hb dX13_isDigit_0 rfl (lv_at hl 0 rfl) ?_
  refine lv_bipush (v := (48 : Int32)) hx hb dX13_isDigit_1 (by decide) ?_
  refine lv_icmp_lt (tgt := 16) hx hb dX13_isDigit_3 (by decide) (fun c1 => ?_) (fun c1 => ?_)
  · have hf := if_t c1 hf
    exact t_X13_isDigit_16 (fu := fu) hM hml hr hlk hf _ _ hW _ (lv_sub hl [] rfl)
  · have hf := if_f c1 hf
    refine lv_iload_n hx hb dX13_isDigit_6 rfl (lv_at hl 0 rfl) ?_
    refine lv_bipush (v := (57 : Int32)) hx hb dX13_isDigit_7 (by decide) ?_
    refine lv_icmp_gt (tgt := 16) hx hb dX13_isDigit_9 (by decide) (fun c2 => ?_) (fun c2 => ?_)
    · have hf := if_t c2 hf
      exact t_X13_isDigit_16 (fu := fu) hM hml hr hlk hf _ _ hW _ (lv_sub hl [] rfl)
    · have hf := if_f c2 hf
      refine lv_iconst (v := (1 : Int32)) hx hb dX13_isDigit_12 (by decide) ?_
      refine lv_goto (tgt := 17) hx hb dX13_isDigit_13 (by decide) ?_
      cases hf
      exact W.zret (v := (1 : Int32)) hx hb hr (by decide) (b_ret0 hW (fun _ _ => rfl) _) hW.2.2.2 dX13_isDigit_17 hlk
noncomputable def f_X13_isDigit (fu : Nat) (x0 : Int32) : Option (Int32) := f_X13_isDigit_0 fu x0
set_option maxHeartbeats 4000000 in
set_option maxRecDepth 100000 in
theorem c_X13_isDigit (l : Launch) (G : GG) (fu : Nat) (S : ST) (x0 : Int32) {z : Int32} (hf : f_X13_isDigit fu x0 = some z) : Ct l yX13_isDigit w_X13_isDigit RM_X13_isDigit G S [.int x0] (some (.int z)) S 0 0 := by
  refine Met.ofW (cc := cX13_isDigit) (maxL := 1) (ret := (some .boolean)) (by decide) rfl ?_
  intro p e s m args below meth c s₁ B hml hv
  obtain ⟨rfl, hB, hK, hz⟩ := hv
  have hM : MC G p s m _ c cX13_isDigit w_X13_isDigit RX13 := ⟨B.exec, B.bytes, findClass_of_methodNamed B.named, atoms_spec (ws := w_X13_isDigit) B.pre, hK, hz⟩
  have hW : WB G S s s.heap [] := ⟨hB, va_S.rf⟩
  have hl := lv_entry ([.int x0]) (n := 1) (Nat.le_of_ble_eq_true rfl)
  rw [lg_entry_eq]
  generalize (lg_sl ([.int x0]) ++ List.replicate (1 - (lg_sl ([.int x0])).length) Slot.unset).toArray = ls at hl ⊢
  have hl : lv_has ls 1 [(0, .int x0)] := hl
  exact t_X13_isDigit_0 hM hml B.returns B.notSynchronized hf _ _ hW _ (lv_sub hl [0] rfl)
abbrev w_X13_rank : List Cond := Cond.code yX13_rank cX13_rank 1 (some .int) :: wsL_law0
abbrev RM_X13_rank : Room := { frames := 1, cells := 0, slots := 0, locals := 20 }
noncomputable def f_X13_rank_0 (fu : Nat)  (x0 : Int32) : Option (Int32) :=
  bd (f_X13_isLetter fu x0) fun r1 =>
  if r1 = 0 then
    (some (x0 - (21 : Int32)))
  else
    (some (x0 - (96 : Int32)))
set_option maxHeartbeats 4000000 in
set_option maxRecDepth 100000 in
theorem t_X13_rank_0 {G : GG} {p : Program} {l : Launch} {e : Env} {s : State} {m : MethodId} {args : Array Value} {below : List Frame} {meth : Method} {c : Code} {S : ST} {fu : Nat} {z : Int32}  {x0 : Int32} (hM : MC G p s m args c cX13_rank w_X13_rank RX13) (hml : c.maxLocals = 1) (hr : meth.sig.returnType = (some .int)) (hlk : meth.locks = false)  (hf : f_X13_rank_0 fu   x0 = some z) : ∀ (H : Heap) (locs : List Loc), WB G S s H locs → ∀ (ls : Array Slot), lv_has ls 1 [(0, .int x0)] → W p l e RM_X13_rank s m args below meth c H locs 0 0 (QR G below args s (some (.int z)) S S) (F0 m 0 ls []) := by
  intro H locs hW ls hl
  have hx := hM.1
  have hb := hM.2.1
  refine lv_iload_n hx hb dX13_rank_0 rfl (lv_at hl 0 rfl) ?_
  obtain ⟨r1, hr1, hf⟩ := bd_elim hf
  refine b_callSi [.int x0] [] hM hml hl.1 hW (c_X13_isLetter l G fu _ _ hr1) (va_cwS 1 hM.2.2.2.1 (gS mk_RX13_166 sm_X13_isLetter it_RX13 cd_X13_isLetter) rfl rfl rfl (by decide +kernel) ⟨Nat.le_of_ble_eq_true rfl, Nat.le_of_ble_eq_true rfl⟩) rfl rfl (Nat.le_of_ble_eq_true rfl) ⟨Nat.zero_le _, Nat.zero_le _⟩ dX13_rank_1 (fun H locs hW hk => ?_)
  refine lv_if_eq (tgt := 14) hx hb dX13_rank_4 (by decide) (fun c2 => ?_) (fun c2 => ?_)
  · have hf := if_t c2 hf
    refine lv_iload_n hx hb dX13_rank_14 rfl (lv_at hl 0 rfl) ?_
    refine lv_bipush (v := (21 : Int32)) hx hb dX13_rank_15 (by decide) ?_
    refine lv_isub hx hb dX13_rank_17 ?_
    cases hf
    exact W.iret hx hb hr (b_ret0 hW (fun _ _ => rfl) _) hW.2.2.2 dX13_rank_18 hlk
  · have hf := if_f c2 hf
    refine lv_iload_n hx hb dX13_rank_7 rfl (lv_at hl 0 rfl) ?_
    refine lv_bipush (v := (96 : Int32)) hx hb dX13_rank_8 (by decide) ?_
    refine lv_isub hx hb dX13_rank_10 ?_
    refine lv_goto (tgt := 18) hx hb dX13_rank_11 (by decide) ?_
    cases hf
    exact W.iret hx hb hr (b_ret0 hW (fun _ _ => rfl) _) hW.2.2.2 dX13_rank_18 hlk
noncomputable def f_X13_rank (fu : Nat) (x0 : Int32) : Option (Int32) := f_X13_rank_0 fu x0
set_option maxHeartbeats 4000000 in
set_option maxRecDepth 100000 in
theorem c_X13_rank (l : Launch) (G : GG) (fu : Nat) (S : ST) (x0 : Int32) {z : Int32} (hf : f_X13_rank fu x0 = some z) : Ct l yX13_rank w_X13_rank RM_X13_rank G S [.int x0] (some (.int z)) S 0 0 := by
  refine Met.ofW (cc := cX13_rank) (maxL := 1) (ret := (some .int)) (by decide) rfl ?_
  intro p e s m args below meth c s₁ B hml hv
  obtain ⟨rfl, hB, hK, hz⟩ := hv
  have hM : MC G p s m _ c cX13_rank w_X13_rank RX13 := ⟨B.exec, B.bytes, findClass_of_methodNamed B.named, atoms_spec (ws := w_X13_rank) B.pre, hK, hz⟩
  have hW : WB G S s s.heap [] := ⟨hB, va_S.rf⟩
  have hl := lv_entry ([.int x0]) (n := 1) (Nat.le_of_ble_eq_true rfl)
  rw [lg_entry_eq]
  generalize (lg_sl ([.int x0]) ++ List.replicate (1 - (lg_sl ([.int x0])).length) Slot.unset).toArray = ls at hl ⊢
  have hl : lv_has ls 1 [(0, .int x0)] := hl
  exact t_X13_rank_0 hM hml B.returns B.notSynchronized hf _ _ hW _ (lv_sub hl [0] rfl)
abbrev w_X13_isSignOf : List Cond := Cond.code yX13_isSignOf cX13_isSignOf 1 (some .boolean) :: wsL_law0
abbrev RM_X13_isSignOf : Room := { frames := 0, cells := 0, slots := 0, locals := 0 }
noncomputable def f_X13_isSignOf_48 (fu : Nat)  : Option (Int32) :=
  some (1 : Int32)
set_option maxHeartbeats 4000000 in
set_option maxRecDepth 100000 in
theorem t_X13_isSignOf_48 {G : GG} {p : Program} {l : Launch} {e : Env} {s : State} {m : MethodId} {args : Array Value} {below : List Frame} {meth : Method} {c : Code} {S : ST} {fu : Nat} {z : Int32}  (hM : MC G p s m args c cX13_isSignOf w_X13_isSignOf RX13) (hml : c.maxLocals = 1) (hr : meth.sig.returnType = (some .boolean)) (hlk : meth.locks = false)  (hf : f_X13_isSignOf_48 fu    = some z) : ∀ (H : Heap) (locs : List Loc), WB G S s H locs → ∀ (ls : Array Slot), lv_has ls 1 [] → W p l e RM_X13_isSignOf s m args below meth c H locs 0 0 (QR G below args s (some (.int z)) S S) (F0 m 48 ls []) := by
  intro H locs hW ls hl
  have hx := hM.1
  have hb := hM.2.1
  refine lv_iconst (v := (1 : Int32)) hx hb dX13_isSignOf_48 (by decide) ?_
  refine lv_goto (tgt := 53) hx hb dX13_isSignOf_49 (by decide) ?_
  cases hf
  exact W.zret (v := (1 : Int32)) hx hb hr (by decide) (b_ret0 hW (fun _ _ => rfl) _) hW.2.2.2 dX13_isSignOf_53 hlk
noncomputable def f_X13_isSignOf_0 (fu : Nat)  (x0 : Int32) : Option (Int32) :=
  if x0 = (40 : Int32) then
    (f_X13_isSignOf_48 fu)
  else
    (if x0 = (41 : Int32) then
      (f_X13_isSignOf_48 fu)
    else
      (if x0 = (59 : Int32) then
        (f_X13_isSignOf_48 fu)
      else
        (if x0 = (61 : Int32) then
          (f_X13_isSignOf_48 fu)
        else
          (if x0 = (60 : Int32) then
            (f_X13_isSignOf_48 fu)
          else
            (if x0 = (43 : Int32) then
              (f_X13_isSignOf_48 fu)
            else
              (if x0 = (45 : Int32) then
                (f_X13_isSignOf_48 fu)
              else
                (if x0 = (42 : Int32) then
                  (f_X13_isSignOf_48 fu)
                else
                  (some (0 : Int32)))))))))
set_option maxHeartbeats 4000000 in
set_option maxRecDepth 100000 in
theorem t_X13_isSignOf_0 {G : GG} {p : Program} {l : Launch} {e : Env} {s : State} {m : MethodId} {args : Array Value} {below : List Frame} {meth : Method} {c : Code} {S : ST} {fu : Nat} {z : Int32}  {x0 : Int32} (hM : MC G p s m args c cX13_isSignOf w_X13_isSignOf RX13) (hml : c.maxLocals = 1) (hr : meth.sig.returnType = (some .boolean)) (hlk : meth.locks = false)  (hf : f_X13_isSignOf_0 fu   x0 = some z) : ∀ (H : Heap) (locs : List Loc), WB G S s H locs → ∀ (ls : Array Slot), lv_has ls 1 [(0, .int x0)] → W p l e RM_X13_isSignOf s m args below meth c H locs 0 0 (QR G below args s (some (.int z)) S S) (F0 m 0 ls []) := by
  intro H locs hW ls hl
  have hx := hM.1
  have hb := hM.2.1
  refine lv_iload_n hx hb dX13_isSignOf_0 rfl (lv_at hl 0 rfl) ?_
  refine lv_bipush (v := (40 : Int32)) hx hb dX13_isSignOf_1 (by decide) ?_
  refine lv_icmp_eq (tgt := 48) hx hb dX13_isSignOf_3 (by decide) (fun c1 => ?_) (fun c1 => ?_)
  · have hf := if_t c1 hf
    exact t_X13_isSignOf_48 (fu := fu) hM hml hr hlk hf _ _ hW _ (lv_sub hl [] rfl)
  · have hf := if_f c1 hf
    refine lv_iload_n hx hb dX13_isSignOf_6 rfl (lv_at hl 0 rfl) ?_
    refine lv_bipush (v := (41 : Int32)) hx hb dX13_isSignOf_7 (by decide) ?_
    refine lv_icmp_eq (tgt := 48) hx hb dX13_isSignOf_9 (by decide) (fun c2 => ?_) (fun c2 => ?_)
    · have hf := if_t c2 hf
      exact t_X13_isSignOf_48 (fu := fu) hM hml hr hlk hf _ _ hW _ (lv_sub hl [] rfl)
    · have hf := if_f c2 hf
      refine lv_iload_n hx hb dX13_isSignOf_12 rfl (lv_at hl 0 rfl) ?_
      refine lv_bipush (v := (59 : Int32)) hx hb dX13_isSignOf_13 (by decide) ?_
      refine lv_icmp_eq (tgt := 48) hx hb dX13_isSignOf_15 (by decide) (fun c3 => ?_) (fun c3 => ?_)
      · have hf := if_t c3 hf
        exact t_X13_isSignOf_48 (fu := fu) hM hml hr hlk hf _ _ hW _ (lv_sub hl [] rfl)
      · have hf := if_f c3 hf
        refine lv_iload_n hx hb dX13_isSignOf_18 rfl (lv_at hl 0 rfl) ?_
        refine lv_bipush (v := (61 : Int32)) hx hb dX13_isSignOf_19 (by decide) ?_
        refine lv_icmp_eq (tgt := 48) hx hb dX13_isSignOf_21 (by decide) (fun c4 => ?_) (fun c4 => ?_)
        · have hf := if_t c4 hf
          exact t_X13_isSignOf_48 (fu := fu) hM hml hr hlk hf _ _ hW _ (lv_sub hl [] rfl)
        · have hf := if_f c4 hf
          refine lv_iload_n hx hb dX13_isSignOf_24 rfl (lv_at hl 0 rfl) ?_
          refine lv_bipush (v := (60 : Int32)) hx hb dX13_isSignOf_25 (by decide) ?_
          refine lv_icmp_eq (tgt := 48) hx hb dX13_isSignOf_27 (by decide) (fun c5 => ?_) (fun c5 => ?_)
          · have hf := if_t c5 hf
            exact t_X13_isSignOf_48 (fu := fu) hM hml hr hlk hf _ _ hW _ (lv_sub hl [] rfl)
          · have hf := if_f c5 hf
            refine lv_iload_n hx hb dX13_isSignOf_30 rfl (lv_at hl 0 rfl) ?_
            refine lv_bipush (v := (43 : Int32)) hx hb dX13_isSignOf_31 (by decide) ?_
            refine lv_icmp_eq (tgt := 48) hx hb dX13_isSignOf_33 (by decide) (fun c6 => ?_) (fun c6 => ?_)
            · have hf := if_t c6 hf
              exact t_X13_isSignOf_48 (fu := fu) hM hml hr hlk hf _ _ hW _ (lv_sub hl [] rfl)
            · have hf := if_f c6 hf
              refine lv_iload_n hx hb dX13_isSignOf_36 rfl (lv_at hl 0 rfl) ?_
              refine lv_bipush (v := (45 : Int32)) hx hb dX13_isSignOf_37 (by decide) ?_
              refine lv_icmp_eq (tgt := 48) hx hb dX13_isSignOf_39 (by decide) (fun c7 => ?_) (fun c7 => ?_)
              · have hf := if_t c7 hf
                exact t_X13_isSignOf_48 (fu := fu) hM hml hr hlk hf _ _ hW _ (lv_sub hl [] rfl)
              · have hf := if_f c7 hf
                refine lv_iload_n hx hb dX13_isSignOf_42 rfl (lv_at hl 0 rfl) ?_
                refine lv_bipush (v := (42 : Int32)) hx hb dX13_isSignOf_43 (by decide) ?_
                refine lv_icmp_ne (tgt := 52) hx hb dX13_isSignOf_45 (by decide) (fun c8 => ?_) (fun c8 => ?_)
                · have hf := if_f c8 hf
                  refine lv_iconst (v := (0 : Int32)) hx hb dX13_isSignOf_52 (by decide) ?_
                  cases hf
                  exact W.zret (v := (0 : Int32)) hx hb hr (by decide) (b_ret0 hW (fun _ _ => rfl) _) hW.2.2.2 dX13_isSignOf_53 hlk
                · have hf := if_t c8 hf
                  exact t_X13_isSignOf_48 (fu := fu) hM hml hr hlk hf _ _ hW _ (lv_sub hl [] rfl)
noncomputable def f_X13_isSignOf (fu : Nat) (x0 : Int32) : Option (Int32) := f_X13_isSignOf_0 fu x0
set_option maxHeartbeats 4000000 in
set_option maxRecDepth 100000 in
theorem c_X13_isSignOf (l : Launch) (G : GG) (fu : Nat) (S : ST) (x0 : Int32) {z : Int32} (hf : f_X13_isSignOf fu x0 = some z) : Ct l yX13_isSignOf w_X13_isSignOf RM_X13_isSignOf G S [.int x0] (some (.int z)) S 0 0 := by
  refine Met.ofW (cc := cX13_isSignOf) (maxL := 1) (ret := (some .boolean)) (by decide) rfl ?_
  intro p e s m args below meth c s₁ B hml hv
  obtain ⟨rfl, hB, hK, hz⟩ := hv
  have hM : MC G p s m _ c cX13_isSignOf w_X13_isSignOf RX13 := ⟨B.exec, B.bytes, findClass_of_methodNamed B.named, atoms_spec (ws := w_X13_isSignOf) B.pre, hK, hz⟩
  have hW : WB G S s s.heap [] := ⟨hB, va_S.rf⟩
  have hl := lv_entry ([.int x0]) (n := 1) (Nat.le_of_ble_eq_true rfl)
  rw [lg_entry_eq]
  generalize (lg_sl ([.int x0]) ++ List.replicate (1 - (lg_sl ([.int x0])).length) Slot.unset).toArray = ls at hl ⊢
  have hl : lv_has ls 1 [(0, .int x0)] := hl
  exact t_X13_isSignOf_0 hM hml B.returns B.notSynchronized hf _ _ hW _ (lv_sub hl [0] rfl)
abbrev w_X13_cutAll : List Cond := Cond.code yX13_cutAll cX13_cutAll 7 none :: wsL_law0
abbrev RM_X13_cutAll : Room := { frames := 2, cells := 0, slots := 0, locals := 40 }
noncomputable def f_X13_cutAll_265 (fu : Nat) (k17 : Int32 → Int32 → GV → Option (GV)) (v : GV) (x1 : Int32) (x2 : Int32) (x5 : Int64) : Option (GV) :=
  ck (inb x1 1002) <|
  nm (sL v 6 x1.toNatClampNeg x5) fun v2 =>
  nm (x1 + (1 : Int32)) fun y3 =>
  k17 y3 x2 v2
set_option maxHeartbeats 4000000 in
set_option maxRecDepth 100000 in
theorem t_X13_cutAll_265 {G : GG} {p : Program} {l : Launch} {e : Env} {s : State} {m : MethodId} {args : Array Value} {below : List Frame} {meth : Method} {c : Code} {S : ST} {fu : Nat} {z : GV} {a : Nat} {v0 : GV} {k17 : Int32 → Int32 → GV → Option (GV)} {v : GV} {x1 : Int32} {x2 : Int32} {x5 : Int64} (hM : MC G p s m args c cX13_cutAll w_X13_cutAll RX13) (hml : c.maxLocals = 7) (hr : meth.sig.returnType = none) (hlk : meth.locks = false) (hc0 : gC v0 = 12) (hk17 : ∀ (x1 : Int32) (x2 : Int32) (v : GV), k17 x1 x2 v = some z → gC v = 12 → ∀ (H : Heap) (locs : List Loc), WB G (st S a v) s H locs → ∀ (ls : Array Slot), lv_has ls 7 [(0, .ref a), (1, .int x1), (2, .int x2)] → W p l e RM_X13_cutAll s m args below meth c H locs 0 0 (QR G below args s none (st S a v0) (st S a z)) (F0 m 17 ls [])) (hf : f_X13_cutAll_265 fu k17 v x1 x2 x5 = some z) : gC v = 12 → ∀ (H : Heap) (locs : List Loc), WB G (st S a v) s H locs → ∀ (ls : Array Slot), lv_has ls 7 [(0, .ref a), (1, .int x1), (2, .int x2), (5, .long x5)] → W p l e RM_X13_cutAll s m args below meth c H locs 0 0 (QR G below args s none (st S a v0) (st S a z)) (F0 m 265 ls []) := by
  intro hc H locs hW ls hl
  have hx := hM.1
  have hb := hM.2.1
  refine lv_aload_n hx hb dX13_cutAll_265 rfl (lv_at hl 0 rfl) ?_
  refine b_get hM hW 11 6 hc rfl rfl (by decide) wi_X13 (wgm fk_RX13_30) (x := .ref (a + 4)) rfl dX13_cutAll_266 ?_
  refine lv_iload_n hx hb dX13_cutAll_269 rfl (lv_at hl 1 rfl) ?_
  refine lv_lload hx hb dX13_cutAll_270 (lv_at hl 3 rfl) ?_
  obtain ⟨h1, hf⟩ := ck_elim hf
  refine b_last (n := 1002) hM hW 11 6 hc (by decide) rfl rfl rfl rfl h1 dX13_cutAll_272 (fun v2 ev2 hc H locs hW => ?_)
  have hf := nm_at ev2 hf
  obtain ⟨y3, ey3⟩ : ∃ y : Int32, y = x1 + (1 : Int32) := ⟨_, rfl⟩
  have hf := nm_at ey3 hf
  refine lv_iinc (v := y3) (lv' := [(1, .int y3), (0, .ref a), (2, .int x2), (5, .long x5)]) hx hb dX13_cutAll_273 hl (k := 1) rfl (by rw [ey3]; rfl) (by decide) rfl (fun ls hl => ?_)
  refine lv_goto (tgt := 17) hx hb dX13_cutAll_276 (by decide) ?_
  exact hk17 _ _ _ hf hc _ _ hW _ (lv_sub hl [1, 0, 2] rfl)
noncomputable def f_X13_cutAll_261 (fu : Nat) (k17 : Int32 → Int32 → GV → Option (GV)) (v : GV) (x1 : Int32) (x2 : Int32) (x5 : Int64) (t1 : Int32) (t2 : Int32) : Option (GV) :=
  ck (inb t1 1002) <|
  nm (sA v 4 t1.toNatClampNeg t2) fun v2 =>
  nm (x2 + (1 : Int32)) fun y3 =>
  f_X13_cutAll_265 fu k17 v2 x1 y3 x5
set_option maxHeartbeats 4000000 in
set_option maxRecDepth 100000 in
theorem t_X13_cutAll_261 {G : GG} {p : Program} {l : Launch} {e : Env} {s : State} {m : MethodId} {args : Array Value} {below : List Frame} {meth : Method} {c : Code} {S : ST} {fu : Nat} {z : GV} {a : Nat} {v0 : GV} {k17 : Int32 → Int32 → GV → Option (GV)} {v : GV} {x1 : Int32} {x2 : Int32} {x5 : Int64} {t1 : Int32} {t2 : Int32} (hM : MC G p s m args c cX13_cutAll w_X13_cutAll RX13) (hml : c.maxLocals = 7) (hr : meth.sig.returnType = none) (hlk : meth.locks = false) (hc0 : gC v0 = 12) (hk17 : ∀ (x1 : Int32) (x2 : Int32) (v : GV), k17 x1 x2 v = some z → gC v = 12 → ∀ (H : Heap) (locs : List Loc), WB G (st S a v) s H locs → ∀ (ls : Array Slot), lv_has ls 7 [(0, .ref a), (1, .int x1), (2, .int x2)] → W p l e RM_X13_cutAll s m args below meth c H locs 0 0 (QR G below args s none (st S a v0) (st S a z)) (F0 m 17 ls [])) (hf : f_X13_cutAll_261 fu k17 v x1 x2 x5 t1 t2 = some z) : gC v = 12 → ∀ (H : Heap) (locs : List Loc), WB G (st S a v) s H locs → ∀ (ls : Array Slot), lv_has ls 7 [(0, .ref a), (1, .int x1), (2, .int x2), (5, .long x5)] → W p l e RM_X13_cutAll s m args below meth c H locs 0 0 (QR G below args s none (st S a v0) (st S a z)) (F0 m 261 ls [.int t2, .int t1, .ref (a + 2)]) := by
  intro hc H locs hW ls hl
  have hx := hM.1
  have hb := hM.2.1
  obtain ⟨h1, hf⟩ := ck_elim hf
  refine b_iast (n := 1002) hM hW 11 4 hc (by decide) rfl rfl rfl rfl h1 dX13_cutAll_261 (fun v2 ev2 hc H locs hW => ?_)
  have hf := nm_at ev2 hf
  obtain ⟨y3, ey3⟩ : ∃ y : Int32, y = x2 + (1 : Int32) := ⟨_, rfl⟩
  have hf := nm_at ey3 hf
  refine lv_iinc (v := y3) (lv' := [(2, .int y3), (0, .ref a), (1, .int x1), (5, .long x5)]) hx hb dX13_cutAll_262 hl (k := 2) rfl (by rw [ey3]; rfl) (by decide) rfl (fun ls hl => ?_)
  exact t_X13_cutAll_265 (fu := fu) hM hml hr hlk hc0 hk17 hf hc _ _ hW _ (lv_sub hl [1, 2, 0, 3] rfl)
noncomputable def f_X13_cutAll_236 (fu : Nat) (k17 : Int32 → Int32 → GV → Option (GV)) (v : GV) (x1 : Int32) (x2 : Int32) (x5 : Int64) (t1 : Int32) (t2 : Int32) : Option (GV) :=
  ck (inb t1 1002) <|
  nm (sA v 4 t1.toNatClampNeg t2) fun v2 =>
  f_X13_cutAll_265 fu k17 v2 x1 x2 x5
set_option maxHeartbeats 4000000 in
set_option maxRecDepth 100000 in
theorem t_X13_cutAll_236 {G : GG} {p : Program} {l : Launch} {e : Env} {s : State} {m : MethodId} {args : Array Value} {below : List Frame} {meth : Method} {c : Code} {S : ST} {fu : Nat} {z : GV} {a : Nat} {v0 : GV} {k17 : Int32 → Int32 → GV → Option (GV)} {v : GV} {x1 : Int32} {x2 : Int32} {x5 : Int64} {t1 : Int32} {t2 : Int32} (hM : MC G p s m args c cX13_cutAll w_X13_cutAll RX13) (hml : c.maxLocals = 7) (hr : meth.sig.returnType = none) (hlk : meth.locks = false) (hc0 : gC v0 = 12) (hk17 : ∀ (x1 : Int32) (x2 : Int32) (v : GV), k17 x1 x2 v = some z → gC v = 12 → ∀ (H : Heap) (locs : List Loc), WB G (st S a v) s H locs → ∀ (ls : Array Slot), lv_has ls 7 [(0, .ref a), (1, .int x1), (2, .int x2)] → W p l e RM_X13_cutAll s m args below meth c H locs 0 0 (QR G below args s none (st S a v0) (st S a z)) (F0 m 17 ls [])) (hf : f_X13_cutAll_236 fu k17 v x1 x2 x5 t1 t2 = some z) : gC v = 12 → ∀ (H : Heap) (locs : List Loc), WB G (st S a v) s H locs → ∀ (ls : Array Slot), lv_has ls 7 [(0, .ref a), (1, .int x1), (2, .int x2), (5, .long x5)] → W p l e RM_X13_cutAll s m args below meth c H locs 0 0 (QR G below args s none (st S a v0) (st S a z)) (F0 m 236 ls [.int t2, .int t1, .ref (a + 2)]) := by
  intro hc H locs hW ls hl
  have hx := hM.1
  have hb := hM.2.1
  obtain ⟨h1, hf⟩ := ck_elim hf
  refine b_iast (n := 1002) hM hW 11 4 hc (by decide) rfl rfl rfl rfl h1 dX13_cutAll_236 (fun v2 ev2 hc H locs hW => ?_)
  have hf := nm_at ev2 hf
  refine lv_goto (tgt := 265) hx hb dX13_cutAll_237 (by decide) ?_
  exact t_X13_cutAll_265 (fu := fu) hM hml hr hlk hc0 hk17 hf hc _ _ hW _ (lv_sub hl [0, 1, 2, 3] rfl)
noncomputable def f_X13_cutAll_218 (fu : Nat) (k17 : Int32 → Int32 → GV → Option (GV)) (v : GV) (x1 : Int32) (x2 : Int32) (x4 : Int32) (x5 : Int64) : Option (GV) :=
  if (x2 - x4) ≤ (4 : Int32) then
    (f_X13_cutAll_236 fu k17 v x1 x2 x5 x1 (2 : Int32))
  else
    (f_X13_cutAll_236 fu k17 v x1 x2 x5 x1 (4 : Int32))
set_option maxHeartbeats 4000000 in
set_option maxRecDepth 100000 in
theorem t_X13_cutAll_218 {G : GG} {p : Program} {l : Launch} {e : Env} {s : State} {m : MethodId} {args : Array Value} {below : List Frame} {meth : Method} {c : Code} {S : ST} {fu : Nat} {z : GV} {a : Nat} {v0 : GV} {k17 : Int32 → Int32 → GV → Option (GV)} {v : GV} {x1 : Int32} {x2 : Int32} {x4 : Int32} {x5 : Int64} (hM : MC G p s m args c cX13_cutAll w_X13_cutAll RX13) (hml : c.maxLocals = 7) (hr : meth.sig.returnType = none) (hlk : meth.locks = false) (hc0 : gC v0 = 12) (hk17 : ∀ (x1 : Int32) (x2 : Int32) (v : GV), k17 x1 x2 v = some z → gC v = 12 → ∀ (H : Heap) (locs : List Loc), WB G (st S a v) s H locs → ∀ (ls : Array Slot), lv_has ls 7 [(0, .ref a), (1, .int x1), (2, .int x2)] → W p l e RM_X13_cutAll s m args below meth c H locs 0 0 (QR G below args s none (st S a v0) (st S a z)) (F0 m 17 ls [])) (hf : f_X13_cutAll_218 fu k17 v x1 x2 x4 x5 = some z) : gC v = 12 → ∀ (H : Heap) (locs : List Loc), WB G (st S a v) s H locs → ∀ (ls : Array Slot), lv_has ls 7 [(0, .ref a), (1, .int x1), (2, .int x2), (4, .int x4), (5, .long x5)] → W p l e RM_X13_cutAll s m args below meth c H locs 0 0 (QR G below args s none (st S a v0) (st S a z)) (F0 m 218 ls []) := by
  intro hc H locs hW ls hl
  have hx := hM.1
  have hb := hM.2.1
  refine lv_aload_n hx hb dX13_cutAll_218 rfl (lv_at hl 0 rfl) ?_
  refine b_get hM hW 11 4 hc rfl rfl (by decide) wi_X13 (wgm fk_RX13_24) (x := .ref (a + 2)) rfl dX13_cutAll_219 ?_
  refine lv_iload_n hx hb dX13_cutAll_222 rfl (lv_at hl 1 rfl) ?_
  refine lv_iload_n hx hb dX13_cutAll_223 rfl (lv_at hl 2 rfl) ?_
  refine lv_iload hx hb dX13_cutAll_224 (lv_at hl 3 rfl) ?_
  refine lv_isub hx hb dX13_cutAll_226 ?_
  refine lv_iconst (v := (4 : Int32)) hx hb dX13_cutAll_227 (by decide) ?_
  refine lv_icmp_le (tgt := 235) hx hb dX13_cutAll_228 (by decide) (fun c1 => ?_) (fun c1 => ?_)
  · have hf := if_t c1 hf
    refine lv_iconst (v := (2 : Int32)) hx hb dX13_cutAll_235 (by decide) ?_
    exact t_X13_cutAll_236 (fu := fu) hM hml hr hlk hc0 hk17 hf hc _ _ hW _ (lv_sub hl [0, 1, 2, 4] rfl)
  · have hf := if_f c1 hf
    refine lv_iconst (v := (4 : Int32)) hx hb dX13_cutAll_231 (by decide) ?_
    refine lv_goto (tgt := 236) hx hb dX13_cutAll_232 (by decide) ?_
    exact t_X13_cutAll_236 (fu := fu) hM hml hr hlk hc0 hk17 hf hc _ _ hW _ (lv_sub hl [0, 1, 2, 4] rfl)
noncomputable def f_X13_cutAll_210 (fu : Nat) (k17 : Int32 → Int32 → GV → Option (GV)) (k159 : Int32 → Int64 → GV → Option (GV)) (v : GV) (x1 : Int32) (x2 : Int32) (x4 : Int32) (t0 : Int64) : Option (GV) :=
  nm (x2 + (1 : Int32)) fun y1 =>
  k159 y1 t0 v
set_option maxHeartbeats 4000000 in
set_option maxRecDepth 100000 in
theorem t_X13_cutAll_210 {G : GG} {p : Program} {l : Launch} {e : Env} {s : State} {m : MethodId} {args : Array Value} {below : List Frame} {meth : Method} {c : Code} {S : ST} {fu : Nat} {z : GV} {a : Nat} {v0 : GV} {k17 : Int32 → Int32 → GV → Option (GV)} {k159 : Int32 → Int64 → GV → Option (GV)} {v : GV} {x1 : Int32} {x2 : Int32} {x4 : Int32} {t0 : Int64} (hM : MC G p s m args c cX13_cutAll w_X13_cutAll RX13) (hml : c.maxLocals = 7) (hr : meth.sig.returnType = none) (hlk : meth.locks = false) (hc0 : gC v0 = 12) (hk17 : ∀ (x1 : Int32) (x2 : Int32) (v : GV), k17 x1 x2 v = some z → gC v = 12 → ∀ (H : Heap) (locs : List Loc), WB G (st S a v) s H locs → ∀ (ls : Array Slot), lv_has ls 7 [(0, .ref a), (1, .int x1), (2, .int x2)] → W p l e RM_X13_cutAll s m args below meth c H locs 0 0 (QR G below args s none (st S a v0) (st S a z)) (F0 m 17 ls [])) (hk159 : ∀ (x2 : Int32) (x5 : Int64) (v : GV), k159 x2 x5 v = some z → gC v = 12 → ∀ (H : Heap) (locs : List Loc), WB G (st S a v) s H locs → ∀ (ls : Array Slot), lv_has ls 7 [(0, .ref a), (1, .int x1), (2, .int x2), (4, .int x4), (5, .long x5)] → W p l e RM_X13_cutAll s m args below meth c H locs 0 0 (QR G below args s none (st S a v0) (st S a z)) (F0 m 159 ls [])) (hf : f_X13_cutAll_210 fu k17 k159 v x1 x2 x4 t0 = some z) : gC v = 12 → ∀ (H : Heap) (locs : List Loc), WB G (st S a v) s H locs → ∀ (ls : Array Slot), lv_has ls 7 [(0, .ref a), (1, .int x1), (2, .int x2), (4, .int x4)] → W p l e RM_X13_cutAll s m args below meth c H locs 0 0 (QR G below args s none (st S a v0) (st S a z)) (F0 m 210 ls [.long t0]) := by
  intro hc H locs hW ls hl
  have hx := hM.1
  have hb := hM.2.1
  refine lv_lstore (lv' := [(5, .long t0), (0, .ref a), (1, .int x1), (2, .int x2), (4, .int x4)]) hx hb dX13_cutAll_210 hl (by decide) rfl (fun ls hl => ?_)
  obtain ⟨y1, ey1⟩ : ∃ y : Int32, y = x2 + (1 : Int32) := ⟨_, rfl⟩
  have hf := nm_at ey1 hf
  refine lv_iinc (v := y1) (lv' := [(2, .int y1), (5, .long t0), (0, .ref a), (1, .int x1), (4, .int x4)]) hx hb dX13_cutAll_212 hl (k := 3) rfl (by rw [ey1]; rfl) (by decide) rfl (fun ls hl => ?_)
  refine lv_goto (tgt := 159) hx hb dX13_cutAll_215 (by decide) ?_
  exact hk159 _ _ _ hf hc _ _ hW _ (lv_sub hl [2, 3, 0, 4, 1] rfl)
noncomputable def f_X13_cutAll_159s (fu : Nat) (k17 : Int32 → Int32 → GV → Option (GV)) (k159 : Int32 → Int64 → GV → Option (GV)) (x1 : Int32) (x4 : Int32) (x2 : Int32) (x5 : Int64) (v : GV) : Option (GV) :=
  if (gI v 3) ≤ x2 then
    (f_X13_cutAll_218 fu k17 v x1 x2 x4 x5)
  else
    (ck (inb x2 1000) <|
    bd (f_X13_isDigit fu (gA v 1 x2.toNatClampNeg)) fun r3 =>
    if r3 = 0 then
      (f_X13_cutAll_218 fu k17 v x1 x2 x4 x5)
    else
      (if (4 : Int32) ≤ (x2 - x4) then
        (f_X13_cutAll_210 fu k17 k159 v x1 x2 x4 x5)
      else
        (ck (inb x2 1000) <|
        f_X13_cutAll_210 fu k17 k159 v x1 x2 x4 ((((10 : Int64) * x5) + ((gA v 1 x2.toNatClampNeg)).toInt64) - (48 : Int64)))))
noncomputable def f_X13_cutAll_159 (fu n : Nat) (k17 : Int32 → Int32 → GV → Option (GV)) (x1 : Int32) (x4 : Int32) : Int32 → Int64 → GV → Option (GV) :=
  lq_3 (fun k159 => f_X13_cutAll_159s fu k17 k159 x1 x4) n
set_option maxHeartbeats 4000000 in
set_option maxRecDepth 100000 in
theorem t_X13_cutAll_159s {G : GG} {p : Program} {l : Launch} {e : Env} {s : State} {m : MethodId} {args : Array Value} {below : List Frame} {meth : Method} {c : Code} {S : ST} {fu : Nat} {z : GV} {a : Nat} {v0 : GV} {k17 : Int32 → Int32 → GV → Option (GV)} (hM : MC G p s m args c cX13_cutAll w_X13_cutAll RX13) (hml : c.maxLocals = 7) (hr : meth.sig.returnType = none) (hlk : meth.locks = false) (hc0 : gC v0 = 12) {k159 : Int32 → Int64 → GV → Option (GV)} {x1 : Int32} {x4 : Int32} (hk17 : ∀ (x1 : Int32) (x2 : Int32) (v : GV), k17 x1 x2 v = some z → gC v = 12 → ∀ (H : Heap) (locs : List Loc), WB G (st S a v) s H locs → ∀ (ls : Array Slot), lv_has ls 7 [(0, .ref a), (1, .int x1), (2, .int x2)] → W p l e RM_X13_cutAll s m args below meth c H locs 0 0 (QR G below args s none (st S a v0) (st S a z)) (F0 m 17 ls [])) (hk159 : ∀ (x2 : Int32) (x5 : Int64) (v : GV), k159 x2 x5 v = some z → gC v = 12 → ∀ (H : Heap) (locs : List Loc), WB G (st S a v) s H locs → ∀ (ls : Array Slot), lv_has ls 7 [(0, .ref a), (1, .int x1), (2, .int x2), (4, .int x4), (5, .long x5)] → W p l e RM_X13_cutAll s m args below meth c H locs 0 0 (QR G below args s none (st S a v0) (st S a z)) (F0 m 159 ls [])) : ∀ (x2 : Int32) (x5 : Int64) (v : GV), f_X13_cutAll_159s fu k17 k159 x1 x4 x2 x5 v = some z → gC v = 12 → ∀ (H : Heap) (locs : List Loc), WB G (st S a v) s H locs → ∀ (ls : Array Slot), lv_has ls 7 [(0, .ref a), (1, .int x1), (2, .int x2), (4, .int x4), (5, .long x5)] → W p l e RM_X13_cutAll s m args below meth c H locs 0 0 (QR G below args s none (st S a v0) (st S a z)) (F0 m 159 ls []) := by
  intro x2 x5 v hf hc H locs hW ls hl
  have hx := hM.1
  have hb := hM.2.1
  refine lv_iload_n hx hb dX13_cutAll_159 rfl (lv_at hl 2 rfl) ?_
  refine lv_aload_n hx hb dX13_cutAll_160 rfl (lv_at hl 0 rfl) ?_
  refine b_get hM hW 11 3 hc rfl rfl (by decide) wi_X13 (wgm fk_RX13_170) (x := .int (gI v 3)) rfl dX13_cutAll_161 ?_
  refine lv_icmp_ge (tgt := 218) hx hb dX13_cutAll_164 (by decide) (fun c1 => ?_) (fun c1 => ?_)
  · have hf := if_t c1 hf
    exact t_X13_cutAll_218 (fu := fu) hM hml hr hlk hc0 hk17 hf hc _ _ hW _ (lv_sub hl [0, 1, 2, 3, 4] rfl)
  · have hf := if_f c1 hf
    refine lv_aload_n hx hb dX13_cutAll_167 rfl (lv_at hl 0 rfl) ?_
    refine b_get hM hW 11 1 hc rfl rfl (by decide) wi_X13 (wgm fk_RX13_14) (x := .ref (a + 1)) rfl dX13_cutAll_168 ?_
    refine lv_iload_n hx hb dX13_cutAll_171 rfl (lv_at hl 2 rfl) ?_
    obtain ⟨h2, hf⟩ := ck_elim hf
    refine b_iald (n := 1000) hM hW 11 1 hc (by decide) rfl rfl rfl rfl h2 dX13_cutAll_172 ?_
    obtain ⟨r3, hr3, hf⟩ := bd_elim hf
    refine b_callSi [.int (gA v 1 x2.toNatClampNeg)] [] hM hml hl.1 hW (c_X13_isDigit l G fu _ _ hr3) (va_cwS 1 hM.2.2.2.1 (gS mk_RX13_179 sm_X13_isDigit it_RX13 cd_X13_isDigit) rfl rfl rfl (by decide +kernel) ⟨Nat.le_of_ble_eq_true rfl, Nat.le_of_ble_eq_true rfl⟩) rfl rfl (Nat.le_of_ble_eq_true rfl) ⟨Nat.zero_le _, Nat.zero_le _⟩ dX13_cutAll_173 (fun H locs hW hk => ?_)
    refine lv_if_eq (tgt := 218) hx hb dX13_cutAll_176 (by decide) (fun c4 => ?_) (fun c4 => ?_)
    · have hf := if_t c4 hf
      exact t_X13_cutAll_218 (fu := fu) hM hml hr hlk hc0 hk17 hf hc _ _ hW _ (lv_sub hl [0, 1, 2, 3, 4] rfl)
    · have hf := if_f c4 hf
      refine lv_iload_n hx hb dX13_cutAll_179 rfl (lv_at hl 2 rfl) ?_
      refine lv_iload hx hb dX13_cutAll_180 (lv_at hl 3 rfl) ?_
      refine lv_isub hx hb dX13_cutAll_182 ?_
      refine lv_iconst (v := (4 : Int32)) hx hb dX13_cutAll_183 (by decide) ?_
      refine lv_icmp_ge (tgt := 208) hx hb dX13_cutAll_184 (by decide) (fun c5 => ?_) (fun c5 => ?_)
      · have hf := if_t c5 hf
        refine lv_lload hx hb dX13_cutAll_208 (lv_at hl 4 rfl) ?_
        exact t_X13_cutAll_210 (fu := fu) hM hml hr hlk hc0 hk17 hk159 hf hc _ _ hW _ (lv_sub hl [0, 1, 2, 3] rfl)
      · have hf := if_f c5 hf
        refine lv_ldc2 (v := (10 : Int64)) hx hb hM.2.2.1 (hM.2.2.2.1 _ (wgm kj_RX13_182)) dX13_cutAll_187 ?_
        refine lv_lload hx hb dX13_cutAll_190 (lv_at hl 4 rfl) ?_
        refine lv_lmul hx hb dX13_cutAll_192 ?_
        refine lv_aload_n hx hb dX13_cutAll_193 rfl (lv_at hl 0 rfl) ?_
        refine b_get hM hW 11 1 hc rfl rfl (by decide) wi_X13 (wgm fk_RX13_14) (x := .ref (a + 1)) rfl dX13_cutAll_194 ?_
        refine lv_iload_n hx hb dX13_cutAll_197 rfl (lv_at hl 2 rfl) ?_
        obtain ⟨h6, hf⟩ := ck_elim hf
        refine b_iald (n := 1000) hM hW 11 1 hc (by decide) rfl rfl rfl rfl h6 dX13_cutAll_198 ?_
        refine lv_i2l hx hb dX13_cutAll_199 rfl ?_
        refine lv_ladd hx hb dX13_cutAll_200 ?_
        refine lv_ldc2 (v := (48 : Int64)) hx hb hM.2.2.1 (hM.2.2.2.1 _ (wgm kj_RX13_184)) dX13_cutAll_201 ?_
        refine lv_lsub hx hb dX13_cutAll_204 ?_
        refine lv_goto (tgt := 210) hx hb dX13_cutAll_205 (by decide) ?_
        exact t_X13_cutAll_210 (fu := fu) hM hml hr hlk hc0 hk17 hk159 hf hc _ _ hW _ (lv_sub hl [0, 1, 2, 3] rfl)
theorem t_X13_cutAll_159 {G : GG} {p : Program} {l : Launch} {e : Env} {s : State} {m : MethodId} {args : Array Value} {below : List Frame} {meth : Method} {c : Code} {S : ST} {fu : Nat} {z : GV} {a : Nat} {v0 : GV} {k17 : Int32 → Int32 → GV → Option (GV)} {x1 : Int32} {x4 : Int32} (hM : MC G p s m args c cX13_cutAll w_X13_cutAll RX13) (hml : c.maxLocals = 7) (hr : meth.sig.returnType = none) (hlk : meth.locks = false) (hc0 : gC v0 = 12) (hk17 : ∀ (x1 : Int32) (x2 : Int32) (v : GV), k17 x1 x2 v = some z → gC v = 12 → ∀ (H : Heap) (locs : List Loc), WB G (st S a v) s H locs → ∀ (ls : Array Slot), lv_has ls 7 [(0, .ref a), (1, .int x1), (2, .int x2)] → W p l e RM_X13_cutAll s m args below meth c H locs 0 0 (QR G below args s none (st S a v0) (st S a z)) (F0 m 17 ls [])) : ∀ {n : Nat} (x2 : Int32) (x5 : Int64) (v : GV), f_X13_cutAll_159 fu n k17 x1 x4 x2 x5 v = some z → gC v = 12 → ∀ (H : Heap) (locs : List Loc), WB G (st S a v) s H locs → ∀ (ls : Array Slot), lv_has ls 7 [(0, .ref a), (1, .int x1), (2, .int x2), (4, .int x4), (5, .long x5)] → W p l e RM_X13_cutAll s m args below meth c H locs 0 0 (QR G below args s none (st S a v0) (st S a z)) (F0 m 159 ls []) := by
  intro n
  induction n with
  | zero => intro x2 x5 v hf; cases hf
  | succ n ih => intro x2 x5 v hf; exact t_X13_cutAll_159s (fu := fu) hM hml hr hlk hc0 hk17 (k159 := f_X13_cutAll_159 fu n k17 x1 x4) ih _ _ _ hf
noncomputable def f_X13_cutAll_148 (fu : Nat) (k17 : Int32 → Int32 → GV → Option (GV)) (v : GV) (x1 : Int32) (x2 : Int32) (x5 : Int64) (t1 : Int32) (t2 : Int32) : Option (GV) :=
  ck (inb t1 1002) <|
  nm (sA v 4 t1.toNatClampNeg t2) fun v2 =>
  f_X13_cutAll_265 fu k17 v2 x1 x2 x5
set_option maxHeartbeats 4000000 in
set_option maxRecDepth 100000 in
theorem t_X13_cutAll_148 {G : GG} {p : Program} {l : Launch} {e : Env} {s : State} {m : MethodId} {args : Array Value} {below : List Frame} {meth : Method} {c : Code} {S : ST} {fu : Nat} {z : GV} {a : Nat} {v0 : GV} {k17 : Int32 → Int32 → GV → Option (GV)} {v : GV} {x1 : Int32} {x2 : Int32} {x5 : Int64} {t1 : Int32} {t2 : Int32} (hM : MC G p s m args c cX13_cutAll w_X13_cutAll RX13) (hml : c.maxLocals = 7) (hr : meth.sig.returnType = none) (hlk : meth.locks = false) (hc0 : gC v0 = 12) (hk17 : ∀ (x1 : Int32) (x2 : Int32) (v : GV), k17 x1 x2 v = some z → gC v = 12 → ∀ (H : Heap) (locs : List Loc), WB G (st S a v) s H locs → ∀ (ls : Array Slot), lv_has ls 7 [(0, .ref a), (1, .int x1), (2, .int x2)] → W p l e RM_X13_cutAll s m args below meth c H locs 0 0 (QR G below args s none (st S a v0) (st S a z)) (F0 m 17 ls [])) (hf : f_X13_cutAll_148 fu k17 v x1 x2 x5 t1 t2 = some z) : gC v = 12 → ∀ (H : Heap) (locs : List Loc), WB G (st S a v) s H locs → ∀ (ls : Array Slot), lv_has ls 7 [(0, .ref a), (1, .int x1), (2, .int x2), (5, .long x5)] → W p l e RM_X13_cutAll s m args below meth c H locs 0 0 (QR G below args s none (st S a v0) (st S a z)) (F0 m 148 ls [.int t2, .int t1, .ref (a + 2)]) := by
  intro hc H locs hW ls hl
  have hx := hM.1
  have hb := hM.2.1
  obtain ⟨h1, hf⟩ := ck_elim hf
  refine b_iast (n := 1002) hM hW 11 4 hc (by decide) rfl rfl rfl rfl h1 dX13_cutAll_148 (fun v2 ev2 hc H locs hW => ?_)
  have hf := nm_at ev2 hf
  refine lv_goto (tgt := 265) hx hb dX13_cutAll_149 (by decide) ?_
  exact t_X13_cutAll_265 (fu := fu) hM hml hr hlk hc0 hk17 hf hc _ _ hW _ (lv_sub hl [0, 1, 2, 3] rfl)
noncomputable def f_X13_cutAll_129 (fu : Nat) (k17 : Int32 → Int32 → GV → Option (GV)) (v : GV) (x1 : Int32) (x2 : Int32) (x4 : Int32) (x5 : Int64) : Option (GV) :=
  if (x2 - x4) ≤ (8 : Int32) then
    (f_X13_cutAll_148 fu k17 v x1 x2 x5 x1 (1 : Int32))
  else
    (f_X13_cutAll_148 fu k17 v x1 x2 x5 x1 (4 : Int32))
set_option maxHeartbeats 4000000 in
set_option maxRecDepth 100000 in
theorem t_X13_cutAll_129 {G : GG} {p : Program} {l : Launch} {e : Env} {s : State} {m : MethodId} {args : Array Value} {below : List Frame} {meth : Method} {c : Code} {S : ST} {fu : Nat} {z : GV} {a : Nat} {v0 : GV} {k17 : Int32 → Int32 → GV → Option (GV)} {v : GV} {x1 : Int32} {x2 : Int32} {x4 : Int32} {x5 : Int64} (hM : MC G p s m args c cX13_cutAll w_X13_cutAll RX13) (hml : c.maxLocals = 7) (hr : meth.sig.returnType = none) (hlk : meth.locks = false) (hc0 : gC v0 = 12) (hk17 : ∀ (x1 : Int32) (x2 : Int32) (v : GV), k17 x1 x2 v = some z → gC v = 12 → ∀ (H : Heap) (locs : List Loc), WB G (st S a v) s H locs → ∀ (ls : Array Slot), lv_has ls 7 [(0, .ref a), (1, .int x1), (2, .int x2)] → W p l e RM_X13_cutAll s m args below meth c H locs 0 0 (QR G below args s none (st S a v0) (st S a z)) (F0 m 17 ls [])) (hf : f_X13_cutAll_129 fu k17 v x1 x2 x4 x5 = some z) : gC v = 12 → ∀ (H : Heap) (locs : List Loc), WB G (st S a v) s H locs → ∀ (ls : Array Slot), lv_has ls 7 [(0, .ref a), (1, .int x1), (2, .int x2), (4, .int x4), (5, .long x5)] → W p l e RM_X13_cutAll s m args below meth c H locs 0 0 (QR G below args s none (st S a v0) (st S a z)) (F0 m 129 ls []) := by
  intro hc H locs hW ls hl
  have hx := hM.1
  have hb := hM.2.1
  refine lv_aload_n hx hb dX13_cutAll_129 rfl (lv_at hl 0 rfl) ?_
  refine b_get hM hW 11 4 hc rfl rfl (by decide) wi_X13 (wgm fk_RX13_24) (x := .ref (a + 2)) rfl dX13_cutAll_130 ?_
  refine lv_iload_n hx hb dX13_cutAll_133 rfl (lv_at hl 1 rfl) ?_
  refine lv_iload_n hx hb dX13_cutAll_134 rfl (lv_at hl 2 rfl) ?_
  refine lv_iload hx hb dX13_cutAll_135 (lv_at hl 3 rfl) ?_
  refine lv_isub hx hb dX13_cutAll_137 ?_
  refine lv_bipush (v := (8 : Int32)) hx hb dX13_cutAll_138 (by decide) ?_
  refine lv_icmp_le (tgt := 147) hx hb dX13_cutAll_140 (by decide) (fun c1 => ?_) (fun c1 => ?_)
  · have hf := if_t c1 hf
    refine lv_iconst (v := (1 : Int32)) hx hb dX13_cutAll_147 (by decide) ?_
    exact t_X13_cutAll_148 (fu := fu) hM hml hr hlk hc0 hk17 hf hc _ _ hW _ (lv_sub hl [0, 1, 2, 4] rfl)
  · have hf := if_f c1 hf
    refine lv_iconst (v := (4 : Int32)) hx hb dX13_cutAll_143 (by decide) ?_
    refine lv_goto (tgt := 148) hx hb dX13_cutAll_144 (by decide) ?_
    exact t_X13_cutAll_148 (fu := fu) hM hml hr hlk hc0 hk17 hf hc _ _ hW _ (lv_sub hl [0, 1, 2, 4] rfl)
noncomputable def f_X13_cutAll_121 (fu : Nat) (k17 : Int32 → Int32 → GV → Option (GV)) (k70 : Int32 → Int64 → GV → Option (GV)) (v : GV) (x1 : Int32) (x2 : Int32) (x4 : Int32) (t0 : Int64) : Option (GV) :=
  nm (x2 + (1 : Int32)) fun y1 =>
  k70 y1 t0 v
set_option maxHeartbeats 4000000 in
set_option maxRecDepth 100000 in
theorem t_X13_cutAll_121 {G : GG} {p : Program} {l : Launch} {e : Env} {s : State} {m : MethodId} {args : Array Value} {below : List Frame} {meth : Method} {c : Code} {S : ST} {fu : Nat} {z : GV} {a : Nat} {v0 : GV} {k17 : Int32 → Int32 → GV → Option (GV)} {k70 : Int32 → Int64 → GV → Option (GV)} {v : GV} {x1 : Int32} {x2 : Int32} {x4 : Int32} {t0 : Int64} (hM : MC G p s m args c cX13_cutAll w_X13_cutAll RX13) (hml : c.maxLocals = 7) (hr : meth.sig.returnType = none) (hlk : meth.locks = false) (hc0 : gC v0 = 12) (hk17 : ∀ (x1 : Int32) (x2 : Int32) (v : GV), k17 x1 x2 v = some z → gC v = 12 → ∀ (H : Heap) (locs : List Loc), WB G (st S a v) s H locs → ∀ (ls : Array Slot), lv_has ls 7 [(0, .ref a), (1, .int x1), (2, .int x2)] → W p l e RM_X13_cutAll s m args below meth c H locs 0 0 (QR G below args s none (st S a v0) (st S a z)) (F0 m 17 ls [])) (hk70 : ∀ (x2 : Int32) (x5 : Int64) (v : GV), k70 x2 x5 v = some z → gC v = 12 → ∀ (H : Heap) (locs : List Loc), WB G (st S a v) s H locs → ∀ (ls : Array Slot), lv_has ls 7 [(0, .ref a), (1, .int x1), (2, .int x2), (4, .int x4), (5, .long x5)] → W p l e RM_X13_cutAll s m args below meth c H locs 0 0 (QR G below args s none (st S a v0) (st S a z)) (F0 m 70 ls [])) (hf : f_X13_cutAll_121 fu k17 k70 v x1 x2 x4 t0 = some z) : gC v = 12 → ∀ (H : Heap) (locs : List Loc), WB G (st S a v) s H locs → ∀ (ls : Array Slot), lv_has ls 7 [(0, .ref a), (1, .int x1), (2, .int x2), (4, .int x4)] → W p l e RM_X13_cutAll s m args below meth c H locs 0 0 (QR G below args s none (st S a v0) (st S a z)) (F0 m 121 ls [.long t0]) := by
  intro hc H locs hW ls hl
  have hx := hM.1
  have hb := hM.2.1
  refine lv_lstore (lv' := [(5, .long t0), (0, .ref a), (1, .int x1), (2, .int x2), (4, .int x4)]) hx hb dX13_cutAll_121 hl (by decide) rfl (fun ls hl => ?_)
  obtain ⟨y1, ey1⟩ : ∃ y : Int32, y = x2 + (1 : Int32) := ⟨_, rfl⟩
  have hf := nm_at ey1 hf
  refine lv_iinc (v := y1) (lv' := [(2, .int y1), (5, .long t0), (0, .ref a), (1, .int x1), (4, .int x4)]) hx hb dX13_cutAll_123 hl (k := 3) rfl (by rw [ey1]; rfl) (by decide) rfl (fun ls hl => ?_)
  refine lv_goto (tgt := 70) hx hb dX13_cutAll_126 (by decide) ?_
  exact hk70 _ _ _ hf hc _ _ hW _ (lv_sub hl [2, 3, 0, 4, 1] rfl)
noncomputable def f_X13_cutAll_70s (fu : Nat) (k17 : Int32 → Int32 → GV → Option (GV)) (k70 : Int32 → Int64 → GV → Option (GV)) (x1 : Int32) (x4 : Int32) (x2 : Int32) (x5 : Int64) (v : GV) : Option (GV) :=
  if (gI v 3) ≤ x2 then
    (f_X13_cutAll_129 fu k17 v x1 x2 x4 x5)
  else
    (ck (inb x2 1000) <|
    bd (f_X13_isLetter fu (gA v 1 x2.toNatClampNeg)) fun r3 =>
    if r3 = 0 then
      (f_X13_cutAll_129 fu k17 v x1 x2 x4 x5)
    else
      (if (8 : Int32) ≤ (x2 - x4) then
        (f_X13_cutAll_121 fu k17 k70 v x1 x2 x4 x5)
      else
        (ck (inb x2 1000) <|
        bd (f_X13_rank fu (gA v 1 x2.toNatClampNeg)) fun r7 =>
        f_X13_cutAll_121 fu k17 k70 v x1 x2 x4 (((37 : Int64) * x5) + (r7).toInt64))))
noncomputable def f_X13_cutAll_70 (fu n : Nat) (k17 : Int32 → Int32 → GV → Option (GV)) (x1 : Int32) (x4 : Int32) : Int32 → Int64 → GV → Option (GV) :=
  lq_3 (fun k70 => f_X13_cutAll_70s fu k17 k70 x1 x4) n
set_option maxHeartbeats 4000000 in
set_option maxRecDepth 100000 in
theorem t_X13_cutAll_70s {G : GG} {p : Program} {l : Launch} {e : Env} {s : State} {m : MethodId} {args : Array Value} {below : List Frame} {meth : Method} {c : Code} {S : ST} {fu : Nat} {z : GV} {a : Nat} {v0 : GV} {k17 : Int32 → Int32 → GV → Option (GV)} (hM : MC G p s m args c cX13_cutAll w_X13_cutAll RX13) (hml : c.maxLocals = 7) (hr : meth.sig.returnType = none) (hlk : meth.locks = false) (hc0 : gC v0 = 12) {k70 : Int32 → Int64 → GV → Option (GV)} {x1 : Int32} {x4 : Int32} (hk17 : ∀ (x1 : Int32) (x2 : Int32) (v : GV), k17 x1 x2 v = some z → gC v = 12 → ∀ (H : Heap) (locs : List Loc), WB G (st S a v) s H locs → ∀ (ls : Array Slot), lv_has ls 7 [(0, .ref a), (1, .int x1), (2, .int x2)] → W p l e RM_X13_cutAll s m args below meth c H locs 0 0 (QR G below args s none (st S a v0) (st S a z)) (F0 m 17 ls [])) (hk70 : ∀ (x2 : Int32) (x5 : Int64) (v : GV), k70 x2 x5 v = some z → gC v = 12 → ∀ (H : Heap) (locs : List Loc), WB G (st S a v) s H locs → ∀ (ls : Array Slot), lv_has ls 7 [(0, .ref a), (1, .int x1), (2, .int x2), (4, .int x4), (5, .long x5)] → W p l e RM_X13_cutAll s m args below meth c H locs 0 0 (QR G below args s none (st S a v0) (st S a z)) (F0 m 70 ls [])) : ∀ (x2 : Int32) (x5 : Int64) (v : GV), f_X13_cutAll_70s fu k17 k70 x1 x4 x2 x5 v = some z → gC v = 12 → ∀ (H : Heap) (locs : List Loc), WB G (st S a v) s H locs → ∀ (ls : Array Slot), lv_has ls 7 [(0, .ref a), (1, .int x1), (2, .int x2), (4, .int x4), (5, .long x5)] → W p l e RM_X13_cutAll s m args below meth c H locs 0 0 (QR G below args s none (st S a v0) (st S a z)) (F0 m 70 ls []) := by
  intro x2 x5 v hf hc H locs hW ls hl
  have hx := hM.1
  have hb := hM.2.1
  refine lv_iload_n hx hb dX13_cutAll_70 rfl (lv_at hl 2 rfl) ?_
  refine lv_aload_n hx hb dX13_cutAll_71 rfl (lv_at hl 0 rfl) ?_
  refine b_get hM hW 11 3 hc rfl rfl (by decide) wi_X13 (wgm fk_RX13_170) (x := .int (gI v 3)) rfl dX13_cutAll_72 ?_
  refine lv_icmp_ge (tgt := 129) hx hb dX13_cutAll_75 (by decide) (fun c1 => ?_) (fun c1 => ?_)
  · have hf := if_t c1 hf
    exact t_X13_cutAll_129 (fu := fu) hM hml hr hlk hc0 hk17 hf hc _ _ hW _ (lv_sub hl [0, 1, 2, 3, 4] rfl)
  · have hf := if_f c1 hf
    refine lv_aload_n hx hb dX13_cutAll_78 rfl (lv_at hl 0 rfl) ?_
    refine b_get hM hW 11 1 hc rfl rfl (by decide) wi_X13 (wgm fk_RX13_14) (x := .ref (a + 1)) rfl dX13_cutAll_79 ?_
    refine lv_iload_n hx hb dX13_cutAll_82 rfl (lv_at hl 2 rfl) ?_
    obtain ⟨h2, hf⟩ := ck_elim hf
    refine b_iald (n := 1000) hM hW 11 1 hc (by decide) rfl rfl rfl rfl h2 dX13_cutAll_83 ?_
    obtain ⟨r3, hr3, hf⟩ := bd_elim hf
    refine b_callSi [.int (gA v 1 x2.toNatClampNeg)] [] hM hml hl.1 hW (c_X13_isLetter l G fu _ _ hr3) (va_cwS 1 hM.2.2.2.1 (gS mk_RX13_166 sm_X13_isLetter it_RX13 cd_X13_isLetter) rfl rfl rfl (by decide +kernel) ⟨Nat.le_of_ble_eq_true rfl, Nat.le_of_ble_eq_true rfl⟩) rfl rfl (Nat.le_of_ble_eq_true rfl) ⟨Nat.zero_le _, Nat.zero_le _⟩ dX13_cutAll_84 (fun H locs hW hk => ?_)
    refine lv_if_eq (tgt := 129) hx hb dX13_cutAll_87 (by decide) (fun c4 => ?_) (fun c4 => ?_)
    · have hf := if_t c4 hf
      exact t_X13_cutAll_129 (fu := fu) hM hml hr hlk hc0 hk17 hf hc _ _ hW _ (lv_sub hl [0, 1, 2, 3, 4] rfl)
    · have hf := if_f c4 hf
      refine lv_iload_n hx hb dX13_cutAll_90 rfl (lv_at hl 2 rfl) ?_
      refine lv_iload hx hb dX13_cutAll_91 (lv_at hl 3 rfl) ?_
      refine lv_isub hx hb dX13_cutAll_93 ?_
      refine lv_bipush (v := (8 : Int32)) hx hb dX13_cutAll_94 (by decide) ?_
      refine lv_icmp_ge (tgt := 119) hx hb dX13_cutAll_96 (by decide) (fun c5 => ?_) (fun c5 => ?_)
      · have hf := if_t c5 hf
        refine lv_lload hx hb dX13_cutAll_119 (lv_at hl 4 rfl) ?_
        exact t_X13_cutAll_121 (fu := fu) hM hml hr hlk hc0 hk17 hk70 hf hc _ _ hW _ (lv_sub hl [0, 1, 2, 3] rfl)
      · have hf := if_f c5 hf
        refine lv_ldc2 (v := (37 : Int64)) hx hb hM.2.2.1 (hM.2.2.2.1 _ (wgm kj_RX13_173)) dX13_cutAll_99 ?_
        refine lv_lload hx hb dX13_cutAll_102 (lv_at hl 4 rfl) ?_
        refine lv_lmul hx hb dX13_cutAll_104 ?_
        refine lv_aload_n hx hb dX13_cutAll_105 rfl (lv_at hl 0 rfl) ?_
        refine b_get hM hW 11 1 hc rfl rfl (by decide) wi_X13 (wgm fk_RX13_14) (x := .ref (a + 1)) rfl dX13_cutAll_106 ?_
        refine lv_iload_n hx hb dX13_cutAll_109 rfl (lv_at hl 2 rfl) ?_
        obtain ⟨h6, hf⟩ := ck_elim hf
        refine b_iald (n := 1000) hM hW 11 1 hc (by decide) rfl rfl rfl rfl h6 dX13_cutAll_110 ?_
        obtain ⟨r7, hr7, hf⟩ := bd_elim hf
        refine b_callSi [.int (gA v 1 x2.toNatClampNeg)] [.long ((37 : Int64) * x5)] hM hml hl.1 hW (c_X13_rank l G fu _ _ hr7) (va_cwS 1 hM.2.2.2.1 (gS mk_RX13_175 sm_X13_rank it_RX13 cd_X13_rank) rfl rfl rfl (by decide +kernel) ⟨Nat.le_of_ble_eq_true rfl, Nat.le_of_ble_eq_true rfl⟩) rfl rfl (Nat.le_of_ble_eq_true rfl) ⟨Nat.zero_le _, Nat.zero_le _⟩ dX13_cutAll_111 (fun H locs hW hk => ?_)
        refine lv_i2l hx hb dX13_cutAll_114 rfl ?_
        refine lv_ladd hx hb dX13_cutAll_115 ?_
        refine lv_goto (tgt := 121) hx hb dX13_cutAll_116 (by decide) ?_
        exact t_X13_cutAll_121 (fu := fu) hM hml hr hlk hc0 hk17 hk70 hf hc _ _ hW _ (lv_sub hl [0, 1, 2, 3] rfl)
theorem t_X13_cutAll_70 {G : GG} {p : Program} {l : Launch} {e : Env} {s : State} {m : MethodId} {args : Array Value} {below : List Frame} {meth : Method} {c : Code} {S : ST} {fu : Nat} {z : GV} {a : Nat} {v0 : GV} {k17 : Int32 → Int32 → GV → Option (GV)} {x1 : Int32} {x4 : Int32} (hM : MC G p s m args c cX13_cutAll w_X13_cutAll RX13) (hml : c.maxLocals = 7) (hr : meth.sig.returnType = none) (hlk : meth.locks = false) (hc0 : gC v0 = 12) (hk17 : ∀ (x1 : Int32) (x2 : Int32) (v : GV), k17 x1 x2 v = some z → gC v = 12 → ∀ (H : Heap) (locs : List Loc), WB G (st S a v) s H locs → ∀ (ls : Array Slot), lv_has ls 7 [(0, .ref a), (1, .int x1), (2, .int x2)] → W p l e RM_X13_cutAll s m args below meth c H locs 0 0 (QR G below args s none (st S a v0) (st S a z)) (F0 m 17 ls [])) : ∀ {n : Nat} (x2 : Int32) (x5 : Int64) (v : GV), f_X13_cutAll_70 fu n k17 x1 x4 x2 x5 v = some z → gC v = 12 → ∀ (H : Heap) (locs : List Loc), WB G (st S a v) s H locs → ∀ (ls : Array Slot), lv_has ls 7 [(0, .ref a), (1, .int x1), (2, .int x2), (4, .int x4), (5, .long x5)] → W p l e RM_X13_cutAll s m args below meth c H locs 0 0 (QR G below args s none (st S a v0) (st S a z)) (F0 m 70 ls []) := by
  intro n
  induction n with
  | zero => intro x2 x5 v hf; cases hf
  | succ n ih => intro x2 x5 v hf; exact t_X13_cutAll_70s (fu := fu) hM hml hr hlk hc0 hk17 (k70 := f_X13_cutAll_70 fu n k17 x1 x4) ih _ _ _ hf
noncomputable def f_X13_cutAll_44 (fu : Nat) (k17 : Int32 → Int32 → GV → Option (GV)) (v : GV) (x1 : Int32) (x2 : Int32) : Option (GV) :=
  nm (x2 + (1 : Int32)) fun y1 =>
  k17 x1 y1 v
set_option maxHeartbeats 4000000 in
set_option maxRecDepth 100000 in
theorem t_X13_cutAll_44 {G : GG} {p : Program} {l : Launch} {e : Env} {s : State} {m : MethodId} {args : Array Value} {below : List Frame} {meth : Method} {c : Code} {S : ST} {fu : Nat} {z : GV} {a : Nat} {v0 : GV} {k17 : Int32 → Int32 → GV → Option (GV)} {v : GV} {x1 : Int32} {x2 : Int32} (hM : MC G p s m args c cX13_cutAll w_X13_cutAll RX13) (hml : c.maxLocals = 7) (hr : meth.sig.returnType = none) (hlk : meth.locks = false) (hc0 : gC v0 = 12) (hk17 : ∀ (x1 : Int32) (x2 : Int32) (v : GV), k17 x1 x2 v = some z → gC v = 12 → ∀ (H : Heap) (locs : List Loc), WB G (st S a v) s H locs → ∀ (ls : Array Slot), lv_has ls 7 [(0, .ref a), (1, .int x1), (2, .int x2)] → W p l e RM_X13_cutAll s m args below meth c H locs 0 0 (QR G below args s none (st S a v0) (st S a z)) (F0 m 17 ls [])) (hf : f_X13_cutAll_44 fu k17 v x1 x2 = some z) : gC v = 12 → ∀ (H : Heap) (locs : List Loc), WB G (st S a v) s H locs → ∀ (ls : Array Slot), lv_has ls 7 [(0, .ref a), (1, .int x1), (2, .int x2)] → W p l e RM_X13_cutAll s m args below meth c H locs 0 0 (QR G below args s none (st S a v0) (st S a z)) (F0 m 44 ls []) := by
  intro hc H locs hW ls hl
  have hx := hM.1
  have hb := hM.2.1
  obtain ⟨y1, ey1⟩ : ∃ y : Int32, y = x2 + (1 : Int32) := ⟨_, rfl⟩
  have hf := nm_at ey1 hf
  refine lv_iinc (v := y1) (lv' := [(2, .int y1), (0, .ref a), (1, .int x1)]) hx hb dX13_cutAll_44 hl (k := 2) rfl (by rw [ey1]; rfl) (by decide) rfl (fun ls hl => ?_)
  refine lv_goto (tgt := 17) hx hb dX13_cutAll_47 (by decide) ?_
  exact hk17 _ _ _ hf hc _ _ hW _ (lv_sub hl [1, 2, 0] rfl)
noncomputable def f_X13_cutAll_17s (fu : Nat)  (k17 : Int32 → Int32 → GV → Option (GV)) (x1 : Int32) (x2 : Int32) (v : GV) : Option (GV) :=
  if (gI v 3) ≤ x2 then
    (ck (inb x1 1002) <|
    nm (sA v 4 x1.toNatClampNeg (0 : Int32)) fun v3 =>
    nm ((gI v3 3)) fun y4 =>
    ck (inb x1 1002) <|
    nm (sA v3 5 x1.toNatClampNeg y4) fun v6 =>
    nm (sI v6 7 (0 : Int32)) fun v7 =>
    nm (sI v7 8 (0 : Int32)) fun v8 =>
    some v8)
  else
    (ck (inb x2 1000) <|
    nm ((gA v 1 x2.toNatClampNeg)) fun y10 =>
    if y10 = (10 : Int32) then
      (f_X13_cutAll_44 fu k17 v x1 x2)
    else
      (if y10 = (32 : Int32) then
        (f_X13_cutAll_44 fu k17 v x1 x2)
      else
        (ck (inb x1 1002) <|
        nm (sA v 5 x1.toNatClampNeg x2) fun v14 =>
        bd (f_X13_isLetter fu y10) fun r15 =>
        if r15 = 0 then
          (bd (f_X13_isDigit fu y10) fun r17 =>
          if r17 = 0 then
            (nm ((y10).toInt64) fun y19 =>
            bd (f_X13_isSignOf fu y10) fun r20 =>
            if r20 = 0 then
              (f_X13_cutAll_261 fu k17 v14 x1 x2 y19 x1 (4 : Int32))
            else
              (f_X13_cutAll_261 fu k17 v14 x1 x2 y19 x1 (3 : Int32)))
          else
            (f_X13_cutAll_159 fu fu k17 x1 x2 x2 (0 : Int64) v14))
        else
          (f_X13_cutAll_70 fu fu k17 x1 x2 x2 (0 : Int64) v14))))
noncomputable def f_X13_cutAll_17 (fu n : Nat)  : Int32 → Int32 → GV → Option (GV) :=
  lq_3 (fun k17 => f_X13_cutAll_17s fu  k17 ) n
set_option maxHeartbeats 4000000 in
set_option maxRecDepth 100000 in
theorem t_X13_cutAll_17s {G : GG} {p : Program} {l : Launch} {e : Env} {s : State} {m : MethodId} {args : Array Value} {below : List Frame} {meth : Method} {c : Code} {S : ST} {fu : Nat} {z : GV} {a : Nat} {v0 : GV}  (hM : MC G p s m args c cX13_cutAll w_X13_cutAll RX13) (hml : c.maxLocals = 7) (hr : meth.sig.returnType = none) (hlk : meth.locks = false) (hc0 : gC v0 = 12) {k17 : Int32 → Int32 → GV → Option (GV)}  (hk17 : ∀ (x1 : Int32) (x2 : Int32) (v : GV), k17 x1 x2 v = some z → gC v = 12 → ∀ (H : Heap) (locs : List Loc), WB G (st S a v) s H locs → ∀ (ls : Array Slot), lv_has ls 7 [(0, .ref a), (1, .int x1), (2, .int x2)] → W p l e RM_X13_cutAll s m args below meth c H locs 0 0 (QR G below args s none (st S a v0) (st S a z)) (F0 m 17 ls [])) : ∀ (x1 : Int32) (x2 : Int32) (v : GV), f_X13_cutAll_17s fu  k17  x1 x2 v = some z → gC v = 12 → ∀ (H : Heap) (locs : List Loc), WB G (st S a v) s H locs → ∀ (ls : Array Slot), lv_has ls 7 [(0, .ref a), (1, .int x1), (2, .int x2)] → W p l e RM_X13_cutAll s m args below meth c H locs 0 0 (QR G below args s none (st S a v0) (st S a z)) (F0 m 17 ls []) := by
  intro x1 x2 v hf hc H locs hW ls hl
  have hx := hM.1
  have hb := hM.2.1
  refine lv_iload_n hx hb dX13_cutAll_17 rfl (lv_at hl 2 rfl) ?_
  refine lv_aload_n hx hb dX13_cutAll_18 rfl (lv_at hl 0 rfl) ?_
  refine b_get hM hW 11 3 hc rfl rfl (by decide) wi_X13 (wgm fk_RX13_170) (x := .int (gI v 3)) rfl dX13_cutAll_19 ?_
  refine lv_icmp_ge (tgt := 279) hx hb dX13_cutAll_22 (by decide) (fun c1 => ?_) (fun c1 => ?_)
  · have hf := if_t c1 hf
    refine lv_aload_n hx hb dX13_cutAll_279 rfl (lv_at hl 0 rfl) ?_
    refine b_get hM hW 11 4 hc rfl rfl (by decide) wi_X13 (wgm fk_RX13_24) (x := .ref (a + 2)) rfl dX13_cutAll_280 ?_
    refine lv_iload_n hx hb dX13_cutAll_283 rfl (lv_at hl 1 rfl) ?_
    refine lv_iconst (v := (0 : Int32)) hx hb dX13_cutAll_284 (by decide) ?_
    obtain ⟨h2, hf⟩ := ck_elim hf
    refine b_iast (n := 1002) hM hW 11 4 hc (by decide) rfl rfl rfl rfl h2 dX13_cutAll_285 (fun v3 ev3 hc H locs hW => ?_)
    have hf := nm_at ev3 hf
    refine lv_aload_n hx hb dX13_cutAll_286 rfl (lv_at hl 0 rfl) ?_
    refine b_get hM hW 11 5 hc rfl rfl (by decide) wi_X13 (wgm fk_RX13_27) (x := .ref (a + 3)) rfl dX13_cutAll_287 ?_
    refine lv_iload_n hx hb dX13_cutAll_290 rfl (lv_at hl 1 rfl) ?_
    refine lv_aload_n hx hb dX13_cutAll_291 rfl (lv_at hl 0 rfl) ?_
    refine b_get hM hW 11 3 hc rfl rfl (by decide) wi_X13 (wgm fk_RX13_170) (x := .int (gI v3 3)) rfl dX13_cutAll_292 ?_
    refine lv_topi (fun y4 ey4 => ?_)
    have hf := nm_at ey4 hf
    obtain ⟨h5, hf⟩ := ck_elim hf
    refine b_iast (n := 1002) hM hW 11 5 hc (by decide) rfl rfl rfl rfl h5 dX13_cutAll_295 (fun v6 ev6 hc H locs hW => ?_)
    have hf := nm_at ev6 hf
    refine lv_aload_n hx hb dX13_cutAll_296 rfl (lv_at hl 0 rfl) ?_
    refine lv_iconst (v := (0 : Int32)) hx hb dX13_cutAll_297 (by decide) ?_
    refine b_putI hM hW 11 7 hc rfl rfl (by decide) wi_X13 tyX13 tyX13_ok nmX13 (wgm fk_RX13_189) rfl rfl rfl dX13_cutAll_298 (fun v7 ev7 hc H locs hW => ?_)
    have hf := nm_at ev7 hf
    refine lv_aload_n hx hb dX13_cutAll_301 rfl (lv_at hl 0 rfl) ?_
    refine lv_iconst (v := (0 : Int32)) hx hb dX13_cutAll_302 (by decide) ?_
    refine b_putI hM hW 11 8 hc rfl rfl (by decide) wi_X13 tyX13 tyX13_ok nmX13 (wgm fk_RX13_192) rfl rfl rfl dX13_cutAll_303 (fun v8 ev8 hc H locs hW => ?_)
    have hf := nm_at ev8 hf
    cases hf
    exact W.vret hx hb hr (b_ret0 hW (keep_s2 hc0 hc) _) hW.2.2.2 dX13_cutAll_306 hlk
  · have hf := if_f c1 hf
    refine lv_aload_n hx hb dX13_cutAll_25 rfl (lv_at hl 0 rfl) ?_
    refine b_get hM hW 11 1 hc rfl rfl (by decide) wi_X13 (wgm fk_RX13_14) (x := .ref (a + 1)) rfl dX13_cutAll_26 ?_
    refine lv_iload_n hx hb dX13_cutAll_29 rfl (lv_at hl 2 rfl) ?_
    obtain ⟨h9, hf⟩ := ck_elim hf
    refine b_iald (n := 1000) hM hW 11 1 hc (by decide) rfl rfl rfl rfl h9 dX13_cutAll_30 ?_
    refine lv_topi (fun y10 ey10 => ?_)
    have hf := nm_at ey10 hf
    refine lv_istore_n (lv' := [(3, .int y10), (0, .ref a), (1, .int x1), (2, .int x2)]) hx hb dX13_cutAll_31 rfl hl (by decide) rfl (fun ls hl => ?_)
    refine lv_iload_n hx hb dX13_cutAll_32 rfl (lv_at hl 0 rfl) ?_
    refine lv_bipush (v := (10 : Int32)) hx hb dX13_cutAll_33 (by decide) ?_
    refine lv_icmp_eq (tgt := 44) hx hb dX13_cutAll_35 (by decide) (fun c11 => ?_) (fun c11 => ?_)
    · have hf := if_t c11 hf
      exact t_X13_cutAll_44 (fu := fu) hM hml hr hlk hc0 hk17 hf hc _ _ hW _ (lv_sub hl [1, 2, 3] rfl)
    · have hf := if_f c11 hf
      refine lv_iload_n hx hb dX13_cutAll_38 rfl (lv_at hl 0 rfl) ?_
      refine lv_bipush (v := (32 : Int32)) hx hb dX13_cutAll_39 (by decide) ?_
      refine lv_icmp_ne (tgt := 50) hx hb dX13_cutAll_41 (by decide) (fun c12 => ?_) (fun c12 => ?_)
      · have hf := if_f c12 hf
        refine lv_iload_n hx hb dX13_cutAll_50 rfl (lv_at hl 3 rfl) ?_
        refine lv_istore (lv' := [(4, .int x2), (3, .int y10), (0, .ref a), (1, .int x1), (2, .int x2)]) hx hb dX13_cutAll_51 hl (by decide) rfl (fun ls hl => ?_)
        refine lv_lconst (v := (0 : Int64)) hx hb dX13_cutAll_53 (by decide) ?_
        refine lv_lstore (lv' := [(5, .long (0 : Int64)), (4, .int x2), (3, .int y10), (0, .ref a), (1, .int x1), (2, .int x2)]) hx hb dX13_cutAll_54 hl (by decide) rfl (fun ls hl => ?_)
        refine lv_aload_n hx hb dX13_cutAll_56 rfl (lv_at hl 3 rfl) ?_
        refine b_get hM hW 11 5 hc rfl rfl (by decide) wi_X13 (wgm fk_RX13_27) (x := .ref (a + 3)) rfl dX13_cutAll_57 ?_
        refine lv_iload_n hx hb dX13_cutAll_60 rfl (lv_at hl 4 rfl) ?_
        refine lv_iload_n hx hb dX13_cutAll_61 rfl (lv_at hl 5 rfl) ?_
        obtain ⟨h13, hf⟩ := ck_elim hf
        refine b_iast (n := 1002) hM hW 11 5 hc (by decide) rfl rfl rfl rfl h13 dX13_cutAll_62 (fun v14 ev14 hc H locs hW => ?_)
        have hf := nm_at ev14 hf
        refine lv_iload_n hx hb dX13_cutAll_63 rfl (lv_at hl 2 rfl) ?_
        obtain ⟨r15, hr15, hf⟩ := bd_elim hf
        refine b_callSi [.int y10] [] hM hml hl.1 hW (c_X13_isLetter l G fu _ _ hr15) (va_cwS 1 hM.2.2.2.1 (gS mk_RX13_166 sm_X13_isLetter it_RX13 cd_X13_isLetter) rfl rfl rfl (by decide +kernel) ⟨Nat.le_of_ble_eq_true rfl, Nat.le_of_ble_eq_true rfl⟩) rfl rfl (Nat.le_of_ble_eq_true rfl) ⟨Nat.zero_le _, Nat.zero_le _⟩ dX13_cutAll_64 (fun H locs hW hk => ?_)
        refine lv_if_eq (tgt := 152) hx hb dX13_cutAll_67 (by decide) (fun c16 => ?_) (fun c16 => ?_)
        · have hf := if_t c16 hf
          refine lv_iload_n hx hb dX13_cutAll_152 rfl (lv_at hl 2 rfl) ?_
          obtain ⟨r17, hr17, hf⟩ := bd_elim hf
          refine b_callSi [.int y10] [] hM hml hl.1 hW (c_X13_isDigit l G fu _ _ hr17) (va_cwS 1 hM.2.2.2.1 (gS mk_RX13_179 sm_X13_isDigit it_RX13 cd_X13_isDigit) rfl rfl rfl (by decide +kernel) ⟨Nat.le_of_ble_eq_true rfl, Nat.le_of_ble_eq_true rfl⟩) rfl rfl (Nat.le_of_ble_eq_true rfl) ⟨Nat.zero_le _, Nat.zero_le _⟩ dX13_cutAll_153 (fun H locs hW hk => ?_)
          refine lv_if_eq (tgt := 240) hx hb dX13_cutAll_156 (by decide) (fun c18 => ?_) (fun c18 => ?_)
          · have hf := if_t c18 hf
            refine lv_iload_n hx hb dX13_cutAll_240 rfl (lv_at hl 2 rfl) ?_
            refine lv_i2l hx hb dX13_cutAll_241 rfl ?_
            refine lv_topl (fun y19 ey19 => ?_)
            have hf := nm_at ey19 hf
            refine lv_lstore (lv' := [(5, .long y19), (4, .int x2), (3, .int y10), (0, .ref a), (1, .int x1), (2, .int x2)]) hx hb dX13_cutAll_242 hl (by decide) rfl (fun ls hl => ?_)
            refine lv_aload_n hx hb dX13_cutAll_244 rfl (lv_at hl 3 rfl) ?_
            refine b_get hM hW 11 4 hc rfl rfl (by decide) wi_X13 (wgm fk_RX13_24) (x := .ref (a + 2)) rfl dX13_cutAll_245 ?_
            refine lv_iload_n hx hb dX13_cutAll_248 rfl (lv_at hl 4 rfl) ?_
            refine lv_iload_n hx hb dX13_cutAll_249 rfl (lv_at hl 2 rfl) ?_
            obtain ⟨r20, hr20, hf⟩ := bd_elim hf
            refine b_callSi [.int y10] [.int x1, .ref (a + 2)] hM hml hl.1 hW (c_X13_isSignOf l G fu _ _ hr20) (va_cwS 1 hM.2.2.2.1 (gS mk_RX13_186 sm_X13_isSignOf it_RX13 cd_X13_isSignOf) rfl rfl rfl (by decide +kernel) ⟨Nat.le_of_ble_eq_true rfl, Nat.le_of_ble_eq_true rfl⟩) rfl rfl (Nat.le_of_ble_eq_true rfl) ⟨Nat.zero_le _, Nat.zero_le _⟩ dX13_cutAll_250 (fun H locs hW hk => ?_)
            refine lv_if_eq (tgt := 260) hx hb dX13_cutAll_253 (by decide) (fun c21 => ?_) (fun c21 => ?_)
            · have hf := if_t c21 hf
              refine lv_iconst (v := (4 : Int32)) hx hb dX13_cutAll_260 (by decide) ?_
              exact t_X13_cutAll_261 (fu := fu) hM hml hr hlk hc0 hk17 hf hc _ _ hW _ (lv_sub hl [3, 4, 5, 0] rfl)
            · have hf := if_f c21 hf
              refine lv_iconst (v := (3 : Int32)) hx hb dX13_cutAll_256 (by decide) ?_
              refine lv_goto (tgt := 261) hx hb dX13_cutAll_257 (by decide) ?_
              exact t_X13_cutAll_261 (fu := fu) hM hml hr hlk hc0 hk17 hf hc _ _ hW _ (lv_sub hl [3, 4, 5, 0] rfl)
          · have hf := if_f c18 hf
            exact t_X13_cutAll_159 (fu := fu) hM hml hr hlk hc0 hk17 _ _ _ hf hc _ _ hW _ (lv_sub hl [3, 4, 5, 1, 0] rfl)
        · have hf := if_f c16 hf
          exact t_X13_cutAll_70 (fu := fu) hM hml hr hlk hc0 hk17 _ _ _ hf hc _ _ hW _ (lv_sub hl [3, 4, 5, 1, 0] rfl)
      · have hf := if_t c12 hf
        exact t_X13_cutAll_44 (fu := fu) hM hml hr hlk hc0 hk17 hf hc _ _ hW _ (lv_sub hl [1, 2, 3] rfl)
theorem t_X13_cutAll_17 {G : GG} {p : Program} {l : Launch} {e : Env} {s : State} {m : MethodId} {args : Array Value} {below : List Frame} {meth : Method} {c : Code} {S : ST} {fu : Nat} {z : GV} {a : Nat} {v0 : GV}  (hM : MC G p s m args c cX13_cutAll w_X13_cutAll RX13) (hml : c.maxLocals = 7) (hr : meth.sig.returnType = none) (hlk : meth.locks = false) (hc0 : gC v0 = 12)  : ∀ {n : Nat} (x1 : Int32) (x2 : Int32) (v : GV), f_X13_cutAll_17 fu n   x1 x2 v = some z → gC v = 12 → ∀ (H : Heap) (locs : List Loc), WB G (st S a v) s H locs → ∀ (ls : Array Slot), lv_has ls 7 [(0, .ref a), (1, .int x1), (2, .int x2)] → W p l e RM_X13_cutAll s m args below meth c H locs 0 0 (QR G below args s none (st S a v0) (st S a z)) (F0 m 17 ls []) := by
  intro n
  induction n with
  | zero => intro x1 x2 v hf; cases hf
  | succ n ih => intro x1 x2 v hf; exact t_X13_cutAll_17s (fu := fu) hM hml hr hlk hc0  (k17 := f_X13_cutAll_17 fu n  ) ih _ _ _ hf
noncomputable def f_X13_cutAll_0 (fu : Nat)  (v : GV) : Option (GV) :=
  nm (sI v 3 (gI v 2)) fun v1 =>
  nm (sI v1 2 (0 : Int32)) fun v2 =>
  f_X13_cutAll_17 fu fu (0 : Int32) (0 : Int32) v2
set_option maxHeartbeats 4000000 in
set_option maxRecDepth 100000 in
theorem t_X13_cutAll_0 {G : GG} {p : Program} {l : Launch} {e : Env} {s : State} {m : MethodId} {args : Array Value} {below : List Frame} {meth : Method} {c : Code} {S : ST} {fu : Nat} {z : GV} {a : Nat} {v0 : GV}  {v : GV} (hM : MC G p s m args c cX13_cutAll w_X13_cutAll RX13) (hml : c.maxLocals = 7) (hr : meth.sig.returnType = none) (hlk : meth.locks = false) (hc0 : gC v0 = 12)  (hf : f_X13_cutAll_0 fu  v  = some z) : gC v = 12 → ∀ (H : Heap) (locs : List Loc), WB G (st S a v) s H locs → ∀ (ls : Array Slot), lv_has ls 7 [(0, .ref a)] → W p l e RM_X13_cutAll s m args below meth c H locs 0 0 (QR G below args s none (st S a v0) (st S a z)) (F0 m 0 ls []) := by
  intro hc H locs hW ls hl
  have hx := hM.1
  have hb := hM.2.1
  refine lv_aload_n hx hb dX13_cutAll_0 rfl (lv_at hl 0 rfl) ?_
  refine lv_aload_n hx hb dX13_cutAll_1 rfl (lv_at hl 0 rfl) ?_
  refine b_get hM hW 11 2 hc rfl rfl (by decide) wi_X13 (wgm fk_RX13_11) (x := .int (gI v 2)) rfl dX13_cutAll_2 ?_
  refine b_putI hM hW 11 3 hc rfl rfl (by decide) wi_X13 tyX13 tyX13_ok nmX13 (wgm fk_RX13_170) rfl rfl rfl dX13_cutAll_5 (fun v1 ev1 hc H locs hW => ?_)
  have hf := nm_at ev1 hf
  refine lv_aload_n hx hb dX13_cutAll_8 rfl (lv_at hl 0 rfl) ?_
  refine lv_iconst (v := (0 : Int32)) hx hb dX13_cutAll_9 (by decide) ?_
  refine b_putI hM hW 11 2 hc rfl rfl (by decide) wi_X13 tyX13 tyX13_ok nmX13 (wgm fk_RX13_11) rfl rfl rfl dX13_cutAll_10 (fun v2 ev2 hc H locs hW => ?_)
  have hf := nm_at ev2 hf
  refine lv_iconst (v := (0 : Int32)) hx hb dX13_cutAll_13 (by decide) ?_
  refine lv_istore_n (lv' := [(1, .int (0 : Int32)), (0, .ref a)]) hx hb dX13_cutAll_14 rfl hl (by decide) rfl (fun ls hl => ?_)
  refine lv_iconst (v := (0 : Int32)) hx hb dX13_cutAll_15 (by decide) ?_
  refine lv_istore_n (lv' := [(2, .int (0 : Int32)), (1, .int (0 : Int32)), (0, .ref a)]) hx hb dX13_cutAll_16 rfl hl (by decide) rfl (fun ls hl => ?_)
  exact t_X13_cutAll_17 (fu := fu) hM hml hr hlk hc0 _ _ _ hf hc _ _ hW _ (lv_sub hl [2, 1, 0] rfl)
noncomputable def f_X13_cutAll (fu : Nat) (v : GV) : Option (GV) := f_X13_cutAll_0 fu v
set_option maxHeartbeats 4000000 in
set_option maxRecDepth 100000 in
theorem c_X13_cutAll (l : Launch) (G : GG) (fu : Nat) (S : ST) (a : Nat) (v : GV) {z : GV} (hc : gC v = 12) (hf : f_X13_cutAll fu v = some z) : Ct l yX13_cutAll w_X13_cutAll RM_X13_cutAll G (st S a v) [.ref a] none (st S a z) 0 0 := by
  refine Met.ofW (cc := cX13_cutAll) (maxL := 7) (ret := none) (by decide) rfl ?_
  intro p e s m args below meth c s₁ B hml hv
  obtain ⟨rfl, hB, hK, hz⟩ := hv
  have hM : MC G p s m _ c cX13_cutAll w_X13_cutAll RX13 := ⟨B.exec, B.bytes, findClass_of_methodNamed B.named, atoms_spec (ws := w_X13_cutAll) B.pre, hK, hz⟩
  have hW : WB G (st S a v) s s.heap [] := ⟨hB, va_S.rf⟩
  have hl := lv_entry ([.ref a]) (n := 7) (Nat.le_of_ble_eq_true rfl)
  rw [lg_entry_eq]
  generalize (lg_sl ([.ref a]) ++ List.replicate (7 - (lg_sl ([.ref a])).length) Slot.unset).toArray = ls at hl ⊢
  have hl : lv_has ls 7 [(0, .ref a)] := hl
  exact t_X13_cutAll_0 hM hml B.returns B.notSynchronized hc hf hc _ _ hW _ (lv_sub hl [0] rfl)
abbrev w_X13_wrong : List Cond := Cond.code yX13_wrong cX13_wrong 2 none :: wsL_law0
abbrev RM_X13_wrong : Room := { frames := 0, cells := 0, slots := 0, locals := 0 }
noncomputable def f_X13_wrong_0 (fu : Nat)  (v : GV) (x1 : Int32) : Option (GV) :=
  if (gI v 8) = 0 then
    (nm ((gI v 7)) fun y2 =>
    ck (inb y2 1002) <|
    nm (sI v 8 (x1 + ((16 : Int32) * (gA v 5 y2.toNatClampNeg)))) fun v4 =>
    some v4)
  else
    (some v)
set_option maxHeartbeats 4000000 in
set_option maxRecDepth 100000 in
theorem t_X13_wrong_0 {G : GG} {p : Program} {l : Launch} {e : Env} {s : State} {m : MethodId} {args : Array Value} {below : List Frame} {meth : Method} {c : Code} {S : ST} {fu : Nat} {z : GV} {a : Nat} {v0 : GV}  {v : GV} {x1 : Int32} (hM : MC G p s m args c cX13_wrong w_X13_wrong RX13) (hml : c.maxLocals = 2) (hr : meth.sig.returnType = none) (hlk : meth.locks = false) (hc0 : gC v0 = 12)  (hf : f_X13_wrong_0 fu  v x1 = some z) : gC v = 12 → ∀ (H : Heap) (locs : List Loc), WB G (st S a v) s H locs → ∀ (ls : Array Slot), lv_has ls 2 [(0, .ref a), (1, .int x1)] → W p l e RM_X13_wrong s m args below meth c H locs 0 0 (QR G below args s none (st S a v0) (st S a z)) (F0 m 0 ls []) := by
  intro hc H locs hW ls hl
  have hx := hM.1
  have hb := hM.2.1
  refine lv_aload_n hx hb dX13_wrong_0 rfl (lv_at hl 0 rfl) ?_
  refine b_get hM hW 11 8 hc rfl rfl (by decide) wi_X13 (wgm fk_RX13_192) (x := .int (gI v 8)) rfl dX13_wrong_1 ?_
  refine lv_if_ne (tgt := 25) hx hb dX13_wrong_4 (by decide) (fun c1 => ?_) (fun c1 => ?_)
  · have hf := if_f c1 hf
    cases hf
    exact W.vret hx hb hr (b_ret0 hW (keep_s2 hc0 hc) _) hW.2.2.2 dX13_wrong_25 hlk
  · have hf := if_t c1 hf
    refine lv_aload_n hx hb dX13_wrong_7 rfl (lv_at hl 0 rfl) ?_
    refine lv_iload_n hx hb dX13_wrong_8 rfl (lv_at hl 1 rfl) ?_
    refine lv_bipush (v := (16 : Int32)) hx hb dX13_wrong_9 (by decide) ?_
    refine lv_aload_n hx hb dX13_wrong_11 rfl (lv_at hl 0 rfl) ?_
    refine b_get hM hW 11 5 hc rfl rfl (by decide) wi_X13 (wgm fk_RX13_27) (x := .ref (a + 3)) rfl dX13_wrong_12 ?_
    refine lv_aload_n hx hb dX13_wrong_15 rfl (lv_at hl 0 rfl) ?_
    refine b_get hM hW 11 7 hc rfl rfl (by decide) wi_X13 (wgm fk_RX13_189) (x := .int (gI v 7)) rfl dX13_wrong_16 ?_
    refine lv_topi (fun y2 ey2 => ?_)
    have hf := nm_at ey2 hf
    obtain ⟨h3, hf⟩ := ck_elim hf
    refine b_iald (n := 1002) hM hW 11 5 hc (by decide) rfl rfl rfl rfl h3 dX13_wrong_19 ?_
    refine lv_imul hx hb dX13_wrong_20 ?_
    refine lv_iadd hx hb dX13_wrong_21 ?_
    refine b_putI hM hW 11 8 hc rfl rfl (by decide) wi_X13 tyX13 tyX13_ok nmX13 (wgm fk_RX13_192) rfl rfl rfl dX13_wrong_22 (fun v4 ev4 hc H locs hW => ?_)
    have hf := nm_at ev4 hf
    cases hf
    exact W.vret hx hb hr (b_ret0 hW (keep_s2 hc0 hc) _) hW.2.2.2 dX13_wrong_25 hlk
noncomputable def f_X13_wrong (fu : Nat) (v : GV) (x1 : Int32) : Option (GV) := f_X13_wrong_0 fu v x1
set_option maxHeartbeats 4000000 in
set_option maxRecDepth 100000 in
theorem c_X13_wrong (l : Launch) (G : GG) (fu : Nat) (S : ST) (a : Nat) (v : GV) (x1 : Int32) {z : GV} (hc : gC v = 12) (hf : f_X13_wrong fu v x1 = some z) : Ct l yX13_wrong w_X13_wrong RM_X13_wrong G (st S a v) [.ref a, .int x1] none (st S a z) 0 0 := by
  refine Met.ofW (cc := cX13_wrong) (maxL := 2) (ret := none) (by decide) rfl ?_
  intro p e s m args below meth c s₁ B hml hv
  obtain ⟨rfl, hB, hK, hz⟩ := hv
  have hM : MC G p s m _ c cX13_wrong w_X13_wrong RX13 := ⟨B.exec, B.bytes, findClass_of_methodNamed B.named, atoms_spec (ws := w_X13_wrong) B.pre, hK, hz⟩
  have hW : WB G (st S a v) s s.heap [] := ⟨hB, va_S.rf⟩
  have hl := lv_entry ([.ref a, .int x1]) (n := 2) (Nat.le_of_ble_eq_true rfl)
  rw [lg_entry_eq]
  generalize (lg_sl ([.ref a, .int x1]) ++ List.replicate (2 - (lg_sl ([.ref a, .int x1])).length) Slot.unset).toArray = ls at hl ⊢
  have hl : lv_has ls 2 [(0, .ref a), (1, .int x1)] := hl
  exact t_X13_wrong_0 hM hml B.returns B.notSynchronized hc hf hc _ _ hW _ (lv_sub hl [0, 1] rfl)
abbrev w_X13_isSign : List Cond := Cond.code yX13_isSign cX13_isSign 2 (some .boolean) :: wsL_law0
abbrev RM_X13_isSign : Room := { frames := 0, cells := 0, slots := 0, locals := 0 }
noncomputable def f_X13_isSign_39 (fu : Nat)  (v : GV) : Option (Int32) :=
  some (0 : Int32)
set_option maxHeartbeats 4000000 in
set_option maxRecDepth 100000 in
theorem t_X13_isSign_39 {G : GG} {p : Program} {l : Launch} {e : Env} {s : State} {m : MethodId} {args : Array Value} {below : List Frame} {meth : Method} {c : Code} {S : ST} {fu : Nat} {z : Int32} {a : Nat} {v : GV}  (hM : MC G p s m args c cX13_isSign w_X13_isSign RX13) (hml : c.maxLocals = 2) (hr : meth.sig.returnType = (some .boolean)) (hlk : meth.locks = false) (hc0 : gC v = 12)  (hf : f_X13_isSign_39 fu  v  = some z) : ∀ (H : Heap) (locs : List Loc), WB G (st S a v) s H locs → ∀ (ls : Array Slot), lv_has ls 2 [] → W p l e RM_X13_isSign s m args below meth c H locs 0 0 (QR G below args s (some (.int z)) (st S a v) (st S a v)) (F0 m 39 ls []) := by
  intro H locs hW ls hl
  have hx := hM.1
  have hb := hM.2.1
  have hc := hc0
  refine lv_iconst (v := (0 : Int32)) hx hb dX13_isSign_39 (by decide) ?_
  cases hf
  exact W.zret (v := (0 : Int32)) hx hb hr (by decide) (b_ret0 hW (fun _ _ => rfl) _) hW.2.2.2 dX13_isSign_40 hlk
noncomputable def f_X13_isSign_0 (fu : Nat)  (v : GV) (x1 : Int32) : Option (Int32) :=
  if (gI v 8) = 0 then
    (nm ((gI v 7)) fun y2 =>
    ck (inb y2 1002) <|
    if (gA v 4 y2.toNatClampNeg) = (3 : Int32) then
      (nm ((gI v 7)) fun y5 =>
      ck (inb y5 1002) <|
      if (lg_cmp (gL v 6 y5.toNatClampNeg) (x1).toInt64) = 0 then
        (some (1 : Int32))
      else
        (f_X13_isSign_39 fu v))
    else
      (f_X13_isSign_39 fu v))
  else
    (f_X13_isSign_39 fu v)
set_option maxHeartbeats 4000000 in
set_option maxRecDepth 100000 in
theorem t_X13_isSign_0 {G : GG} {p : Program} {l : Launch} {e : Env} {s : State} {m : MethodId} {args : Array Value} {below : List Frame} {meth : Method} {c : Code} {S : ST} {fu : Nat} {z : Int32} {a : Nat} {v : GV}  {x1 : Int32} (hM : MC G p s m args c cX13_isSign w_X13_isSign RX13) (hml : c.maxLocals = 2) (hr : meth.sig.returnType = (some .boolean)) (hlk : meth.locks = false) (hc0 : gC v = 12)  (hf : f_X13_isSign_0 fu  v x1 = some z) : ∀ (H : Heap) (locs : List Loc), WB G (st S a v) s H locs → ∀ (ls : Array Slot), lv_has ls 2 [(0, .ref a), (1, .int x1)] → W p l e RM_X13_isSign s m args below meth c H locs 0 0 (QR G below args s (some (.int z)) (st S a v) (st S a v)) (F0 m 0 ls []) := by
  intro H locs hW ls hl
  have hx := hM.1
  have hb := hM.2.1
  have hc := hc0
  refine lv_aload_n hx hb dX13_isSign_0 rfl (lv_at hl 0 rfl) ?_
  refine b_get hM hW 11 8 hc rfl rfl (by decide) wi_X13 (wgm fk_RX13_192) (x := .int (gI v 8)) rfl dX13_isSign_1 ?_
  refine lv_if_ne (tgt := 39) hx hb dX13_isSign_4 (by decide) (fun c1 => ?_) (fun c1 => ?_)
  · have hf := if_f c1 hf
    exact t_X13_isSign_39 (fu := fu) hM hml hr hlk hc0 hf _ _ hW _ (lv_sub hl [] rfl)
  · have hf := if_t c1 hf
    refine lv_aload_n hx hb dX13_isSign_7 rfl (lv_at hl 0 rfl) ?_
    refine b_get hM hW 11 4 hc rfl rfl (by decide) wi_X13 (wgm fk_RX13_24) (x := .ref (a + 2)) rfl dX13_isSign_8 ?_
    refine lv_aload_n hx hb dX13_isSign_11 rfl (lv_at hl 0 rfl) ?_
    refine b_get hM hW 11 7 hc rfl rfl (by decide) wi_X13 (wgm fk_RX13_189) (x := .int (gI v 7)) rfl dX13_isSign_12 ?_
    refine lv_topi (fun y2 ey2 => ?_)
    have hf := nm_at ey2 hf
    obtain ⟨h3, hf⟩ := ck_elim hf
    refine b_iald (n := 1002) hM hW 11 4 hc (by decide) rfl rfl rfl rfl h3 dX13_isSign_15 ?_
    refine lv_iconst (v := (3 : Int32)) hx hb dX13_isSign_16 (by decide) ?_
    refine lv_icmp_ne (tgt := 39) hx hb dX13_isSign_17 (by decide) (fun c4 => ?_) (fun c4 => ?_)
    · have hf := if_f c4 hf
      exact t_X13_isSign_39 (fu := fu) hM hml hr hlk hc0 hf _ _ hW _ (lv_sub hl [] rfl)
    · have hf := if_t c4 hf
      refine lv_aload_n hx hb dX13_isSign_20 rfl (lv_at hl 0 rfl) ?_
      refine b_get hM hW 11 6 hc rfl rfl (by decide) wi_X13 (wgm fk_RX13_30) (x := .ref (a + 4)) rfl dX13_isSign_21 ?_
      refine lv_aload_n hx hb dX13_isSign_24 rfl (lv_at hl 0 rfl) ?_
      refine b_get hM hW 11 7 hc rfl rfl (by decide) wi_X13 (wgm fk_RX13_189) (x := .int (gI v 7)) rfl dX13_isSign_25 ?_
      refine lv_topi (fun y5 ey5 => ?_)
      have hf := nm_at ey5 hf
      obtain ⟨h6, hf⟩ := ck_elim hf
      refine b_lald (n := 1002) hM hW 11 6 hc (by decide) rfl rfl rfl rfl h6 dX13_isSign_28 ?_
      refine lv_iload_n hx hb dX13_isSign_29 rfl (lv_at hl 1 rfl) ?_
      refine lv_i2l hx hb dX13_isSign_30 rfl ?_
      refine W.lcmp hx hb dX13_isSign_31 ?_
      refine lv_if_ne (tgt := 39) hx hb dX13_isSign_32 (by decide) (fun c7 => ?_) (fun c7 => ?_)
      · have hf := if_f c7 hf
        exact t_X13_isSign_39 (fu := fu) hM hml hr hlk hc0 hf _ _ hW _ (lv_sub hl [] rfl)
      · have hf := if_t c7 hf
        refine lv_iconst (v := (1 : Int32)) hx hb dX13_isSign_35 (by decide) ?_
        refine lv_goto (tgt := 40) hx hb dX13_isSign_36 (by decide) ?_
        cases hf
        exact W.zret (v := (1 : Int32)) hx hb hr (by decide) (b_ret0 hW (fun _ _ => rfl) _) hW.2.2.2 dX13_isSign_40 hlk
noncomputable def f_X13_isSign (fu : Nat) (v : GV) (x1 : Int32) : Option (Int32) := f_X13_isSign_0 fu v x1
set_option maxHeartbeats 4000000 in
set_option maxRecDepth 100000 in
theorem c_X13_isSign (l : Launch) (G : GG) (fu : Nat) (S : ST) (a : Nat) (v : GV) (x1 : Int32) {z : Int32} (hc : gC v = 12) (hf : f_X13_isSign fu v x1 = some z) : Ct l yX13_isSign w_X13_isSign RM_X13_isSign G (st S a v) [.ref a, .int x1] (some (.int z)) (st S a v) 0 0 := by
  refine Met.ofW (cc := cX13_isSign) (maxL := 2) (ret := (some .boolean)) (by decide) rfl ?_
  intro p e s m args below meth c s₁ B hml hv
  obtain ⟨rfl, hB, hK, hz⟩ := hv
  have hM : MC G p s m _ c cX13_isSign w_X13_isSign RX13 := ⟨B.exec, B.bytes, findClass_of_methodNamed B.named, atoms_spec (ws := w_X13_isSign) B.pre, hK, hz⟩
  have hW : WB G (st S a v) s s.heap [] := ⟨hB, va_S.rf⟩
  have hl := lv_entry ([.ref a, .int x1]) (n := 2) (Nat.le_of_ble_eq_true rfl)
  rw [lg_entry_eq]
  generalize (lg_sl ([.ref a, .int x1]) ++ List.replicate (2 - (lg_sl ([.ref a, .int x1])).length) Slot.unset).toArray = ls at hl ⊢
  have hl : lv_has ls 2 [(0, .ref a), (1, .int x1)] := hl
  exact t_X13_isSign_0 hM hml B.returns B.notSynchronized hc hf _ _ hW _ (lv_sub hl [0, 1] rfl)
abbrev w_X13_isWord : List Cond := Cond.code yX13_isWord cX13_isWord 2 (some .boolean) :: wsL_law0
abbrev RM_X13_isWord : Room := { frames := 0, cells := 0, slots := 0, locals := 0 }
noncomputable def f_X13_isWord_43 (fu : Nat)  (v : GV) : Option (Int32) :=
  some (0 : Int32)
set_option maxHeartbeats 4000000 in
set_option maxRecDepth 100000 in
theorem t_X13_isWord_43 {G : GG} {p : Program} {l : Launch} {e : Env} {s : State} {m : MethodId} {args : Array Value} {below : List Frame} {meth : Method} {c : Code} {S : ST} {fu : Nat} {z : Int32} {a : Nat} {v : GV}  (hM : MC G p s m args c cX13_isWord w_X13_isWord RX13) (hml : c.maxLocals = 2) (hr : meth.sig.returnType = (some .boolean)) (hlk : meth.locks = false) (hc0 : gC v = 12)  (hf : f_X13_isWord_43 fu  v  = some z) : ∀ (H : Heap) (locs : List Loc), WB G (st S a v) s H locs → ∀ (ls : Array Slot), lv_has ls 2 [] → W p l e RM_X13_isWord s m args below meth c H locs 0 0 (QR G below args s (some (.int z)) (st S a v) (st S a v)) (F0 m 43 ls []) := by
  intro H locs hW ls hl
  have hx := hM.1
  have hb := hM.2.1
  have hc := hc0
  refine lv_iconst (v := (0 : Int32)) hx hb dX13_isWord_43 (by decide) ?_
  cases hf
  exact W.zret (v := (0 : Int32)) hx hb hr (by decide) (b_ret0 hW (fun _ _ => rfl) _) hW.2.2.2 dX13_isWord_44 hlk
noncomputable def f_X13_isWord_0 (fu : Nat)  (v : GV) (x1 : Int32) : Option (Int32) :=
  if (gI v 8) = 0 then
    (nm ((gI v 7)) fun y2 =>
    ck (inb y2 1002) <|
    if (gA v 4 y2.toNatClampNeg) = (1 : Int32) then
      (nm ((gI v 7)) fun y5 =>
      ck (inb y5 1002) <|
      ck (inb x1 29) <|
      if (lg_cmp (gL v 6 y5.toNatClampNeg) (gL v 9 x1.toNatClampNeg)) = 0 then
        (some (1 : Int32))
      else
        (f_X13_isWord_43 fu v))
    else
      (f_X13_isWord_43 fu v))
  else
    (f_X13_isWord_43 fu v)
set_option maxHeartbeats 4000000 in
set_option maxRecDepth 100000 in
theorem t_X13_isWord_0 {G : GG} {p : Program} {l : Launch} {e : Env} {s : State} {m : MethodId} {args : Array Value} {below : List Frame} {meth : Method} {c : Code} {S : ST} {fu : Nat} {z : Int32} {a : Nat} {v : GV}  {x1 : Int32} (hM : MC G p s m args c cX13_isWord w_X13_isWord RX13) (hml : c.maxLocals = 2) (hr : meth.sig.returnType = (some .boolean)) (hlk : meth.locks = false) (hc0 : gC v = 12)  (hf : f_X13_isWord_0 fu  v x1 = some z) : ∀ (H : Heap) (locs : List Loc), WB G (st S a v) s H locs → ∀ (ls : Array Slot), lv_has ls 2 [(0, .ref a), (1, .int x1)] → W p l e RM_X13_isWord s m args below meth c H locs 0 0 (QR G below args s (some (.int z)) (st S a v) (st S a v)) (F0 m 0 ls []) := by
  intro H locs hW ls hl
  have hx := hM.1
  have hb := hM.2.1
  have hc := hc0
  refine lv_aload_n hx hb dX13_isWord_0 rfl (lv_at hl 0 rfl) ?_
  refine b_get hM hW 11 8 hc rfl rfl (by decide) wi_X13 (wgm fk_RX13_192) (x := .int (gI v 8)) rfl dX13_isWord_1 ?_
  refine lv_if_ne (tgt := 43) hx hb dX13_isWord_4 (by decide) (fun c1 => ?_) (fun c1 => ?_)
  · have hf := if_f c1 hf
    exact t_X13_isWord_43 (fu := fu) hM hml hr hlk hc0 hf _ _ hW _ (lv_sub hl [] rfl)
  · have hf := if_t c1 hf
    refine lv_aload_n hx hb dX13_isWord_7 rfl (lv_at hl 0 rfl) ?_
    refine b_get hM hW 11 4 hc rfl rfl (by decide) wi_X13 (wgm fk_RX13_24) (x := .ref (a + 2)) rfl dX13_isWord_8 ?_
    refine lv_aload_n hx hb dX13_isWord_11 rfl (lv_at hl 0 rfl) ?_
    refine b_get hM hW 11 7 hc rfl rfl (by decide) wi_X13 (wgm fk_RX13_189) (x := .int (gI v 7)) rfl dX13_isWord_12 ?_
    refine lv_topi (fun y2 ey2 => ?_)
    have hf := nm_at ey2 hf
    obtain ⟨h3, hf⟩ := ck_elim hf
    refine b_iald (n := 1002) hM hW 11 4 hc (by decide) rfl rfl rfl rfl h3 dX13_isWord_15 ?_
    refine lv_iconst (v := (1 : Int32)) hx hb dX13_isWord_16 (by decide) ?_
    refine lv_icmp_ne (tgt := 43) hx hb dX13_isWord_17 (by decide) (fun c4 => ?_) (fun c4 => ?_)
    · have hf := if_f c4 hf
      exact t_X13_isWord_43 (fu := fu) hM hml hr hlk hc0 hf _ _ hW _ (lv_sub hl [] rfl)
    · have hf := if_t c4 hf
      refine lv_aload_n hx hb dX13_isWord_20 rfl (lv_at hl 0 rfl) ?_
      refine b_get hM hW 11 6 hc rfl rfl (by decide) wi_X13 (wgm fk_RX13_30) (x := .ref (a + 4)) rfl dX13_isWord_21 ?_
      refine lv_aload_n hx hb dX13_isWord_24 rfl (lv_at hl 0 rfl) ?_
      refine b_get hM hW 11 7 hc rfl rfl (by decide) wi_X13 (wgm fk_RX13_189) (x := .int (gI v 7)) rfl dX13_isWord_25 ?_
      refine lv_topi (fun y5 ey5 => ?_)
      have hf := nm_at ey5 hf
      obtain ⟨h6, hf⟩ := ck_elim hf
      refine b_lald (n := 1002) hM hW 11 6 hc (by decide) rfl rfl rfl rfl h6 dX13_isWord_28 ?_
      refine lv_aload_n hx hb dX13_isWord_29 rfl (lv_at hl 0 rfl) ?_
      refine b_get hM hW 11 9 hc rfl rfl (by decide) wi_X13 (wgm fk_RX13_92) (x := .ref (a + 5)) rfl dX13_isWord_30 ?_
      refine lv_iload_n hx hb dX13_isWord_33 rfl (lv_at hl 1 rfl) ?_
      obtain ⟨h7, hf⟩ := ck_elim hf
      refine b_lald (n := 29) hM hW 11 9 hc (by decide) rfl rfl rfl rfl h7 dX13_isWord_34 ?_
      refine W.lcmp hx hb dX13_isWord_35 ?_
      refine lv_if_ne (tgt := 43) hx hb dX13_isWord_36 (by decide) (fun c8 => ?_) (fun c8 => ?_)
      · have hf := if_f c8 hf
        exact t_X13_isWord_43 (fu := fu) hM hml hr hlk hc0 hf _ _ hW _ (lv_sub hl [] rfl)
      · have hf := if_t c8 hf
        refine lv_iconst (v := (1 : Int32)) hx hb dX13_isWord_39 (by decide) ?_
        refine lv_goto (tgt := 44) hx hb dX13_isWord_40 (by decide) ?_
        cases hf
        exact W.zret (v := (1 : Int32)) hx hb hr (by decide) (b_ret0 hW (fun _ _ => rfl) _) hW.2.2.2 dX13_isWord_44 hlk
noncomputable def f_X13_isWord (fu : Nat) (v : GV) (x1 : Int32) : Option (Int32) := f_X13_isWord_0 fu v x1
set_option maxHeartbeats 4000000 in
set_option maxRecDepth 100000 in
theorem c_X13_isWord (l : Launch) (G : GG) (fu : Nat) (S : ST) (a : Nat) (v : GV) (x1 : Int32) {z : Int32} (hc : gC v = 12) (hf : f_X13_isWord fu v x1 = some z) : Ct l yX13_isWord w_X13_isWord RM_X13_isWord G (st S a v) [.ref a, .int x1] (some (.int z)) (st S a v) 0 0 := by
  refine Met.ofW (cc := cX13_isWord) (maxL := 2) (ret := (some .boolean)) (by decide) rfl ?_
  intro p e s m args below meth c s₁ B hml hv
  obtain ⟨rfl, hB, hK, hz⟩ := hv
  have hM : MC G p s m _ c cX13_isWord w_X13_isWord RX13 := ⟨B.exec, B.bytes, findClass_of_methodNamed B.named, atoms_spec (ws := w_X13_isWord) B.pre, hK, hz⟩
  have hW : WB G (st S a v) s s.heap [] := ⟨hB, va_S.rf⟩
  have hl := lv_entry ([.ref a, .int x1]) (n := 2) (Nat.le_of_ble_eq_true rfl)
  rw [lg_entry_eq]
  generalize (lg_sl ([.ref a, .int x1]) ++ List.replicate (2 - (lg_sl ([.ref a, .int x1])).length) Slot.unset).toArray = ls at hl ⊢
  have hl : lv_has ls 2 [(0, .ref a), (1, .int x1)] := hl
  exact t_X13_isWord_0 hM hml B.returns B.notSynchronized hc hf _ _ hW _ (lv_sub hl [0, 1] rfl)
abbrev w_X13_takeSign : List Cond := Cond.code yX13_takeSign cX13_takeSign 2 none :: wsL_law0
abbrev RM_X13_takeSign : Room := { frames := 1, cells := 0, slots := 0, locals := 21 }
noncomputable def f_X13_takeSign_0 (fu : Nat)  (v : GV) (x1 : Int32) : Option (GV) :=
  bd (f_X13_isSign fu v x1) fun r1 =>
  if r1 = 0 then
    (bd (f_X13_wrong fu v (1 : Int32)) fun v4 =>
    some v4)
  else
    (nm (sI v 7 ((gI v 7) + (1 : Int32))) fun v5 =>
    some v5)
set_option maxHeartbeats 4000000 in
set_option maxRecDepth 100000 in
theorem t_X13_takeSign_0 {G : GG} {p : Program} {l : Launch} {e : Env} {s : State} {m : MethodId} {args : Array Value} {below : List Frame} {meth : Method} {c : Code} {S : ST} {fu : Nat} {z : GV} {a : Nat} {v0 : GV}  {v : GV} {x1 : Int32} (hM : MC G p s m args c cX13_takeSign w_X13_takeSign RX13) (hml : c.maxLocals = 2) (hr : meth.sig.returnType = none) (hlk : meth.locks = false) (hc0 : gC v0 = 12)  (hf : f_X13_takeSign_0 fu  v x1 = some z) : gC v = 12 → ∀ (H : Heap) (locs : List Loc), WB G (st S a v) s H locs → ∀ (ls : Array Slot), lv_has ls 2 [(0, .ref a), (1, .int x1)] → W p l e RM_X13_takeSign s m args below meth c H locs 0 0 (QR G below args s none (st S a v0) (st S a z)) (F0 m 0 ls []) := by
  intro hc H locs hW ls hl
  have hx := hM.1
  have hb := hM.2.1
  refine lv_aload_n hx hb dX13_takeSign_0 rfl (lv_at hl 0 rfl) ?_
  refine lv_iload_n hx hb dX13_takeSign_1 rfl (lv_at hl 1 rfl) ?_
  obtain ⟨r1, hr1, hf⟩ := bd_elim hf
  refine b_callVi [.int x1] [] hM hml hl.1 hW hc rfl (by decide) (c_X13_isSign l G fu _ a v _ hc hr1) (cwV 1 hM.2.2.2.1 (gV mk_RX13_195 im_X13_isSign se_X13_isSign it_RX13 cd_X13_isSign) rfl rfl rfl (by decide +kernel) ⟨Nat.le_of_ble_eq_true rfl, Nat.le_of_ble_eq_true rfl⟩) rfl rfl (Nat.le_of_ble_eq_true rfl) ⟨Nat.zero_le _, Nat.zero_le _⟩ dX13_takeSign_2 (fun H locs hW hk => ?_)
  refine lv_if_eq (tgt := 21) hx hb dX13_takeSign_5 (by decide) (fun c2 => ?_) (fun c2 => ?_)
  · have hf := if_t c2 hf
    refine lv_aload_n hx hb dX13_takeSign_21 rfl (lv_at hl 0 rfl) ?_
    refine lv_iconst (v := (1 : Int32)) hx hb dX13_takeSign_22 (by decide) ?_
    obtain ⟨v4, hr3, hf⟩ := bd_elim hf
    refine b_callVv [.int (1 : Int32)] [] hM hml hl.1 hW hc rfl (by decide) (c_X13_wrong l G fu _ a v _ hc hr3) (cwV 1 hM.2.2.2.1 (gV mk_RX13_198 im_X13_wrong se_X13_wrong it_RX13 cd_X13_wrong) rfl rfl rfl (by decide +kernel) ⟨Nat.le_of_ble_eq_true rfl, Nat.le_of_ble_eq_true rfl⟩) rfl rfl (Nat.le_of_ble_eq_true rfl) ⟨Nat.zero_le _, Nat.zero_le _⟩ dX13_takeSign_23 (fun H locs hW hk => ?_)
    have hc := keep_at hc hk
    cases hf
    exact W.vret hx hb hr (b_ret0 hW (keep_s2 hc0 hc) _) hW.2.2.2 dX13_takeSign_26 hlk
  · have hf := if_f c2 hf
    refine lv_aload_n hx hb dX13_takeSign_8 rfl (lv_at hl 0 rfl) ?_
    refine lv_dup hx hb dX13_takeSign_9 rfl ?_
    refine b_get hM hW 11 7 hc rfl rfl (by decide) wi_X13 (wgm fk_RX13_189) (x := .int (gI v 7)) rfl dX13_takeSign_10 ?_
    refine lv_iconst (v := (1 : Int32)) hx hb dX13_takeSign_13 (by decide) ?_
    refine lv_iadd hx hb dX13_takeSign_14 ?_
    refine b_putI hM hW 11 7 hc rfl rfl (by decide) wi_X13 tyX13 tyX13_ok nmX13 (wgm fk_RX13_189) rfl rfl rfl dX13_takeSign_15 (fun v5 ev5 hc H locs hW => ?_)
    have hf := nm_at ev5 hf
    refine lv_goto (tgt := 26) hx hb dX13_takeSign_18 (by decide) ?_
    cases hf
    exact W.vret hx hb hr (b_ret0 hW (keep_s2 hc0 hc) _) hW.2.2.2 dX13_takeSign_26 hlk
noncomputable def f_X13_takeSign (fu : Nat) (v : GV) (x1 : Int32) : Option (GV) := f_X13_takeSign_0 fu v x1
set_option maxHeartbeats 4000000 in
set_option maxRecDepth 100000 in
theorem c_X13_takeSign (l : Launch) (G : GG) (fu : Nat) (S : ST) (a : Nat) (v : GV) (x1 : Int32) {z : GV} (hc : gC v = 12) (hf : f_X13_takeSign fu v x1 = some z) : Ct l yX13_takeSign w_X13_takeSign RM_X13_takeSign G (st S a v) [.ref a, .int x1] none (st S a z) 0 0 := by
  refine Met.ofW (cc := cX13_takeSign) (maxL := 2) (ret := none) (by decide) rfl ?_
  intro p e s m args below meth c s₁ B hml hv
  obtain ⟨rfl, hB, hK, hz⟩ := hv
  have hM : MC G p s m _ c cX13_takeSign w_X13_takeSign RX13 := ⟨B.exec, B.bytes, findClass_of_methodNamed B.named, atoms_spec (ws := w_X13_takeSign) B.pre, hK, hz⟩
  have hW : WB G (st S a v) s s.heap [] := ⟨hB, va_S.rf⟩
  have hl := lv_entry ([.ref a, .int x1]) (n := 2) (Nat.le_of_ble_eq_true rfl)
  rw [lg_entry_eq]
  generalize (lg_sl ([.ref a, .int x1]) ++ List.replicate (2 - (lg_sl ([.ref a, .int x1])).length) Slot.unset).toArray = ls at hl ⊢
  have hl : lv_has ls 2 [(0, .ref a), (1, .int x1)] := hl
  exact t_X13_takeSign_0 hM hml B.returns B.notSynchronized hc hf hc _ _ hW _ (lv_sub hl [0, 1] rfl)
abbrev w_X13_hasSign : List Cond := Cond.code yX13_hasSign cX13_hasSign 3 (some .boolean) :: wsL_law0
abbrev RM_X13_hasSign : Room := { frames := 1, cells := 0, slots := 0, locals := 21 }
noncomputable def f_X13_hasSign_20 (fu : Nat)  (v : GV) (x2 : Int32) (t1 : Int32) (t2 : Int32) : Option (Int32 × GV) :=
  nm (sI v 7 (t1 + t2)) fun v1 =>
  ck (isB x2) <|
  some (x2, v1)
set_option maxHeartbeats 4000000 in
set_option maxRecDepth 100000 in
theorem t_X13_hasSign_20 {G : GG} {p : Program} {l : Launch} {e : Env} {s : State} {m : MethodId} {args : Array Value} {below : List Frame} {meth : Method} {c : Code} {S : ST} {fu : Nat} {z : Int32 × GV} {a : Nat} {v0 : GV}  {v : GV} {x2 : Int32} {t1 : Int32} {t2 : Int32} (hM : MC G p s m args c cX13_hasSign w_X13_hasSign RX13) (hml : c.maxLocals = 3) (hr : meth.sig.returnType = (some .boolean)) (hlk : meth.locks = false) (hc0 : gC v0 = 12)  (hf : f_X13_hasSign_20 fu  v x2 t1 t2 = some z) : gC v = 12 → ∀ (H : Heap) (locs : List Loc), WB G (st S a v) s H locs → ∀ (ls : Array Slot), lv_has ls 3 [(2, .int x2)] → W p l e RM_X13_hasSign s m args below meth c H locs 0 0 (QR G below args s (some (.int z.1)) (st S a v0) (st S a z.2)) (F0 m 20 ls [.int t2, .int t1, .ref a]) := by
  intro hc H locs hW ls hl
  have hx := hM.1
  have hb := hM.2.1
  refine lv_iadd hx hb dX13_hasSign_20 ?_
  refine b_putI hM hW 11 7 hc rfl rfl (by decide) wi_X13 tyX13 tyX13_ok nmX13 (wgm fk_RX13_189) rfl rfl rfl dX13_hasSign_21 (fun v1 ev1 hc H locs hW => ?_)
  have hf := nm_at ev1 hf
  refine lv_iload_n hx hb dX13_hasSign_24 rfl (lv_at hl 0 rfl) ?_
  obtain ⟨h2, hf⟩ := ck_elim hf
  cases hf
  exact W.zret (v := _) hx hb hr (isB_nar h2) (b_ret0 hW (keep_s2 hc0 hc) _) hW.2.2.2 dX13_hasSign_25 hlk
noncomputable def f_X13_hasSign_0 (fu : Nat)  (v : GV) (x1 : Int32) : Option (Int32 × GV) :=
  bd (f_X13_isSign fu v x1) fun r1 =>
  if r1 = 0 then
    (f_X13_hasSign_20 fu v r1 (gI v 7) (0 : Int32))
  else
    (f_X13_hasSign_20 fu v r1 (gI v 7) (1 : Int32))
set_option maxHeartbeats 4000000 in
set_option maxRecDepth 100000 in
theorem t_X13_hasSign_0 {G : GG} {p : Program} {l : Launch} {e : Env} {s : State} {m : MethodId} {args : Array Value} {below : List Frame} {meth : Method} {c : Code} {S : ST} {fu : Nat} {z : Int32 × GV} {a : Nat} {v0 : GV}  {v : GV} {x1 : Int32} (hM : MC G p s m args c cX13_hasSign w_X13_hasSign RX13) (hml : c.maxLocals = 3) (hr : meth.sig.returnType = (some .boolean)) (hlk : meth.locks = false) (hc0 : gC v0 = 12)  (hf : f_X13_hasSign_0 fu  v x1 = some z) : gC v = 12 → ∀ (H : Heap) (locs : List Loc), WB G (st S a v) s H locs → ∀ (ls : Array Slot), lv_has ls 3 [(0, .ref a), (1, .int x1)] → W p l e RM_X13_hasSign s m args below meth c H locs 0 0 (QR G below args s (some (.int z.1)) (st S a v0) (st S a z.2)) (F0 m 0 ls []) := by
  intro hc H locs hW ls hl
  have hx := hM.1
  have hb := hM.2.1
  refine lv_aload_n hx hb dX13_hasSign_0 rfl (lv_at hl 0 rfl) ?_
  refine lv_iload_n hx hb dX13_hasSign_1 rfl (lv_at hl 1 rfl) ?_
  obtain ⟨r1, hr1, hf⟩ := bd_elim hf
  refine b_callVi [.int x1] [] hM hml hl.1 hW hc rfl (by decide) (c_X13_isSign l G fu _ a v _ hc hr1) (cwV 1 hM.2.2.2.1 (gV mk_RX13_195 im_X13_isSign se_X13_isSign it_RX13 cd_X13_isSign) rfl rfl rfl (by decide +kernel) ⟨Nat.le_of_ble_eq_true rfl, Nat.le_of_ble_eq_true rfl⟩) rfl rfl (Nat.le_of_ble_eq_true rfl) ⟨Nat.zero_le _, Nat.zero_le _⟩ dX13_hasSign_2 (fun H locs hW hk => ?_)
  refine lv_istore_n (lv' := [(2, .int r1), (0, .ref a), (1, .int x1)]) hx hb dX13_hasSign_5 rfl hl (by decide) rfl (fun ls hl => ?_)
  refine lv_aload_n hx hb dX13_hasSign_6 rfl (lv_at hl 1 rfl) ?_
  refine lv_dup hx hb dX13_hasSign_7 rfl ?_
  refine b_get hM hW 11 7 hc rfl rfl (by decide) wi_X13 (wgm fk_RX13_189) (x := .int (gI v 7)) rfl dX13_hasSign_8 ?_
  refine lv_iload_n hx hb dX13_hasSign_11 rfl (lv_at hl 0 rfl) ?_
  refine lv_if_eq (tgt := 19) hx hb dX13_hasSign_12 (by decide) (fun c2 => ?_) (fun c2 => ?_)
  · have hf := if_t c2 hf
    refine lv_iconst (v := (0 : Int32)) hx hb dX13_hasSign_19 (by decide) ?_
    exact t_X13_hasSign_20 (fu := fu) hM hml hr hlk hc0 hf hc _ _ hW _ (lv_sub hl [0] rfl)
  · have hf := if_f c2 hf
    refine lv_iconst (v := (1 : Int32)) hx hb dX13_hasSign_15 (by decide) ?_
    refine lv_goto (tgt := 20) hx hb dX13_hasSign_16 (by decide) ?_
    exact t_X13_hasSign_20 (fu := fu) hM hml hr hlk hc0 hf hc _ _ hW _ (lv_sub hl [0] rfl)
noncomputable def f_X13_hasSign (fu : Nat) (v : GV) (x1 : Int32) : Option (Int32 × GV) := f_X13_hasSign_0 fu v x1
set_option maxHeartbeats 4000000 in
set_option maxRecDepth 100000 in
theorem c_X13_hasSign (l : Launch) (G : GG) (fu : Nat) (S : ST) (a : Nat) (v : GV) (x1 : Int32) {z : Int32} {w : GV} (hc : gC v = 12) (hf : f_X13_hasSign fu v x1 = some (z, w)) : Ct l yX13_hasSign w_X13_hasSign RM_X13_hasSign G (st S a v) [.ref a, .int x1] (some (.int z)) (st S a w) 0 0 := by
  refine Met.ofW (cc := cX13_hasSign) (maxL := 3) (ret := (some .boolean)) (by decide) rfl ?_
  intro p e s m args below meth c s₁ B hml hv
  obtain ⟨rfl, hB, hK, hz⟩ := hv
  have hM : MC G p s m _ c cX13_hasSign w_X13_hasSign RX13 := ⟨B.exec, B.bytes, findClass_of_methodNamed B.named, atoms_spec (ws := w_X13_hasSign) B.pre, hK, hz⟩
  have hW : WB G (st S a v) s s.heap [] := ⟨hB, va_S.rf⟩
  have hl := lv_entry ([.ref a, .int x1]) (n := 3) (Nat.le_of_ble_eq_true rfl)
  rw [lg_entry_eq]
  generalize (lg_sl ([.ref a, .int x1]) ++ List.replicate (3 - (lg_sl ([.ref a, .int x1])).length) Slot.unset).toArray = ls at hl ⊢
  have hl : lv_has ls 3 [(0, .ref a), (1, .int x1)] := hl
  exact t_X13_hasSign_0 hM hml B.returns B.notSynchronized hc hf hc _ _ hW _ (lv_sub hl [0, 1] rfl)
abbrev w_X13_hasWord : List Cond := Cond.code yX13_hasWord cX13_hasWord 3 (some .boolean) :: wsL_law0
abbrev RM_X13_hasWord : Room := { frames := 1, cells := 0, slots := 0, locals := 21 }
noncomputable def f_X13_hasWord_20 (fu : Nat)  (v : GV) (x2 : Int32) (t1 : Int32) (t2 : Int32) : Option (Int32 × GV) :=
  nm (sI v 7 (t1 + t2)) fun v1 =>
  ck (isB x2) <|
  some (x2, v1)
set_option maxHeartbeats 4000000 in
set_option maxRecDepth 100000 in
theorem t_X13_hasWord_20 {G : GG} {p : Program} {l : Launch} {e : Env} {s : State} {m : MethodId} {args : Array Value} {below : List Frame} {meth : Method} {c : Code} {S : ST} {fu : Nat} {z : Int32 × GV} {a : Nat} {v0 : GV}  {v : GV} {x2 : Int32} {t1 : Int32} {t2 : Int32} (hM : MC G p s m args c cX13_hasWord w_X13_hasWord RX13) (hml : c.maxLocals = 3) (hr : meth.sig.returnType = (some .boolean)) (hlk : meth.locks = false) (hc0 : gC v0 = 12)  (hf : f_X13_hasWord_20 fu  v x2 t1 t2 = some z) : gC v = 12 → ∀ (H : Heap) (locs : List Loc), WB G (st S a v) s H locs → ∀ (ls : Array Slot), lv_has ls 3 [(2, .int x2)] → W p l e RM_X13_hasWord s m args below meth c H locs 0 0 (QR G below args s (some (.int z.1)) (st S a v0) (st S a z.2)) (F0 m 20 ls [.int t2, .int t1, .ref a]) := by
  intro hc H locs hW ls hl
  have hx := hM.1
  have hb := hM.2.1
  refine lv_iadd hx hb dX13_hasWord_20 ?_
  refine b_putI hM hW 11 7 hc rfl rfl (by decide) wi_X13 tyX13 tyX13_ok nmX13 (wgm fk_RX13_189) rfl rfl rfl dX13_hasWord_21 (fun v1 ev1 hc H locs hW => ?_)
  have hf := nm_at ev1 hf
  refine lv_iload_n hx hb dX13_hasWord_24 rfl (lv_at hl 0 rfl) ?_
  obtain ⟨h2, hf⟩ := ck_elim hf
  cases hf
  exact W.zret (v := _) hx hb hr (isB_nar h2) (b_ret0 hW (keep_s2 hc0 hc) _) hW.2.2.2 dX13_hasWord_25 hlk
noncomputable def f_X13_hasWord_0 (fu : Nat)  (v : GV) (x1 : Int32) : Option (Int32 × GV) :=
  bd (f_X13_isWord fu v x1) fun r1 =>
  if r1 = 0 then
    (f_X13_hasWord_20 fu v r1 (gI v 7) (0 : Int32))
  else
    (f_X13_hasWord_20 fu v r1 (gI v 7) (1 : Int32))
set_option maxHeartbeats 4000000 in
set_option maxRecDepth 100000 in
theorem t_X13_hasWord_0 {G : GG} {p : Program} {l : Launch} {e : Env} {s : State} {m : MethodId} {args : Array Value} {below : List Frame} {meth : Method} {c : Code} {S : ST} {fu : Nat} {z : Int32 × GV} {a : Nat} {v0 : GV}  {v : GV} {x1 : Int32} (hM : MC G p s m args c cX13_hasWord w_X13_hasWord RX13) (hml : c.maxLocals = 3) (hr : meth.sig.returnType = (some .boolean)) (hlk : meth.locks = false) (hc0 : gC v0 = 12)  (hf : f_X13_hasWord_0 fu  v x1 = some z) : gC v = 12 → ∀ (H : Heap) (locs : List Loc), WB G (st S a v) s H locs → ∀ (ls : Array Slot), lv_has ls 3 [(0, .ref a), (1, .int x1)] → W p l e RM_X13_hasWord s m args below meth c H locs 0 0 (QR G below args s (some (.int z.1)) (st S a v0) (st S a z.2)) (F0 m 0 ls []) := by
  intro hc H locs hW ls hl
  have hx := hM.1
  have hb := hM.2.1
  refine lv_aload_n hx hb dX13_hasWord_0 rfl (lv_at hl 0 rfl) ?_
  refine lv_iload_n hx hb dX13_hasWord_1 rfl (lv_at hl 1 rfl) ?_
  obtain ⟨r1, hr1, hf⟩ := bd_elim hf
  refine b_callVi [.int x1] [] hM hml hl.1 hW hc rfl (by decide) (c_X13_isWord l G fu _ a v _ hc hr1) (cwV 1 hM.2.2.2.1 (gV mk_RX13_201 im_X13_isWord se_X13_isWord it_RX13 cd_X13_isWord) rfl rfl rfl (by decide +kernel) ⟨Nat.le_of_ble_eq_true rfl, Nat.le_of_ble_eq_true rfl⟩) rfl rfl (Nat.le_of_ble_eq_true rfl) ⟨Nat.zero_le _, Nat.zero_le _⟩ dX13_hasWord_2 (fun H locs hW hk => ?_)
  refine lv_istore_n (lv' := [(2, .int r1), (0, .ref a), (1, .int x1)]) hx hb dX13_hasWord_5 rfl hl (by decide) rfl (fun ls hl => ?_)
  refine lv_aload_n hx hb dX13_hasWord_6 rfl (lv_at hl 1 rfl) ?_
  refine lv_dup hx hb dX13_hasWord_7 rfl ?_
  refine b_get hM hW 11 7 hc rfl rfl (by decide) wi_X13 (wgm fk_RX13_189) (x := .int (gI v 7)) rfl dX13_hasWord_8 ?_
  refine lv_iload_n hx hb dX13_hasWord_11 rfl (lv_at hl 0 rfl) ?_
  refine lv_if_eq (tgt := 19) hx hb dX13_hasWord_12 (by decide) (fun c2 => ?_) (fun c2 => ?_)
  · have hf := if_t c2 hf
    refine lv_iconst (v := (0 : Int32)) hx hb dX13_hasWord_19 (by decide) ?_
    exact t_X13_hasWord_20 (fu := fu) hM hml hr hlk hc0 hf hc _ _ hW _ (lv_sub hl [0] rfl)
  · have hf := if_f c2 hf
    refine lv_iconst (v := (1 : Int32)) hx hb dX13_hasWord_15 (by decide) ?_
    refine lv_goto (tgt := 20) hx hb dX13_hasWord_16 (by decide) ?_
    exact t_X13_hasWord_20 (fu := fu) hM hml hr hlk hc0 hf hc _ _ hW _ (lv_sub hl [0] rfl)
noncomputable def f_X13_hasWord (fu : Nat) (v : GV) (x1 : Int32) : Option (Int32 × GV) := f_X13_hasWord_0 fu v x1
set_option maxHeartbeats 4000000 in
set_option maxRecDepth 100000 in
theorem c_X13_hasWord (l : Launch) (G : GG) (fu : Nat) (S : ST) (a : Nat) (v : GV) (x1 : Int32) {z : Int32} {w : GV} (hc : gC v = 12) (hf : f_X13_hasWord fu v x1 = some (z, w)) : Ct l yX13_hasWord w_X13_hasWord RM_X13_hasWord G (st S a v) [.ref a, .int x1] (some (.int z)) (st S a w) 0 0 := by
  refine Met.ofW (cc := cX13_hasWord) (maxL := 3) (ret := (some .boolean)) (by decide) rfl ?_
  intro p e s m args below meth c s₁ B hml hv
  obtain ⟨rfl, hB, hK, hz⟩ := hv
  have hM : MC G p s m _ c cX13_hasWord w_X13_hasWord RX13 := ⟨B.exec, B.bytes, findClass_of_methodNamed B.named, atoms_spec (ws := w_X13_hasWord) B.pre, hK, hz⟩
  have hW : WB G (st S a v) s s.heap [] := ⟨hB, va_S.rf⟩
  have hl := lv_entry ([.ref a, .int x1]) (n := 3) (Nat.le_of_ble_eq_true rfl)
  rw [lg_entry_eq]
  generalize (lg_sl ([.ref a, .int x1]) ++ List.replicate (3 - (lg_sl ([.ref a, .int x1])).length) Slot.unset).toArray = ls at hl ⊢
  have hl : lv_has ls 3 [(0, .ref a), (1, .int x1)] := hl
  exact t_X13_hasWord_0 hM hml B.returns B.notSynchronized hc hf hc _ _ hW _ (lv_sub hl [0, 1] rfl)
