abbrev w_X13_ask : List Cond := Cond.code yX13_ask cX13_ask 7 (some .int) :: wsL_law0
abbrev RM_X13_ask : Room := { frames := 1, cells := 0, slots := 0, locals := 24 }
noncomputable def f_X13_ask_137 (fu : Nat) (k20 : Int32 → Int32 → Int32 → GV → Option (Int32 × GV)) (v : GV) (x1 : Int32) (x2 : Int32) (x4 : Int32) (t0 : Int32) : Option (Int32 × GV) :=
  nm (x4 + (1 : Int32)) fun y1 =>
  k20 x2 t0 y1 v
set_option maxHeartbeats 4000000 in
set_option maxRecDepth 100000 in
theorem t_X13_ask_137 {G : GG} {p : Program} {l : Launch} {e : Env} {s : State} {m : MethodId} {args : Array Value} {below : List Frame} {meth : Method} {c : Code} {S : ST} {fu : Nat} {z : Int32 × GV} {a : Nat} {v0 : GV} {k20 : Int32 → Int32 → Int32 → GV → Option (Int32 × GV)} {v : GV} {x1 : Int32} {x2 : Int32} {x4 : Int32} {t0 : Int32} (hM : MC G p s m args c cX13_ask w_X13_ask RX13) (hml : c.maxLocals = 7) (hr : meth.sig.returnType = (some .int)) (hlk : meth.locks = false) (hc0 : gC v0 = 12) (hk20 : ∀ (x2 : Int32) (x3 : Int32) (x4 : Int32) (v : GV), k20 x2 x3 x4 v = some z → gC v = 12 → ∀ (H : Heap) (locs : List Loc), WB G (st S a v) s H locs → ∀ (ls : Array Slot), lv_has ls 7 [(0, .ref a), (1, .int x1), (2, .int x2), (3, .int x3), (4, .int x4)] → W p l e RM_X13_ask s m args below meth c H locs 0 0 (QR G below args s (some (.int z.1)) (st S a v0) (st S a z.2)) (F0 m 20 ls [])) (hf : f_X13_ask_137 fu k20 v x1 x2 x4 t0 = some z) : gC v = 12 → ∀ (H : Heap) (locs : List Loc), WB G (st S a v) s H locs → ∀ (ls : Array Slot), lv_has ls 7 [(0, .ref a), (1, .int x1), (2, .int x2), (4, .int x4)] → W p l e RM_X13_ask s m args below meth c H locs 0 0 (QR G below args s (some (.int z.1)) (st S a v0) (st S a z.2)) (F0 m 137 ls [.int t0]) := by
  intro hc H locs hW ls hl
  have hx := hM.1
  have hb := hM.2.1
  refine lv_istore_n (lv' := [(3, .int t0), (0, .ref a), (1, .int x1), (2, .int x2), (4, .int x4)]) hx hb dX13_ask_137 rfl hl (by decide) rfl (fun ls hl => ?_)
  obtain ⟨y1, ey1⟩ : ∃ y : Int32, y = x4 + (1 : Int32) := ⟨_, rfl⟩
  have hf := nm_at ey1 hf
  refine lv_iinc (v := y1) (lv' := [(4, .int y1), (3, .int t0), (0, .ref a), (1, .int x1), (2, .int x2)]) hx hb dX13_ask_138 hl (k := 4) rfl (by rw [ey1]; rfl) (by decide) rfl (fun ls hl => ?_)
  refine lv_goto (tgt := 20) hx hb dX13_ask_141 (by decide) ?_
  exact hk20 _ _ _ _ hf hc _ _ hW _ (lv_sub hl [2, 3, 4, 1, 0] rfl)
noncomputable def f_X13_ask_124 (fu : Nat) (k20 : Int32 → Int32 → Int32 → GV → Option (Int32 × GV)) (v : GV) (x1 : Int32) (x3 : Int32) (x4 : Int32) (x6 : Int32) (t0 : Int32) : Option (Int32 × GV) :=
  if x3 ≤ x6 then
    (f_X13_ask_137 fu k20 v x1 t0 x4 x3)
  else
    (f_X13_ask_137 fu k20 v x1 t0 x4 x6)
set_option maxHeartbeats 4000000 in
set_option maxRecDepth 100000 in
theorem t_X13_ask_124 {G : GG} {p : Program} {l : Launch} {e : Env} {s : State} {m : MethodId} {args : Array Value} {below : List Frame} {meth : Method} {c : Code} {S : ST} {fu : Nat} {z : Int32 × GV} {a : Nat} {v0 : GV} {k20 : Int32 → Int32 → Int32 → GV → Option (Int32 × GV)} {v : GV} {x1 : Int32} {x3 : Int32} {x4 : Int32} {x6 : Int32} {t0 : Int32} (hM : MC G p s m args c cX13_ask w_X13_ask RX13) (hml : c.maxLocals = 7) (hr : meth.sig.returnType = (some .int)) (hlk : meth.locks = false) (hc0 : gC v0 = 12) (hk20 : ∀ (x2 : Int32) (x3 : Int32) (x4 : Int32) (v : GV), k20 x2 x3 x4 v = some z → gC v = 12 → ∀ (H : Heap) (locs : List Loc), WB G (st S a v) s H locs → ∀ (ls : Array Slot), lv_has ls 7 [(0, .ref a), (1, .int x1), (2, .int x2), (3, .int x3), (4, .int x4)] → W p l e RM_X13_ask s m args below meth c H locs 0 0 (QR G below args s (some (.int z.1)) (st S a v0) (st S a z.2)) (F0 m 20 ls [])) (hf : f_X13_ask_124 fu k20 v x1 x3 x4 x6 t0 = some z) : gC v = 12 → ∀ (H : Heap) (locs : List Loc), WB G (st S a v) s H locs → ∀ (ls : Array Slot), lv_has ls 7 [(0, .ref a), (1, .int x1), (3, .int x3), (4, .int x4), (6, .int x6)] → W p l e RM_X13_ask s m args below meth c H locs 0 0 (QR G below args s (some (.int z.1)) (st S a v0) (st S a z.2)) (F0 m 124 ls [.int t0]) := by
  intro hc H locs hW ls hl
  have hx := hM.1
  have hb := hM.2.1
  refine lv_istore_n (lv' := [(2, .int t0), (0, .ref a), (1, .int x1), (3, .int x3), (4, .int x4), (6, .int x6)]) hx hb dX13_ask_124 rfl hl (by decide) rfl (fun ls hl => ?_)
  refine lv_iload hx hb dX13_ask_125 (lv_at hl 5 rfl) ?_
  refine lv_iload_n hx hb dX13_ask_127 rfl (lv_at hl 3 rfl) ?_
  refine lv_icmp_ge (tgt := 136) hx hb dX13_ask_128 (by decide) (fun c1 => ?_) (fun c1 => ?_)
  · have hf := if_t c1 hf
    refine lv_iload_n hx hb dX13_ask_136 rfl (lv_at hl 3 rfl) ?_
    exact t_X13_ask_137 (fu := fu) hM hml hr hlk hc0 hk20 hf hc _ _ hW _ (lv_sub hl [1, 2, 0, 4] rfl)
  · have hf := if_f c1 hf
    refine lv_iload hx hb dX13_ask_131 (lv_at hl 5 rfl) ?_
    refine lv_goto (tgt := 137) hx hb dX13_ask_133 (by decide) ?_
    exact t_X13_ask_137 (fu := fu) hM hml hr hlk hc0 hk20 hf hc _ _ hW _ (lv_sub hl [1, 2, 0, 4] rfl)
noncomputable def f_X13_ask_110 (fu : Nat) (k20 : Int32 → Int32 → Int32 → GV → Option (Int32 × GV)) (v : GV) (x1 : Int32) (x2 : Int32) (x3 : Int32) (x4 : Int32) (t0 : Int32) : Option (Int32 × GV) :=
  if x3 ≤ t0 then
    (f_X13_ask_124 fu k20 v x1 x3 x4 t0 x2)
  else
    (f_X13_ask_124 fu k20 v x1 x3 x4 t0 x4)
set_option maxHeartbeats 4000000 in
set_option maxRecDepth 100000 in
theorem t_X13_ask_110 {G : GG} {p : Program} {l : Launch} {e : Env} {s : State} {m : MethodId} {args : Array Value} {below : List Frame} {meth : Method} {c : Code} {S : ST} {fu : Nat} {z : Int32 × GV} {a : Nat} {v0 : GV} {k20 : Int32 → Int32 → Int32 → GV → Option (Int32 × GV)} {v : GV} {x1 : Int32} {x2 : Int32} {x3 : Int32} {x4 : Int32} {t0 : Int32} (hM : MC G p s m args c cX13_ask w_X13_ask RX13) (hml : c.maxLocals = 7) (hr : meth.sig.returnType = (some .int)) (hlk : meth.locks = false) (hc0 : gC v0 = 12) (hk20 : ∀ (x2 : Int32) (x3 : Int32) (x4 : Int32) (v : GV), k20 x2 x3 x4 v = some z → gC v = 12 → ∀ (H : Heap) (locs : List Loc), WB G (st S a v) s H locs → ∀ (ls : Array Slot), lv_has ls 7 [(0, .ref a), (1, .int x1), (2, .int x2), (3, .int x3), (4, .int x4)] → W p l e RM_X13_ask s m args below meth c H locs 0 0 (QR G below args s (some (.int z.1)) (st S a v0) (st S a z.2)) (F0 m 20 ls [])) (hf : f_X13_ask_110 fu k20 v x1 x2 x3 x4 t0 = some z) : gC v = 12 → ∀ (H : Heap) (locs : List Loc), WB G (st S a v) s H locs → ∀ (ls : Array Slot), lv_has ls 7 [(0, .ref a), (1, .int x1), (2, .int x2), (3, .int x3), (4, .int x4)] → W p l e RM_X13_ask s m args below meth c H locs 0 0 (QR G below args s (some (.int z.1)) (st S a v0) (st S a z.2)) (F0 m 110 ls [.int t0]) := by
  intro hc H locs hW ls hl
  have hx := hM.1
  have hb := hM.2.1
  refine lv_istore (lv' := [(6, .int t0), (0, .ref a), (1, .int x1), (2, .int x2), (3, .int x3), (4, .int x4)]) hx hb dX13_ask_110 hl (by decide) rfl (fun ls hl => ?_)
  refine lv_iload hx hb dX13_ask_112 (lv_at hl 0 rfl) ?_
  refine lv_iload_n hx hb dX13_ask_114 rfl (lv_at hl 4 rfl) ?_
  refine lv_icmp_ge (tgt := 123) hx hb dX13_ask_115 (by decide) (fun c1 => ?_) (fun c1 => ?_)
  · have hf := if_t c1 hf
    refine lv_iload_n hx hb dX13_ask_123 rfl (lv_at hl 3 rfl) ?_
    exact t_X13_ask_124 (fu := fu) hM hml hr hlk hc0 hk20 hf hc _ _ hW _ (lv_sub hl [1, 2, 4, 5, 0] rfl)
  · have hf := if_f c1 hf
    refine lv_iload hx hb dX13_ask_118 (lv_at hl 5 rfl) ?_
    refine lv_goto (tgt := 124) hx hb dX13_ask_120 (by decide) ?_
    exact t_X13_ask_124 (fu := fu) hM hml hr hlk hc0 hk20 hf hc _ _ hW _ (lv_sub hl [1, 2, 4, 5, 0] rfl)
noncomputable def f_X13_ask_77 (fu : Nat) (k20 : Int32 → Int32 → Int32 → GV → Option (Int32 × GV)) (k35 : Int32 → Int32 → GV → Option (Int32 × GV)) (v : GV) (x1 : Int32) (x2 : Int32) (x3 : Int32) (x4 : Int32) (x6 : Int32) (t0 : Int32) (t1 : Int32) : Option (Int32 × GV) :=
  nm ((t0 + t1)) fun y1 =>
  nm (x6 + (1 : Int32)) fun y2 =>
  k35 y1 y2 v
set_option maxHeartbeats 4000000 in
set_option maxRecDepth 100000 in
theorem t_X13_ask_77 {G : GG} {p : Program} {l : Launch} {e : Env} {s : State} {m : MethodId} {args : Array Value} {below : List Frame} {meth : Method} {c : Code} {S : ST} {fu : Nat} {z : Int32 × GV} {a : Nat} {v0 : GV} {k20 : Int32 → Int32 → Int32 → GV → Option (Int32 × GV)} {k35 : Int32 → Int32 → GV → Option (Int32 × GV)} {v : GV} {x1 : Int32} {x2 : Int32} {x3 : Int32} {x4 : Int32} {x6 : Int32} {t0 : Int32} {t1 : Int32} (hM : MC G p s m args c cX13_ask w_X13_ask RX13) (hml : c.maxLocals = 7) (hr : meth.sig.returnType = (some .int)) (hlk : meth.locks = false) (hc0 : gC v0 = 12) (hk20 : ∀ (x2 : Int32) (x3 : Int32) (x4 : Int32) (v : GV), k20 x2 x3 x4 v = some z → gC v = 12 → ∀ (H : Heap) (locs : List Loc), WB G (st S a v) s H locs → ∀ (ls : Array Slot), lv_has ls 7 [(0, .ref a), (1, .int x1), (2, .int x2), (3, .int x3), (4, .int x4)] → W p l e RM_X13_ask s m args below meth c H locs 0 0 (QR G below args s (some (.int z.1)) (st S a v0) (st S a z.2)) (F0 m 20 ls [])) (hk35 : ∀ (x5 : Int32) (x6 : Int32) (v : GV), k35 x5 x6 v = some z → gC v = 12 → ∀ (H : Heap) (locs : List Loc), WB G (st S a v) s H locs → ∀ (ls : Array Slot), lv_has ls 7 [(0, .ref a), (1, .int x1), (2, .int x2), (3, .int x3), (4, .int x4), (5, .int x5), (6, .int x6)] → W p l e RM_X13_ask s m args below meth c H locs 0 0 (QR G below args s (some (.int z.1)) (st S a v0) (st S a z.2)) (F0 m 35 ls [])) (hf : f_X13_ask_77 fu k20 k35 v x1 x2 x3 x4 x6 t0 t1 = some z) : gC v = 12 → ∀ (H : Heap) (locs : List Loc), WB G (st S a v) s H locs → ∀ (ls : Array Slot), lv_has ls 7 [(0, .ref a), (1, .int x1), (2, .int x2), (3, .int x3), (4, .int x4), (6, .int x6)] → W p l e RM_X13_ask s m args below meth c H locs 0 0 (QR G below args s (some (.int z.1)) (st S a v0) (st S a z.2)) (F0 m 77 ls [.int t1, .int t0]) := by
  intro hc H locs hW ls hl
  have hx := hM.1
  have hb := hM.2.1
  refine lv_iadd hx hb dX13_ask_77 ?_
  refine lv_topi (fun y1 ey1 => ?_)
  have hf := nm_at ey1 hf
  refine lv_istore (lv' := [(5, .int y1), (0, .ref a), (1, .int x1), (2, .int x2), (3, .int x3), (4, .int x4), (6, .int x6)]) hx hb dX13_ask_78 hl (by decide) rfl (fun ls hl => ?_)
  obtain ⟨y2, ey2⟩ : ∃ y : Int32, y = x6 + (1 : Int32) := ⟨_, rfl⟩
  have hf := nm_at ey2 hf
  refine lv_iinc (v := y2) (lv' := [(6, .int y2), (5, .int y1), (0, .ref a), (1, .int x1), (2, .int x2), (3, .int x3), (4, .int x4)]) hx hb dX13_ask_80 hl (k := 6) rfl (by rw [ey2]; rfl) (by decide) rfl (fun ls hl => ?_)
  refine lv_goto (tgt := 35) hx hb dX13_ask_83 (by decide) ?_
  exact hk35 _ _ _ hf hc _ _ hW _ (lv_sub hl [2, 3, 4, 5, 6, 1, 0] rfl)
noncomputable def f_X13_ask_76 (fu : Nat) (k20 : Int32 → Int32 → Int32 → GV → Option (Int32 × GV)) (k35 : Int32 → Int32 → GV → Option (Int32 × GV)) (v : GV) (x1 : Int32) (x2 : Int32) (x3 : Int32) (x4 : Int32) (x6 : Int32) (t0 : Int32) : Option (Int32 × GV) :=
  f_X13_ask_77 fu k20 k35 v x1 x2 x3 x4 x6 t0 (0 : Int32)
set_option maxHeartbeats 4000000 in
set_option maxRecDepth 100000 in
theorem t_X13_ask_76 {G : GG} {p : Program} {l : Launch} {e : Env} {s : State} {m : MethodId} {args : Array Value} {below : List Frame} {meth : Method} {c : Code} {S : ST} {fu : Nat} {z : Int32 × GV} {a : Nat} {v0 : GV} {k20 : Int32 → Int32 → Int32 → GV → Option (Int32 × GV)} {k35 : Int32 → Int32 → GV → Option (Int32 × GV)} {v : GV} {x1 : Int32} {x2 : Int32} {x3 : Int32} {x4 : Int32} {x6 : Int32} {t0 : Int32} (hM : MC G p s m args c cX13_ask w_X13_ask RX13) (hml : c.maxLocals = 7) (hr : meth.sig.returnType = (some .int)) (hlk : meth.locks = false) (hc0 : gC v0 = 12) (hk20 : ∀ (x2 : Int32) (x3 : Int32) (x4 : Int32) (v : GV), k20 x2 x3 x4 v = some z → gC v = 12 → ∀ (H : Heap) (locs : List Loc), WB G (st S a v) s H locs → ∀ (ls : Array Slot), lv_has ls 7 [(0, .ref a), (1, .int x1), (2, .int x2), (3, .int x3), (4, .int x4)] → W p l e RM_X13_ask s m args below meth c H locs 0 0 (QR G below args s (some (.int z.1)) (st S a v0) (st S a z.2)) (F0 m 20 ls [])) (hk35 : ∀ (x5 : Int32) (x6 : Int32) (v : GV), k35 x5 x6 v = some z → gC v = 12 → ∀ (H : Heap) (locs : List Loc), WB G (st S a v) s H locs → ∀ (ls : Array Slot), lv_has ls 7 [(0, .ref a), (1, .int x1), (2, .int x2), (3, .int x3), (4, .int x4), (5, .int x5), (6, .int x6)] → W p l e RM_X13_ask s m args below meth c H locs 0 0 (QR G below args s (some (.int z.1)) (st S a v0) (st S a z.2)) (F0 m 35 ls [])) (hf : f_X13_ask_76 fu k20 k35 v x1 x2 x3 x4 x6 t0 = some z) : gC v = 12 → ∀ (H : Heap) (locs : List Loc), WB G (st S a v) s H locs → ∀ (ls : Array Slot), lv_has ls 7 [(0, .ref a), (1, .int x1), (2, .int x2), (3, .int x3), (4, .int x4), (6, .int x6)] → W p l e RM_X13_ask s m args below meth c H locs 0 0 (QR G below args s (some (.int z.1)) (st S a v0) (st S a z.2)) (F0 m 76 ls [.int t0]) := by
  intro hc H locs hW ls hl
  have hx := hM.1
  have hb := hM.2.1
  refine lv_iconst (v := (0 : Int32)) hx hb dX13_ask_76 (by decide) ?_
  exact t_X13_ask_77 (fu := fu) hM hml hr hlk hc0 hk20 hk35 hf hc _ _ hW _ (lv_sub hl [0, 1, 2, 3, 4, 5] rfl)
noncomputable def f_X13_ask_35s (fu : Nat) (k20 : Int32 → Int32 → Int32 → GV → Option (Int32 × GV)) (k35 : Int32 → Int32 → GV → Option (Int32 × GV)) (x1 : Int32) (x2 : Int32) (x3 : Int32) (x4 : Int32) (x5 : Int32) (x6 : Int32) (v : GV) : Option (Int32 × GV) :=
  if (8 : Int32) ≤ x6 then
    (bd (f_X13_bits fu x1) fun r2 =>
    if x5 ≤ (r2 - x5) then
      (bd (f_X13_bits fu x1) fun r4 =>
      f_X13_ask_110 fu k20 v x1 x2 x3 x4 (r4 - x5))
    else
      (f_X13_ask_110 fu k20 v x1 x2 x3 x4 x5))
  else
    (if ((x1 >>> (x6 &&& 31)) &&& (1 : Int32)) = (1 : Int32) then
      (nm (((3 : Int32) + x6)) fun y6 =>
      ck (inb y6 1518) <|
      if (((gA v 24 y6.toNatClampNeg) >>> (x4 &&& 31)) &&& (1 : Int32)) = (1 : Int32) then
        (f_X13_ask_77 fu k20 k35 v x1 x2 x3 x4 x6 x5 (1 : Int32))
      else
        (f_X13_ask_76 fu k20 k35 v x1 x2 x3 x4 x6 x5))
    else
      (f_X13_ask_76 fu k20 k35 v x1 x2 x3 x4 x6 x5))
noncomputable def f_X13_ask_35 (fu n : Nat) (k20 : Int32 → Int32 → Int32 → GV → Option (Int32 × GV)) (x1 : Int32) (x2 : Int32) (x3 : Int32) (x4 : Int32) : Int32 → Int32 → GV → Option (Int32 × GV) :=
  lq_3 (fun k35 => f_X13_ask_35s fu k20 k35 x1 x2 x3 x4) n
set_option maxHeartbeats 4000000 in
set_option maxRecDepth 100000 in
theorem t_X13_ask_35s {G : GG} {p : Program} {l : Launch} {e : Env} {s : State} {m : MethodId} {args : Array Value} {below : List Frame} {meth : Method} {c : Code} {S : ST} {fu : Nat} {z : Int32 × GV} {a : Nat} {v0 : GV} {k20 : Int32 → Int32 → Int32 → GV → Option (Int32 × GV)} (hM : MC G p s m args c cX13_ask w_X13_ask RX13) (hml : c.maxLocals = 7) (hr : meth.sig.returnType = (some .int)) (hlk : meth.locks = false) (hc0 : gC v0 = 12) {k35 : Int32 → Int32 → GV → Option (Int32 × GV)} {x1 : Int32} {x2 : Int32} {x3 : Int32} {x4 : Int32} (hk20 : ∀ (x2 : Int32) (x3 : Int32) (x4 : Int32) (v : GV), k20 x2 x3 x4 v = some z → gC v = 12 → ∀ (H : Heap) (locs : List Loc), WB G (st S a v) s H locs → ∀ (ls : Array Slot), lv_has ls 7 [(0, .ref a), (1, .int x1), (2, .int x2), (3, .int x3), (4, .int x4)] → W p l e RM_X13_ask s m args below meth c H locs 0 0 (QR G below args s (some (.int z.1)) (st S a v0) (st S a z.2)) (F0 m 20 ls [])) (hk35 : ∀ (x5 : Int32) (x6 : Int32) (v : GV), k35 x5 x6 v = some z → gC v = 12 → ∀ (H : Heap) (locs : List Loc), WB G (st S a v) s H locs → ∀ (ls : Array Slot), lv_has ls 7 [(0, .ref a), (1, .int x1), (2, .int x2), (3, .int x3), (4, .int x4), (5, .int x5), (6, .int x6)] → W p l e RM_X13_ask s m args below meth c H locs 0 0 (QR G below args s (some (.int z.1)) (st S a v0) (st S a z.2)) (F0 m 35 ls [])) : ∀ (x5 : Int32) (x6 : Int32) (v : GV), f_X13_ask_35s fu k20 k35 x1 x2 x3 x4 x5 x6 v = some z → gC v = 12 → ∀ (H : Heap) (locs : List Loc), WB G (st S a v) s H locs → ∀ (ls : Array Slot), lv_has ls 7 [(0, .ref a), (1, .int x1), (2, .int x2), (3, .int x3), (4, .int x4), (5, .int x5), (6, .int x6)] → W p l e RM_X13_ask s m args below meth c H locs 0 0 (QR G below args s (some (.int z.1)) (st S a v0) (st S a z.2)) (F0 m 35 ls []) := by
  intro x5 x6 v hf hc H locs hW ls hl
  have hx := hM.1
  have hb := hM.2.1
  refine lv_iload hx hb dX13_ask_35 (lv_at hl 6 rfl) ?_
  refine lv_bipush (v := (8 : Int32)) hx hb dX13_ask_37 (by decide) ?_
  refine lv_icmp_ge (tgt := 86) hx hb dX13_ask_39 (by decide) (fun c1 => ?_) (fun c1 => ?_)
  · have hf := if_t c1 hf
    refine lv_iload hx hb dX13_ask_86 (lv_at hl 5 rfl) ?_
    refine lv_iload_n hx hb dX13_ask_88 rfl (lv_at hl 1 rfl) ?_
    obtain ⟨r2, hr2, hf⟩ := bd_elim hf
    refine b_callSi [.int x1] [.int x5] hM hml hl.1 hW (c_X13_bits l G fu _ _ hr2) (va_cwS 1 hM.2.2.2.1 (gS mk_RX13_339 sm_X13_bits it_RX13 cd_X13_bits) rfl rfl rfl (by decide +kernel) ⟨Nat.le_of_ble_eq_true rfl, Nat.le_of_ble_eq_true rfl⟩) rfl rfl (Nat.le_of_ble_eq_true rfl) ⟨Nat.zero_le _, Nat.zero_le _⟩ dX13_ask_89 (fun H locs hW hk => ?_)
    refine lv_iload hx hb dX13_ask_92 (lv_at hl 5 rfl) ?_
    refine lv_isub hx hb dX13_ask_94 ?_
    refine lv_icmp_le (tgt := 103) hx hb dX13_ask_95 (by decide) (fun c3 => ?_) (fun c3 => ?_)
    · have hf := if_t c3 hf
      refine lv_iload_n hx hb dX13_ask_103 rfl (lv_at hl 1 rfl) ?_
      obtain ⟨r4, hr4, hf⟩ := bd_elim hf
      refine b_callSi [.int x1] [] hM hml hl.1 hW (c_X13_bits l G fu _ _ hr4) (va_cwS 1 hM.2.2.2.1 (gS mk_RX13_339 sm_X13_bits it_RX13 cd_X13_bits) rfl rfl rfl (by decide +kernel) ⟨Nat.le_of_ble_eq_true rfl, Nat.le_of_ble_eq_true rfl⟩) rfl rfl (Nat.le_of_ble_eq_true rfl) ⟨Nat.zero_le _, Nat.zero_le _⟩ dX13_ask_104 (fun H locs hW hk => ?_)
      refine lv_iload hx hb dX13_ask_107 (lv_at hl 5 rfl) ?_
      refine lv_isub hx hb dX13_ask_109 ?_
      exact t_X13_ask_110 (fu := fu) hM hml hr hlk hc0 hk20 hf hc _ _ hW _ (lv_sub hl [0, 1, 2, 3, 4] rfl)
    · have hf := if_f c3 hf
      refine lv_iload hx hb dX13_ask_98 (lv_at hl 5 rfl) ?_
      refine lv_goto (tgt := 110) hx hb dX13_ask_100 (by decide) ?_
      exact t_X13_ask_110 (fu := fu) hM hml hr hlk hc0 hk20 hf hc _ _ hW _ (lv_sub hl [0, 1, 2, 3, 4] rfl)
  · have hf := if_f c1 hf
    refine lv_iload hx hb dX13_ask_42 (lv_at hl 5 rfl) ?_
    refine lv_iload_n hx hb dX13_ask_44 rfl (lv_at hl 1 rfl) ?_
    refine lv_iload hx hb dX13_ask_45 (lv_at hl 6 rfl) ?_
    refine lv_ishr hx hb dX13_ask_47 ?_
    refine lv_iconst (v := (1 : Int32)) hx hb dX13_ask_48 (by decide) ?_
    refine lv_iand hx hb dX13_ask_49 ?_
    refine lv_iconst (v := (1 : Int32)) hx hb dX13_ask_50 (by decide) ?_
    refine lv_icmp_ne (tgt := 76) hx hb dX13_ask_51 (by decide) (fun c5 => ?_) (fun c5 => ?_)
    · have hf := if_f c5 hf
      exact t_X13_ask_76 (fu := fu) hM hml hr hlk hc0 hk20 hk35 hf hc _ _ hW _ (lv_sub hl [0, 1, 2, 3, 4, 6] rfl)
    · have hf := if_t c5 hf
      refine lv_aload_n hx hb dX13_ask_54 rfl (lv_at hl 0 rfl) ?_
      refine b_get hM hW 11 24 hc rfl rfl (by decide) wi_X13 (wgm fk_RX13_125) (x := .ref (a + 16)) rfl dX13_ask_55 ?_
      refine lv_iconst (v := (3 : Int32)) hx hb dX13_ask_58 (by decide) ?_
      refine lv_iload hx hb dX13_ask_59 (lv_at hl 6 rfl) ?_
      refine lv_iadd hx hb dX13_ask_61 ?_
      refine lv_topi (fun y6 ey6 => ?_)
      have hf := nm_at ey6 hf
      obtain ⟨h7, hf⟩ := ck_elim hf
      refine b_iald (n := 1518) hM hW 11 24 hc (by decide) rfl rfl rfl rfl h7 dX13_ask_62 ?_
      refine lv_iload hx hb dX13_ask_63 (lv_at hl 4 rfl) ?_
      refine lv_ishr hx hb dX13_ask_65 ?_
      refine lv_iconst (v := (1 : Int32)) hx hb dX13_ask_66 (by decide) ?_
      refine lv_iand hx hb dX13_ask_67 ?_
      refine lv_iconst (v := (1 : Int32)) hx hb dX13_ask_68 (by decide) ?_
      refine lv_icmp_ne (tgt := 76) hx hb dX13_ask_69 (by decide) (fun c8 => ?_) (fun c8 => ?_)
      · have hf := if_f c8 hf
        exact t_X13_ask_76 (fu := fu) hM hml hr hlk hc0 hk20 hk35 hf hc _ _ hW _ (lv_sub hl [0, 1, 2, 3, 4, 6] rfl)
      · have hf := if_t c8 hf
        refine lv_iconst (v := (1 : Int32)) hx hb dX13_ask_72 (by decide) ?_
        refine lv_goto (tgt := 77) hx hb dX13_ask_73 (by decide) ?_
        exact t_X13_ask_77 (fu := fu) hM hml hr hlk hc0 hk20 hk35 hf hc _ _ hW _ (lv_sub hl [0, 1, 2, 3, 4, 6] rfl)
theorem t_X13_ask_35 {G : GG} {p : Program} {l : Launch} {e : Env} {s : State} {m : MethodId} {args : Array Value} {below : List Frame} {meth : Method} {c : Code} {S : ST} {fu : Nat} {z : Int32 × GV} {a : Nat} {v0 : GV} {k20 : Int32 → Int32 → Int32 → GV → Option (Int32 × GV)} {x1 : Int32} {x2 : Int32} {x3 : Int32} {x4 : Int32} (hM : MC G p s m args c cX13_ask w_X13_ask RX13) (hml : c.maxLocals = 7) (hr : meth.sig.returnType = (some .int)) (hlk : meth.locks = false) (hc0 : gC v0 = 12) (hk20 : ∀ (x2 : Int32) (x3 : Int32) (x4 : Int32) (v : GV), k20 x2 x3 x4 v = some z → gC v = 12 → ∀ (H : Heap) (locs : List Loc), WB G (st S a v) s H locs → ∀ (ls : Array Slot), lv_has ls 7 [(0, .ref a), (1, .int x1), (2, .int x2), (3, .int x3), (4, .int x4)] → W p l e RM_X13_ask s m args below meth c H locs 0 0 (QR G below args s (some (.int z.1)) (st S a v0) (st S a z.2)) (F0 m 20 ls [])) : ∀ {n : Nat} (x5 : Int32) (x6 : Int32) (v : GV), f_X13_ask_35 fu n k20 x1 x2 x3 x4 x5 x6 v = some z → gC v = 12 → ∀ (H : Heap) (locs : List Loc), WB G (st S a v) s H locs → ∀ (ls : Array Slot), lv_has ls 7 [(0, .ref a), (1, .int x1), (2, .int x2), (3, .int x3), (4, .int x4), (5, .int x5), (6, .int x6)] → W p l e RM_X13_ask s m args below meth c H locs 0 0 (QR G below args s (some (.int z.1)) (st S a v0) (st S a z.2)) (F0 m 35 ls []) := by
  intro n
  induction n with
  | zero => intro x5 x6 v hf; cases hf
  | succ n ih => intro x5 x6 v hf; exact t_X13_ask_35s (fu := fu) hM hml hr hlk hc0 hk20 (k35 := f_X13_ask_35 fu n k20 x1 x2 x3 x4) ih _ _ _ hf
noncomputable def f_X13_ask_20s (fu : Nat)  (k20 : Int32 → Int32 → Int32 → GV → Option (Int32 × GV)) (x1 : Int32) (x2 : Int32) (x3 : Int32) (x4 : Int32) (v : GV) : Option (Int32 × GV) :=
  bd (f_X13_spots fu v) fun r1 =>
  if r1 ≤ x4 then
    (some (x2, v))
  else
    (f_X13_ask_35 fu fu k20 x1 x2 x3 x4 (0 : Int32) (0 : Int32) v)
noncomputable def f_X13_ask_20 (fu n : Nat)  (x1 : Int32) : Int32 → Int32 → Int32 → GV → Option (Int32 × GV) :=
  lq_4 (fun k20 => f_X13_ask_20s fu  k20 x1) n
set_option maxHeartbeats 4000000 in
set_option maxRecDepth 100000 in
theorem t_X13_ask_20s {G : GG} {p : Program} {l : Launch} {e : Env} {s : State} {m : MethodId} {args : Array Value} {below : List Frame} {meth : Method} {c : Code} {S : ST} {fu : Nat} {z : Int32 × GV} {a : Nat} {v0 : GV}  (hM : MC G p s m args c cX13_ask w_X13_ask RX13) (hml : c.maxLocals = 7) (hr : meth.sig.returnType = (some .int)) (hlk : meth.locks = false) (hc0 : gC v0 = 12) {k20 : Int32 → Int32 → Int32 → GV → Option (Int32 × GV)} {x1 : Int32}  (hk20 : ∀ (x2 : Int32) (x3 : Int32) (x4 : Int32) (v : GV), k20 x2 x3 x4 v = some z → gC v = 12 → ∀ (H : Heap) (locs : List Loc), WB G (st S a v) s H locs → ∀ (ls : Array Slot), lv_has ls 7 [(0, .ref a), (1, .int x1), (2, .int x2), (3, .int x3), (4, .int x4)] → W p l e RM_X13_ask s m args below meth c H locs 0 0 (QR G below args s (some (.int z.1)) (st S a v0) (st S a z.2)) (F0 m 20 ls [])) : ∀ (x2 : Int32) (x3 : Int32) (x4 : Int32) (v : GV), f_X13_ask_20s fu  k20 x1 x2 x3 x4 v = some z → gC v = 12 → ∀ (H : Heap) (locs : List Loc), WB G (st S a v) s H locs → ∀ (ls : Array Slot), lv_has ls 7 [(0, .ref a), (1, .int x1), (2, .int x2), (3, .int x3), (4, .int x4)] → W p l e RM_X13_ask s m args below meth c H locs 0 0 (QR G below args s (some (.int z.1)) (st S a v0) (st S a z.2)) (F0 m 20 ls []) := by
  intro x2 x3 x4 v hf hc H locs hW ls hl
  have hx := hM.1
  have hb := hM.2.1
  refine lv_iload hx hb dX13_ask_20 (lv_at hl 4 rfl) ?_
  refine lv_aload_n hx hb dX13_ask_22 rfl (lv_at hl 0 rfl) ?_
  obtain ⟨r1, hr1, hf⟩ := bd_elim hf
  refine b_callVi [] [.int x4] hM hml hl.1 hW hc rfl (by decide) (c_X13_spots l G fu _ a v hc hr1) (cwV 0 hM.2.2.2.1 (gV mk_RX13_336 im_X13_spots se_X13_spots it_RX13 cd_X13_spots) rfl rfl rfl (by decide +kernel) ⟨Nat.le_of_ble_eq_true rfl, Nat.le_of_ble_eq_true rfl⟩) rfl rfl (Nat.le_of_ble_eq_true rfl) ⟨Nat.zero_le _, Nat.zero_le _⟩ dX13_ask_23 (fun H locs hW hk => ?_)
  refine lv_icmp_ge (tgt := 144) hx hb dX13_ask_26 (by decide) (fun c2 => ?_) (fun c2 => ?_)
  · have hf := if_t c2 hf
    refine lv_iload_n hx hb dX13_ask_144 rfl (lv_at hl 2 rfl) ?_
    cases hf
    exact W.iret hx hb hr (b_ret0 hW (keep_s2 hc0 hc) _) hW.2.2.2 dX13_ask_145 hlk
  · have hf := if_f c2 hf
    refine lv_iconst (v := (0 : Int32)) hx hb dX13_ask_29 (by decide) ?_
    refine lv_istore (lv' := [(5, .int (0 : Int32)), (0, .ref a), (1, .int x1), (2, .int x2), (3, .int x3), (4, .int x4)]) hx hb dX13_ask_30 hl (by decide) rfl (fun ls hl => ?_)
    refine lv_iconst (v := (0 : Int32)) hx hb dX13_ask_32 (by decide) ?_
    refine lv_istore (lv' := [(6, .int (0 : Int32)), (5, .int (0 : Int32)), (0, .ref a), (1, .int x1), (2, .int x2), (3, .int x3), (4, .int x4)]) hx hb dX13_ask_33 hl (by decide) rfl (fun ls hl => ?_)
    exact t_X13_ask_35 (fu := fu) hM hml hr hlk hc0 hk20 _ _ _ hf hc _ _ hW _ (lv_sub hl [2, 3, 4, 5, 6, 1, 0] rfl)
theorem t_X13_ask_20 {G : GG} {p : Program} {l : Launch} {e : Env} {s : State} {m : MethodId} {args : Array Value} {below : List Frame} {meth : Method} {c : Code} {S : ST} {fu : Nat} {z : Int32 × GV} {a : Nat} {v0 : GV}  {x1 : Int32} (hM : MC G p s m args c cX13_ask w_X13_ask RX13) (hml : c.maxLocals = 7) (hr : meth.sig.returnType = (some .int)) (hlk : meth.locks = false) (hc0 : gC v0 = 12)  : ∀ {n : Nat} (x2 : Int32) (x3 : Int32) (x4 : Int32) (v : GV), f_X13_ask_20 fu n  x1 x2 x3 x4 v = some z → gC v = 12 → ∀ (H : Heap) (locs : List Loc), WB G (st S a v) s H locs → ∀ (ls : Array Slot), lv_has ls 7 [(0, .ref a), (1, .int x1), (2, .int x2), (3, .int x3), (4, .int x4)] → W p l e RM_X13_ask s m args below meth c H locs 0 0 (QR G below args s (some (.int z.1)) (st S a v0) (st S a z.2)) (F0 m 20 ls []) := by
  intro n
  induction n with
  | zero => intro x2 x3 x4 v hf; cases hf
  | succ n ih => intro x2 x3 x4 v hf; exact t_X13_ask_20s (fu := fu) hM hml hr hlk hc0  (k20 := f_X13_ask_20 fu n  x1) ih _ _ _ _ hf
noncomputable def f_X13_ask_0 (fu : Nat)  (v : GV) : Option (Int32 × GV) :=
  nm (sI v 0 (0 : Int32)) fun v1 =>
  bd (f_X13_fitting fu v1) fun r2 =>
  bd (f_X13_bits fu r2) fun r3 =>
  f_X13_ask_20 fu fu r2 (-1 : Int32) r3 (0 : Int32) v1
set_option maxHeartbeats 4000000 in
set_option maxRecDepth 100000 in
theorem t_X13_ask_0 {G : GG} {p : Program} {l : Launch} {e : Env} {s : State} {m : MethodId} {args : Array Value} {below : List Frame} {meth : Method} {c : Code} {S : ST} {fu : Nat} {z : Int32 × GV} {a : Nat} {v0 : GV}  {v : GV} (hM : MC G p s m args c cX13_ask w_X13_ask RX13) (hml : c.maxLocals = 7) (hr : meth.sig.returnType = (some .int)) (hlk : meth.locks = false) (hc0 : gC v0 = 12)  (hf : f_X13_ask_0 fu  v  = some z) : gC v = 12 → ∀ (H : Heap) (locs : List Loc), WB G (st S a v) s H locs → ∀ (ls : Array Slot), lv_has ls 7 [(0, .ref a)] → W p l e RM_X13_ask s m args below meth c H locs 0 0 (QR G below args s (some (.int z.1)) (st S a v0) (st S a z.2)) (F0 m 0 ls []) := by
  intro hc H locs hW ls hl
  have hx := hM.1
  have hb := hM.2.1
  refine lv_aload_n hx hb dX13_ask_0 rfl (lv_at hl 0 rfl) ?_
  refine lv_iconst (v := (0 : Int32)) hx hb dX13_ask_1 (by decide) ?_
  refine b_putI hM hW 11 0 hc rfl rfl (by decide) wi_X13 tyX13 tyX13_ok nmX13 (wgm fk_RX13_1) rfl rfl rfl dX13_ask_2 (fun v1 ev1 hc H locs hW => ?_)
  have hf := nm_at ev1 hf
  refine lv_aload_n hx hb dX13_ask_5 rfl (lv_at hl 0 rfl) ?_
  obtain ⟨r2, hr2, hf⟩ := bd_elim hf
  refine b_callVi [] [] hM hml hl.1 hW hc rfl (by decide) (c_X13_fitting l G fu _ a v1 hc hr2) (cwV 0 hM.2.2.2.1 (gV mk_RX13_424 im_X13_fitting se_X13_fitting it_RX13 cd_X13_fitting) rfl rfl rfl (by decide +kernel) ⟨Nat.le_of_ble_eq_true rfl, Nat.le_of_ble_eq_true rfl⟩) rfl rfl (Nat.le_of_ble_eq_true rfl) ⟨Nat.zero_le _, Nat.zero_le _⟩ dX13_ask_6 (fun H locs hW hk => ?_)
  refine lv_istore_n (lv' := [(1, .int r2), (0, .ref a)]) hx hb dX13_ask_9 rfl hl (by decide) rfl (fun ls hl => ?_)
  refine lv_iconst (v := (-1 : Int32)) hx hb dX13_ask_10 (by decide) ?_
  refine lv_istore_n (lv' := [(2, .int (-1 : Int32)), (1, .int r2), (0, .ref a)]) hx hb dX13_ask_11 rfl hl (by decide) rfl (fun ls hl => ?_)
  refine lv_iload_n hx hb dX13_ask_12 rfl (lv_at hl 1 rfl) ?_
  obtain ⟨r3, hr3, hf⟩ := bd_elim hf
  refine b_callSi [.int r2] [] hM hml hl.1 hW (c_X13_bits l G fu _ _ hr3) (va_cwS 1 hM.2.2.2.1 (gS mk_RX13_339 sm_X13_bits it_RX13 cd_X13_bits) rfl rfl rfl (by decide +kernel) ⟨Nat.le_of_ble_eq_true rfl, Nat.le_of_ble_eq_true rfl⟩) rfl rfl (Nat.le_of_ble_eq_true rfl) ⟨Nat.zero_le _, Nat.zero_le _⟩ dX13_ask_13 (fun H locs hW hk => ?_)
  refine lv_istore_n (lv' := [(3, .int r3), (2, .int (-1 : Int32)), (1, .int r2), (0, .ref a)]) hx hb dX13_ask_16 rfl hl (by decide) rfl (fun ls hl => ?_)
  refine lv_iconst (v := (0 : Int32)) hx hb dX13_ask_17 (by decide) ?_
  refine lv_istore (lv' := [(4, .int (0 : Int32)), (3, .int r3), (2, .int (-1 : Int32)), (1, .int r2), (0, .ref a)]) hx hb dX13_ask_18 hl (by decide) rfl (fun ls hl => ?_)
  exact t_X13_ask_20 (fu := fu) hM hml hr hlk hc0 _ _ _ _ hf hc _ _ hW _ (lv_sub hl [4, 3, 2, 1, 0] rfl)
noncomputable def f_X13_ask (fu : Nat) (v : GV) : Option (Int32 × GV) := f_X13_ask_0 fu v
set_option maxHeartbeats 4000000 in
set_option maxRecDepth 100000 in
theorem c_X13_ask (l : Launch) (G : GG) (fu : Nat) (S : ST) (a : Nat) (v : GV) {z : Int32} {w : GV} (hc : gC v = 12) (hf : f_X13_ask fu v = some (z, w)) : Ct l yX13_ask w_X13_ask RM_X13_ask G (st S a v) [.ref a] (some (.int z)) (st S a w) 0 0 := by
  refine Met.ofW (cc := cX13_ask) (maxL := 7) (ret := (some .int)) (by decide) rfl ?_
  intro p e s m args below meth c s₁ B hml hv
  obtain ⟨rfl, hB, hK, hz⟩ := hv
  have hM : MC G p s m _ c cX13_ask w_X13_ask RX13 := ⟨B.exec, B.bytes, findClass_of_methodNamed B.named, atoms_spec (ws := w_X13_ask) B.pre, hK, hz⟩
  have hW : WB G (st S a v) s s.heap [] := ⟨hB, va_S.rf⟩
  have hl := lv_entry ([.ref a]) (n := 7) (Nat.le_of_ble_eq_true rfl)
  rw [lg_entry_eq]
  generalize (lg_sl ([.ref a]) ++ List.replicate (7 - (lg_sl ([.ref a])).length) Slot.unset).toArray = ls at hl ⊢
  have hl : lv_has ls 7 [(0, .ref a)] := hl
  exact t_X13_ask_0 hM hml B.returns B.notSynchronized hc hf hc _ _ hW _ (lv_sub hl [0] rfl)
abbrev w_X13_price : List Cond := Cond.code yX13_price cX13_price 4 (some .int) :: wsL_law0
abbrev RM_X13_price : Room := { frames := 3, cells := 0, slots := 0, locals := 69 }
noncomputable def f_X13_price_40 (fu : Nat) (k14 : Int32 → Int32 → GV → Option (Int32 × GV)) (v : GV) (x1 : Int32) (x3 : Int32) (t0 : Int32) (t1 : Int32) : Option (Int32 × GV) :=
  nm ((t0 + t1)) fun y1 =>
  nm (x3 + (1 : Int32)) fun y2 =>
  k14 y1 y2 v
set_option maxHeartbeats 4000000 in
set_option maxRecDepth 100000 in
theorem t_X13_price_40 {G : GG} {p : Program} {l : Launch} {e : Env} {s : State} {m : MethodId} {args : Array Value} {below : List Frame} {meth : Method} {c : Code} {S : ST} {fu : Nat} {z : Int32 × GV} {a : Nat} {v0 : GV} {k14 : Int32 → Int32 → GV → Option (Int32 × GV)} {v : GV} {x1 : Int32} {x3 : Int32} {t0 : Int32} {t1 : Int32} (hM : MC G p s m args c cX13_price w_X13_price RX13) (hml : c.maxLocals = 4) (hr : meth.sig.returnType = (some .int)) (hlk : meth.locks = false) (hc0 : gC v0 = 12) (hk14 : ∀ (x2 : Int32) (x3 : Int32) (v : GV), k14 x2 x3 v = some z → gC v = 12 → ∀ (H : Heap) (locs : List Loc), WB G (st S a v) s H locs → ∀ (ls : Array Slot), lv_has ls 4 [(0, .ref a), (1, .int x1), (2, .int x2), (3, .int x3)] → W p l e RM_X13_price s m args below meth c H locs 0 0 (QR G below args s (some (.int z.1)) (st S a v0) (st S a z.2)) (F0 m 14 ls [])) (hf : f_X13_price_40 fu k14 v x1 x3 t0 t1 = some z) : gC v = 12 → ∀ (H : Heap) (locs : List Loc), WB G (st S a v) s H locs → ∀ (ls : Array Slot), lv_has ls 4 [(0, .ref a), (1, .int x1), (3, .int x3)] → W p l e RM_X13_price s m args below meth c H locs 0 0 (QR G below args s (some (.int z.1)) (st S a v0) (st S a z.2)) (F0 m 40 ls [.int t1, .int t0]) := by
  intro hc H locs hW ls hl
  have hx := hM.1
  have hb := hM.2.1
  refine lv_iadd hx hb dX13_price_40 ?_
  refine lv_topi (fun y1 ey1 => ?_)
  have hf := nm_at ey1 hf
  refine lv_istore_n (lv' := [(2, .int y1), (0, .ref a), (1, .int x1), (3, .int x3)]) hx hb dX13_price_41 rfl hl (by decide) rfl (fun ls hl => ?_)
  obtain ⟨y2, ey2⟩ : ∃ y : Int32, y = x3 + (1 : Int32) := ⟨_, rfl⟩
  have hf := nm_at ey2 hf
  refine lv_iinc (v := y2) (lv' := [(3, .int y2), (2, .int y1), (0, .ref a), (1, .int x1)]) hx hb dX13_price_42 hl (k := 3) rfl (by rw [ey2]; rfl) (by decide) rfl (fun ls hl => ?_)
  refine lv_goto (tgt := 14) hx hb dX13_price_45 (by decide) ?_
  exact hk14 _ _ _ hf hc _ _ hW _ (lv_sub hl [2, 3, 1, 0] rfl)
noncomputable def f_X13_price_14s (fu : Nat)  (k14 : Int32 → Int32 → GV → Option (Int32 × GV)) (x1 : Int32) (x2 : Int32) (x3 : Int32) (v : GV) : Option (Int32 × GV) :=
  if (8 : Int32) ≤ x3 then
    (if x1 = 0 then
      (some ((-1 : Int32), v))
    else
      (bd (f_X13_bits fu x1) fun r3 =>
      ck (decide (¬ r3 = 0)) <|
      some (((x2 * (1000 : Int32)) / r3), v)))
  else
    (if ((x1 >>> (x3 &&& 31)) &&& (1 : Int32)) = (1 : Int32) then
      (bd2 (f_X13_worthOf fu v (0 : Int32) x3) fun r6 v7 =>
      f_X13_price_40 fu k14 v7 x1 x3 x2 r6)
    else
      (f_X13_price_40 fu k14 v x1 x3 x2 (0 : Int32)))
noncomputable def f_X13_price_14 (fu n : Nat)  (x1 : Int32) : Int32 → Int32 → GV → Option (Int32 × GV) :=
  lq_3 (fun k14 => f_X13_price_14s fu  k14 x1) n
set_option maxHeartbeats 4000000 in
set_option maxRecDepth 100000 in
theorem t_X13_price_14s {G : GG} {p : Program} {l : Launch} {e : Env} {s : State} {m : MethodId} {args : Array Value} {below : List Frame} {meth : Method} {c : Code} {S : ST} {fu : Nat} {z : Int32 × GV} {a : Nat} {v0 : GV}  (hM : MC G p s m args c cX13_price w_X13_price RX13) (hml : c.maxLocals = 4) (hr : meth.sig.returnType = (some .int)) (hlk : meth.locks = false) (hc0 : gC v0 = 12) {k14 : Int32 → Int32 → GV → Option (Int32 × GV)} {x1 : Int32}  (hk14 : ∀ (x2 : Int32) (x3 : Int32) (v : GV), k14 x2 x3 v = some z → gC v = 12 → ∀ (H : Heap) (locs : List Loc), WB G (st S a v) s H locs → ∀ (ls : Array Slot), lv_has ls 4 [(0, .ref a), (1, .int x1), (2, .int x2), (3, .int x3)] → W p l e RM_X13_price s m args below meth c H locs 0 0 (QR G below args s (some (.int z.1)) (st S a v0) (st S a z.2)) (F0 m 14 ls [])) : ∀ (x2 : Int32) (x3 : Int32) (v : GV), f_X13_price_14s fu  k14 x1 x2 x3 v = some z → gC v = 12 → ∀ (H : Heap) (locs : List Loc), WB G (st S a v) s H locs → ∀ (ls : Array Slot), lv_has ls 4 [(0, .ref a), (1, .int x1), (2, .int x2), (3, .int x3)] → W p l e RM_X13_price s m args below meth c H locs 0 0 (QR G below args s (some (.int z.1)) (st S a v0) (st S a z.2)) (F0 m 14 ls []) := by
  intro x2 x3 v hf hc H locs hW ls hl
  have hx := hM.1
  have hb := hM.2.1
  refine lv_iload_n hx hb dX13_price_14 rfl (lv_at hl 3 rfl) ?_
  refine lv_bipush (v := (8 : Int32)) hx hb dX13_price_15 (by decide) ?_
  refine lv_icmp_ge (tgt := 48) hx hb dX13_price_17 (by decide) (fun c1 => ?_) (fun c1 => ?_)
  · have hf := if_t c1 hf
    refine lv_iload_n hx hb dX13_price_48 rfl (lv_at hl 1 rfl) ?_
    refine lv_if_ne (tgt := 56) hx hb dX13_price_49 (by decide) (fun c2 => ?_) (fun c2 => ?_)
    · have hf := if_f c2 hf
      refine lv_iload_n hx hb dX13_price_56 rfl (lv_at hl 2 rfl) ?_
      refine lv_sipush (v := (1000 : Int32)) hx hb dX13_price_57 (by decide) ?_
      refine lv_imul hx hb dX13_price_60 ?_
      refine lv_iload_n hx hb dX13_price_61 rfl (lv_at hl 1 rfl) ?_
      obtain ⟨r3, hr3, hf⟩ := bd_elim hf
      refine b_callSi [.int x1] [.int (x2 * (1000 : Int32))] hM hml hl.1 hW (c_X13_bits l G fu _ _ hr3) (va_cwS 1 hM.2.2.2.1 (gS mk_RX13_339 sm_X13_bits it_RX13 cd_X13_bits) rfl rfl rfl (by decide +kernel) ⟨Nat.le_of_ble_eq_true rfl, Nat.le_of_ble_eq_true rfl⟩) rfl rfl (Nat.le_of_ble_eq_true rfl) ⟨Nat.zero_le _, Nat.zero_le _⟩ dX13_price_62 (fun H locs hW hk => ?_)
      obtain ⟨h4, hf⟩ := ck_elim hf
      refine lv_idiv hx hb dX13_price_65 (of_decide_eq_true h4) ?_
      cases hf
      exact W.iret hx hb hr (b_ret0 hW (keep_s2 hc0 hc) _) hW.2.2.2 dX13_price_66 hlk
    · have hf := if_t c2 hf
      refine lv_iconst (v := (-1 : Int32)) hx hb dX13_price_52 (by decide) ?_
      refine lv_goto (tgt := 66) hx hb dX13_price_53 (by decide) ?_
      cases hf
      exact W.iret hx hb hr (b_ret0 hW (keep_s2 hc0 hc) _) hW.2.2.2 dX13_price_66 hlk
  · have hf := if_f c1 hf
    refine lv_iload_n hx hb dX13_price_20 rfl (lv_at hl 2 rfl) ?_
    refine lv_iload_n hx hb dX13_price_21 rfl (lv_at hl 1 rfl) ?_
    refine lv_iload_n hx hb dX13_price_22 rfl (lv_at hl 3 rfl) ?_
    refine lv_ishr hx hb dX13_price_23 ?_
    refine lv_iconst (v := (1 : Int32)) hx hb dX13_price_24 (by decide) ?_
    refine lv_iand hx hb dX13_price_25 ?_
    refine lv_iconst (v := (1 : Int32)) hx hb dX13_price_26 (by decide) ?_
    refine lv_icmp_ne (tgt := 39) hx hb dX13_price_27 (by decide) (fun c5 => ?_) (fun c5 => ?_)
    · have hf := if_f c5 hf
      refine lv_iconst (v := (0 : Int32)) hx hb dX13_price_39 (by decide) ?_
      exact t_X13_price_40 (fu := fu) hM hml hr hlk hc0 hk14 hf hc _ _ hW _ (lv_sub hl [0, 1, 3] rfl)
    · have hf := if_t c5 hf
      refine lv_aload_n hx hb dX13_price_30 rfl (lv_at hl 0 rfl) ?_
      refine lv_iconst (v := (0 : Int32)) hx hb dX13_price_31 (by decide) ?_
      refine lv_iload_n hx hb dX13_price_32 rfl (lv_at hl 3 rfl) ?_
      obtain ⟨r6, v7, hr6, hf⟩ := bd2_elim hf
      refine b_callVi [.int (0 : Int32), .int x3] [.int x2] hM hml hl.1 hW hc rfl (by decide) (c_X13_worthOf l G fu _ a v _ _ hc hr6) (cwV 2 hM.2.2.2.1 (gV mk_RX13_349 im_X13_worthOf se_X13_worthOf it_RX13 cd_X13_worthOf) rfl rfl rfl (by decide +kernel) ⟨Nat.le_of_ble_eq_true rfl, Nat.le_of_ble_eq_true rfl⟩) rfl rfl (Nat.le_of_ble_eq_true rfl) ⟨Nat.zero_le _, Nat.zero_le _⟩ dX13_price_33 (fun H locs hW hk => ?_)
      have hc := keep_at hc hk
      refine lv_goto (tgt := 40) hx hb dX13_price_36 (by decide) ?_
      exact t_X13_price_40 (fu := fu) hM hml hr hlk hc0 hk14 hf hc _ _ hW _ (lv_sub hl [0, 1, 3] rfl)
theorem t_X13_price_14 {G : GG} {p : Program} {l : Launch} {e : Env} {s : State} {m : MethodId} {args : Array Value} {below : List Frame} {meth : Method} {c : Code} {S : ST} {fu : Nat} {z : Int32 × GV} {a : Nat} {v0 : GV}  {x1 : Int32} (hM : MC G p s m args c cX13_price w_X13_price RX13) (hml : c.maxLocals = 4) (hr : meth.sig.returnType = (some .int)) (hlk : meth.locks = false) (hc0 : gC v0 = 12)  : ∀ {n : Nat} (x2 : Int32) (x3 : Int32) (v : GV), f_X13_price_14 fu n  x1 x2 x3 v = some z → gC v = 12 → ∀ (H : Heap) (locs : List Loc), WB G (st S a v) s H locs → ∀ (ls : Array Slot), lv_has ls 4 [(0, .ref a), (1, .int x1), (2, .int x2), (3, .int x3)] → W p l e RM_X13_price s m args below meth c H locs 0 0 (QR G below args s (some (.int z.1)) (st S a v0) (st S a z.2)) (F0 m 14 ls []) := by
  intro n
  induction n with
  | zero => intro x2 x3 v hf; cases hf
  | succ n ih => intro x2 x3 v hf; exact t_X13_price_14s (fu := fu) hM hml hr hlk hc0  (k14 := f_X13_price_14 fu n  x1) ih _ _ _ hf
noncomputable def f_X13_price_0 (fu : Nat)  (v : GV) : Option (Int32 × GV) :=
  nm (sI v 0 (0 : Int32)) fun v1 =>
  bd (f_X13_fitting fu v1) fun r2 =>
  f_X13_price_14 fu fu r2 (0 : Int32) (0 : Int32) v1
set_option maxHeartbeats 4000000 in
set_option maxRecDepth 100000 in
theorem t_X13_price_0 {G : GG} {p : Program} {l : Launch} {e : Env} {s : State} {m : MethodId} {args : Array Value} {below : List Frame} {meth : Method} {c : Code} {S : ST} {fu : Nat} {z : Int32 × GV} {a : Nat} {v0 : GV}  {v : GV} (hM : MC G p s m args c cX13_price w_X13_price RX13) (hml : c.maxLocals = 4) (hr : meth.sig.returnType = (some .int)) (hlk : meth.locks = false) (hc0 : gC v0 = 12)  (hf : f_X13_price_0 fu  v  = some z) : gC v = 12 → ∀ (H : Heap) (locs : List Loc), WB G (st S a v) s H locs → ∀ (ls : Array Slot), lv_has ls 4 [(0, .ref a)] → W p l e RM_X13_price s m args below meth c H locs 0 0 (QR G below args s (some (.int z.1)) (st S a v0) (st S a z.2)) (F0 m 0 ls []) := by
  intro hc H locs hW ls hl
  have hx := hM.1
  have hb := hM.2.1
  refine lv_aload_n hx hb dX13_price_0 rfl (lv_at hl 0 rfl) ?_
  refine lv_iconst (v := (0 : Int32)) hx hb dX13_price_1 (by decide) ?_
  refine b_putI hM hW 11 0 hc rfl rfl (by decide) wi_X13 tyX13 tyX13_ok nmX13 (wgm fk_RX13_1) rfl rfl rfl dX13_price_2 (fun v1 ev1 hc H locs hW => ?_)
  have hf := nm_at ev1 hf
  refine lv_aload_n hx hb dX13_price_5 rfl (lv_at hl 0 rfl) ?_
  obtain ⟨r2, hr2, hf⟩ := bd_elim hf
  refine b_callVi [] [] hM hml hl.1 hW hc rfl (by decide) (c_X13_fitting l G fu _ a v1 hc hr2) (cwV 0 hM.2.2.2.1 (gV mk_RX13_424 im_X13_fitting se_X13_fitting it_RX13 cd_X13_fitting) rfl rfl rfl (by decide +kernel) ⟨Nat.le_of_ble_eq_true rfl, Nat.le_of_ble_eq_true rfl⟩) rfl rfl (Nat.le_of_ble_eq_true rfl) ⟨Nat.zero_le _, Nat.zero_le _⟩ dX13_price_6 (fun H locs hW hk => ?_)
  refine lv_istore_n (lv' := [(1, .int r2), (0, .ref a)]) hx hb dX13_price_9 rfl hl (by decide) rfl (fun ls hl => ?_)
  refine lv_iconst (v := (0 : Int32)) hx hb dX13_price_10 (by decide) ?_
  refine lv_istore_n (lv' := [(2, .int (0 : Int32)), (1, .int r2), (0, .ref a)]) hx hb dX13_price_11 rfl hl (by decide) rfl (fun ls hl => ?_)
  refine lv_iconst (v := (0 : Int32)) hx hb dX13_price_12 (by decide) ?_
  refine lv_istore_n (lv' := [(3, .int (0 : Int32)), (2, .int (0 : Int32)), (1, .int r2), (0, .ref a)]) hx hb dX13_price_13 rfl hl (by decide) rfl (fun ls hl => ?_)
  exact t_X13_price_14 (fu := fu) hM hml hr hlk hc0 _ _ _ hf hc _ _ hW _ (lv_sub hl [3, 2, 1, 0] rfl)
noncomputable def f_X13_price (fu : Nat) (v : GV) : Option (Int32 × GV) := f_X13_price_0 fu v
set_option maxHeartbeats 4000000 in
set_option maxRecDepth 100000 in
theorem c_X13_price (l : Launch) (G : GG) (fu : Nat) (S : ST) (a : Nat) (v : GV) {z : Int32} {w : GV} (hc : gC v = 12) (hf : f_X13_price fu v = some (z, w)) : Ct l yX13_price w_X13_price RM_X13_price G (st S a v) [.ref a] (some (.int z)) (st S a w) 0 0 := by
  refine Met.ofW (cc := cX13_price) (maxL := 4) (ret := (some .int)) (by decide) rfl ?_
  intro p e s m args below meth c s₁ B hml hv
  obtain ⟨rfl, hB, hK, hz⟩ := hv
  have hM : MC G p s m _ c cX13_price w_X13_price RX13 := ⟨B.exec, B.bytes, findClass_of_methodNamed B.named, atoms_spec (ws := w_X13_price) B.pre, hK, hz⟩
  have hW : WB G (st S a v) s s.heap [] := ⟨hB, va_S.rf⟩
  have hl := lv_entry ([.ref a]) (n := 4) (Nat.le_of_ble_eq_true rfl)
  rw [lg_entry_eq]
  generalize (lg_sl ([.ref a]) ++ List.replicate (4 - (lg_sl ([.ref a])).length) Slot.unset).toArray = ls at hl ⊢
  have hl : lv_has ls 4 [(0, .ref a)] := hl
  exact t_X13_price_0 hM hml B.returns B.notSynchronized hc hf hc _ _ hW _ (lv_sub hl [0] rfl)
abbrev w_X13_ways : List Cond := Cond.code yX13_ways cX13_ways 4 none :: wsL_law0
abbrev RM_X13_ways (d : Nat) : Room := { frames := 1 * d + 3, cells := 0, slots := 0, locals := 23 * d + 69 }
noncomputable def f_X13_ways_167 (fu : Nat) (rec : GV → Int32 → Option (GV)) (k105 : Int32 → GV → Option (GV)) (v : GV) (x1 : Int32) (x2 : Int32) (x3 : Int32) : Option (GV) :=
  nm (x3 + (1 : Int32)) fun y1 =>
  k105 y1 v
set_option maxHeartbeats 4000000 in
set_option maxRecDepth 100000 in
theorem t_X13_ways_167 {G : GG} {p : Program} {l : Launch} {e : Env} {s : State} {m : MethodId} {args : Array Value} {below : List Frame} {meth : Method} {c : Code} {S : ST} {fu : Nat} {z : GV} {a : Nat} {v0 : GV} {d : Nat} {rec : GV → Int32 → Option (GV)} {k105 : Int32 → GV → Option (GV)} {v : GV} {x1 : Int32} {x2 : Int32} {x3 : Int32} (hM : MC G p s m args c cX13_ways w_X13_ways RX13) (hml : c.maxLocals = 4) (hr : meth.sig.returnType = none) (hlk : meth.locks = false) (hrec : ∀ (S : ST) (v : GV) (x1 : Int32) (z : GV), gC v = 12 → rec v x1 = some z → Ct l yX13_ways w_X13_ways (RM_X13_ways d) G (st S a v) [.ref a, .int x1] none (st S a z) 0 0) (hc0 : gC v0 = 12) (hk105 : ∀ (x3 : Int32) (v : GV), k105 x3 v = some z → gC v = 12 → ∀ (H : Heap) (locs : List Loc), WB G (st S a v) s H locs → ∀ (ls : Array Slot), lv_has ls 4 [(0, .ref a), (1, .int x1), (2, .int x2), (3, .int x3)] → W p l e (RM_X13_ways (d + 1)) s m args below meth c H locs 0 0 (QR G below args s none (st S a v0) (st S a z)) (F0 m 105 ls [])) (hf : f_X13_ways_167 fu rec k105 v x1 x2 x3 = some z) : gC v = 12 → ∀ (H : Heap) (locs : List Loc), WB G (st S a v) s H locs → ∀ (ls : Array Slot), lv_has ls 4 [(0, .ref a), (1, .int x1), (2, .int x2), (3, .int x3)] → W p l e (RM_X13_ways (d + 1)) s m args below meth c H locs 0 0 (QR G below args s none (st S a v0) (st S a z)) (F0 m 167 ls []) := by
  intro hc H locs hW ls hl
  have hx := hM.1
  have hb := hM.2.1
  obtain ⟨y1, ey1⟩ : ∃ y : Int32, y = x3 + (1 : Int32) := ⟨_, rfl⟩
  have hf := nm_at ey1 hf
  refine lv_iinc (v := y1) (lv' := [(3, .int y1), (0, .ref a), (1, .int x1), (2, .int x2)]) hx hb dX13_ways_167 hl (k := 3) rfl (by rw [ey1]; rfl) (by decide) rfl (fun ls hl => ?_)
  refine lv_goto (tgt := 105) hx hb dX13_ways_170 (by decide) ?_
  exact hk105 _ _ hf hc _ _ hW _ (lv_sub hl [1, 2, 3, 0] rfl)
noncomputable def f_X13_ways_105s (fu : Nat) (rec : GV → Int32 → Option (GV))  (k105 : Int32 → GV → Option (GV)) (x1 : Int32) (x2 : Int32) (x3 : Int32) (v : GV) : Option (GV) :=
  bd (f_X13_thieves fu v) fun r1 =>
  if r1 ≤ x3 then
    (some v)
  else
    (ck (inb x3 5) <|
    if (2 : Int32) ≤ (gA v 32 x3.toNatClampNeg) then
      (f_X13_ways_167 fu rec k105 v x1 x2 x3)
    else
      (bd (f_X13_thiefOf fu v x3 (1 : Int32)) fun r5 =>
      if r5 < x2 then
        (f_X13_ways_167 fu rec k105 v x1 x2 x3)
      else
        (ck (inb x3 5) <|
        nm (((gA v 32 x3.toNatClampNeg) + (1 : Int32))) fun y8 =>
        ck (inb x3 5) <|
        nm (sA v 32 x3.toNatClampNeg y8) fun v10 =>
        ck (inb x1 8) <|
        nm (sA v10 33 x1.toNatClampNeg x3) fun v12 =>
        bd (rec v12 (x1 + (1 : Int32))) fun v14 =>
        ck (inb x3 5) <|
        nm (((gA v14 32 x3.toNatClampNeg) - (1 : Int32))) fun y16 =>
        ck (inb x3 5) <|
        nm (sA v14 32 x3.toNatClampNeg y16) fun v18 =>
        f_X13_ways_167 fu rec k105 v18 x1 x2 x3)))
noncomputable def f_X13_ways_105 (fu n : Nat) (rec : GV → Int32 → Option (GV))  (x1 : Int32) (x2 : Int32) : Int32 → GV → Option (GV) :=
  lq_2 (fun k105 => f_X13_ways_105s fu rec  k105 x1 x2) n
set_option maxHeartbeats 4000000 in
set_option maxRecDepth 100000 in
theorem t_X13_ways_105s {G : GG} {p : Program} {l : Launch} {e : Env} {s : State} {m : MethodId} {args : Array Value} {below : List Frame} {meth : Method} {c : Code} {S : ST} {fu : Nat} {z : GV} {a : Nat} {v0 : GV} {d : Nat} {rec : GV → Int32 → Option (GV)}  (hM : MC G p s m args c cX13_ways w_X13_ways RX13) (hml : c.maxLocals = 4) (hr : meth.sig.returnType = none) (hlk : meth.locks = false) (hrec : ∀ (S : ST) (v : GV) (x1 : Int32) (z : GV), gC v = 12 → rec v x1 = some z → Ct l yX13_ways w_X13_ways (RM_X13_ways d) G (st S a v) [.ref a, .int x1] none (st S a z) 0 0) (hc0 : gC v0 = 12) {k105 : Int32 → GV → Option (GV)} {x1 : Int32} {x2 : Int32}  (hk105 : ∀ (x3 : Int32) (v : GV), k105 x3 v = some z → gC v = 12 → ∀ (H : Heap) (locs : List Loc), WB G (st S a v) s H locs → ∀ (ls : Array Slot), lv_has ls 4 [(0, .ref a), (1, .int x1), (2, .int x2), (3, .int x3)] → W p l e (RM_X13_ways (d + 1)) s m args below meth c H locs 0 0 (QR G below args s none (st S a v0) (st S a z)) (F0 m 105 ls [])) : ∀ (x3 : Int32) (v : GV), f_X13_ways_105s fu rec  k105 x1 x2 x3 v = some z → gC v = 12 → ∀ (H : Heap) (locs : List Loc), WB G (st S a v) s H locs → ∀ (ls : Array Slot), lv_has ls 4 [(0, .ref a), (1, .int x1), (2, .int x2), (3, .int x3)] → W p l e (RM_X13_ways (d + 1)) s m args below meth c H locs 0 0 (QR G below args s none (st S a v0) (st S a z)) (F0 m 105 ls []) := by
  intro x3 v hf hc H locs hW ls hl
  have hx := hM.1
  have hb := hM.2.1
  refine lv_iload_n hx hb dX13_ways_105 rfl (lv_at hl 3 rfl) ?_
  refine lv_aload_n hx hb dX13_ways_106 rfl (lv_at hl 0 rfl) ?_
  obtain ⟨r1, hr1, hf⟩ := bd_elim hf
  refine b_callVi [] [.int x3] hM hml hl.1 hW hc rfl (by decide) (c_X13_thieves l G fu _ a v hc hr1) (cwV 0 hM.2.2.2.1 (gV mk_RX13_320 im_X13_thieves se_X13_thieves it_RX13 cd_X13_thieves) rfl rfl rfl (by decide +kernel) ⟨by show 0 + 1 ≤ 1 * (d + 1) + 3; omega, by show 8 + (1 + 11) + 0 ≤ 23 * (d + 1) + 69; omega⟩) rfl rfl (Nat.le_of_ble_eq_true rfl) ⟨Nat.zero_le _, Nat.zero_le _⟩ dX13_ways_107 (fun H locs hW hk => ?_)
  refine lv_icmp_ge (tgt := 173) hx hb dX13_ways_110 (by decide) (fun c2 => ?_) (fun c2 => ?_)
  · have hf := if_t c2 hf
    cases hf
    exact W.vret hx hb hr (b_ret0 hW (keep_s2 hc0 hc) _) hW.2.2.2 dX13_ways_173 hlk
  · have hf := if_f c2 hf
    refine lv_aload_n hx hb dX13_ways_113 rfl (lv_at hl 0 rfl) ?_
    refine b_get hM hW 11 32 hc rfl rfl (by decide) wi_X13 (wgm fk_RX13_141) (x := .ref (a + 21)) rfl dX13_ways_114 ?_
    refine lv_iload_n hx hb dX13_ways_117 rfl (lv_at hl 3 rfl) ?_
    obtain ⟨h3, hf⟩ := ck_elim hf
    refine b_iald (n := 5) hM hW 11 32 hc (by decide) rfl rfl rfl rfl h3 dX13_ways_118 ?_
    refine lv_iconst (v := (2 : Int32)) hx hb dX13_ways_119 (by decide) ?_
    refine lv_icmp_ge (tgt := 167) hx hb dX13_ways_120 (by decide) (fun c4 => ?_) (fun c4 => ?_)
    · have hf := if_t c4 hf
      exact t_X13_ways_167 (fu := fu) hM hml hr hlk hrec hc0 hk105 hf hc _ _ hW _ (lv_sub hl [0, 1, 2, 3] rfl)
    · have hf := if_f c4 hf
      refine lv_aload_n hx hb dX13_ways_123 rfl (lv_at hl 0 rfl) ?_
      refine lv_iload_n hx hb dX13_ways_124 rfl (lv_at hl 3 rfl) ?_
      refine lv_iconst (v := (1 : Int32)) hx hb dX13_ways_125 (by decide) ?_
      obtain ⟨r5, hr5, hf⟩ := bd_elim hf
      refine b_callVi [.int x3, .int (1 : Int32)] [] hM hml hl.1 hW hc rfl (by decide) (c_X13_thiefOf l G fu _ a v _ _ hc hr5) (cwV 2 hM.2.2.2.1 (gV mk_RX13_323 im_X13_thiefOf se_X13_thiefOf it_RX13 cd_X13_thiefOf) rfl rfl rfl (by decide +kernel) ⟨by show 0 + 1 ≤ 1 * (d + 1) + 3; omega, by show 8 + (3 + 11) + 0 ≤ 23 * (d + 1) + 69; omega⟩) rfl rfl (Nat.le_of_ble_eq_true rfl) ⟨Nat.zero_le _, Nat.zero_le _⟩ dX13_ways_126 (fun H locs hW hk => ?_)
      refine lv_iload_n hx hb dX13_ways_129 rfl (lv_at hl 2 rfl) ?_
      refine lv_icmp_lt (tgt := 167) hx hb dX13_ways_130 (by decide) (fun c6 => ?_) (fun c6 => ?_)
      · have hf := if_t c6 hf
        exact t_X13_ways_167 (fu := fu) hM hml hr hlk hrec hc0 hk105 hf hc _ _ hW _ (lv_sub hl [0, 1, 2, 3] rfl)
      · have hf := if_f c6 hf
        refine lv_aload_n hx hb dX13_ways_133 rfl (lv_at hl 0 rfl) ?_
        refine b_get hM hW 11 32 hc rfl rfl (by decide) wi_X13 (wgm fk_RX13_141) (x := .ref (a + 21)) rfl dX13_ways_134 ?_
        refine lv_iload_n hx hb dX13_ways_137 rfl (lv_at hl 3 rfl) ?_
        refine lv_dup2_11 hx hb dX13_ways_138 rfl rfl ?_
        obtain ⟨h7, hf⟩ := ck_elim hf
        refine b_iald (n := 5) hM hW 11 32 hc (by decide) rfl rfl rfl rfl h7 dX13_ways_139 ?_
        refine lv_iconst (v := (1 : Int32)) hx hb dX13_ways_140 (by decide) ?_
        refine lv_iadd hx hb dX13_ways_141 ?_
        refine lv_topi (fun y8 ey8 => ?_)
        have hf := nm_at ey8 hf
        obtain ⟨h9, hf⟩ := ck_elim hf
        refine b_iast (n := 5) hM hW 11 32 hc (by decide) rfl rfl rfl rfl h9 dX13_ways_142 (fun v10 ev10 hc H locs hW => ?_)
        have hf := nm_at ev10 hf
        refine lv_aload_n hx hb dX13_ways_143 rfl (lv_at hl 0 rfl) ?_
        refine b_get hM hW 11 33 hc rfl rfl (by decide) wi_X13 (wgm fk_RX13_144) (x := .ref (a + 22)) rfl dX13_ways_144 ?_
        refine lv_iload_n hx hb dX13_ways_147 rfl (lv_at hl 1 rfl) ?_
        refine lv_iload_n hx hb dX13_ways_148 rfl (lv_at hl 3 rfl) ?_
        obtain ⟨h11, hf⟩ := ck_elim hf
        refine b_iast (n := 8) hM hW 11 33 hc (by decide) rfl rfl rfl rfl h11 dX13_ways_149 (fun v12 ev12 hc H locs hW => ?_)
        have hf := nm_at ev12 hf
        refine lv_aload_n hx hb dX13_ways_150 rfl (lv_at hl 0 rfl) ?_
        refine lv_iload_n hx hb dX13_ways_151 rfl (lv_at hl 1 rfl) ?_
        refine lv_iconst (v := (1 : Int32)) hx hb dX13_ways_152 (by decide) ?_
        refine lv_iadd hx hb dX13_ways_153 ?_
        obtain ⟨v14, hr13, hf⟩ := bd_elim hf
        refine b_callVv [.int (x1 + (1 : Int32))] [] hM hml hl.1 hW hc rfl (by decide) (hrec _ v12 _ _ hc hr13) (cwV 1 hM.2.2.2.1 (gV mk_RX13_430 im_X13_ways se_X13_ways it_RX13 cd_X13_ways) rfl rfl rfl (by decide +kernel) ⟨by show (1 * d + 3) + 1 ≤ 1 * (d + 1) + 3; omega, by show 8 + (4 + 11) + (23 * d + 69) ≤ 23 * (d + 1) + 69; omega⟩) rfl rfl (Nat.le_of_ble_eq_true rfl) ⟨Nat.zero_le _, Nat.zero_le _⟩ dX13_ways_154 (fun H locs hW hk => ?_)
        have hc := keep_at hc hk
        refine lv_aload_n hx hb dX13_ways_157 rfl (lv_at hl 0 rfl) ?_
        refine b_get hM hW 11 32 hc rfl rfl (by decide) wi_X13 (wgm fk_RX13_141) (x := .ref (a + 21)) rfl dX13_ways_158 ?_
        refine lv_iload_n hx hb dX13_ways_161 rfl (lv_at hl 3 rfl) ?_
        refine lv_dup2_11 hx hb dX13_ways_162 rfl rfl ?_
        obtain ⟨h15, hf⟩ := ck_elim hf
        refine b_iald (n := 5) hM hW 11 32 hc (by decide) rfl rfl rfl rfl h15 dX13_ways_163 ?_
        refine lv_iconst (v := (1 : Int32)) hx hb dX13_ways_164 (by decide) ?_
        refine lv_isub hx hb dX13_ways_165 ?_
        refine lv_topi (fun y16 ey16 => ?_)
        have hf := nm_at ey16 hf
        obtain ⟨h17, hf⟩ := ck_elim hf
        refine b_iast (n := 5) hM hW 11 32 hc (by decide) rfl rfl rfl rfl h17 dX13_ways_166 (fun v18 ev18 hc H locs hW => ?_)
        have hf := nm_at ev18 hf
        exact t_X13_ways_167 (fu := fu) hM hml hr hlk hrec hc0 hk105 hf hc _ _ hW _ (lv_sub hl [0, 1, 2, 3] rfl)
theorem t_X13_ways_105 {G : GG} {p : Program} {l : Launch} {e : Env} {s : State} {m : MethodId} {args : Array Value} {below : List Frame} {meth : Method} {c : Code} {S : ST} {fu : Nat} {z : GV} {a : Nat} {v0 : GV} {d : Nat} {rec : GV → Int32 → Option (GV)}  {x1 : Int32} {x2 : Int32} (hM : MC G p s m args c cX13_ways w_X13_ways RX13) (hml : c.maxLocals = 4) (hr : meth.sig.returnType = none) (hlk : meth.locks = false) (hrec : ∀ (S : ST) (v : GV) (x1 : Int32) (z : GV), gC v = 12 → rec v x1 = some z → Ct l yX13_ways w_X13_ways (RM_X13_ways d) G (st S a v) [.ref a, .int x1] none (st S a z) 0 0) (hc0 : gC v0 = 12)  : ∀ {n : Nat} (x3 : Int32) (v : GV), f_X13_ways_105 fu n rec  x1 x2 x3 v = some z → gC v = 12 → ∀ (H : Heap) (locs : List Loc), WB G (st S a v) s H locs → ∀ (ls : Array Slot), lv_has ls 4 [(0, .ref a), (1, .int x1), (2, .int x2), (3, .int x3)] → W p l e (RM_X13_ways (d + 1)) s m args below meth c H locs 0 0 (QR G below args s none (st S a v0) (st S a z)) (F0 m 105 ls []) := by
  intro n
  induction n with
  | zero => intro x3 v hf; cases hf
  | succ n ih => intro x3 v hf; exact t_X13_ways_105s (fu := fu) hM hml hr hlk hrec hc0  (k105 := f_X13_ways_105 fu n rec  x1 x2) ih _ _ hf
noncomputable def f_X13_ways_44 (fu : Nat) (rec : GV → Int32 → Option (GV)) (k12 : Int32 → GV → Option (GV)) (v : GV) (x1 : Int32) (x2 : Int32) (t1 : Int32) (t2 : Int32) : Option (GV) :=
  ck (inb t1 8) <|
  nm (sA v 34 t1.toNatClampNeg t2) fun v2 =>
  ck (inb x2 8) <|
  ck (inb x2 8) <|
  nm (((gA v2 35 x2.toNatClampNeg) ||| ((1 : Int32) <<< ((gA v2 33 x2.toNatClampNeg) &&& 31)))) fun y5 =>
  ck (inb x2 8) <|
  nm (sA v2 35 x2.toNatClampNeg y5) fun v7 =>
  nm (x2 + (1 : Int32)) fun y8 =>
  k12 y8 v7
set_option maxHeartbeats 4000000 in
set_option maxRecDepth 100000 in
theorem t_X13_ways_44 {G : GG} {p : Program} {l : Launch} {e : Env} {s : State} {m : MethodId} {args : Array Value} {below : List Frame} {meth : Method} {c : Code} {S : ST} {fu : Nat} {z : GV} {a : Nat} {v0 : GV} {d : Nat} {rec : GV → Int32 → Option (GV)} {k12 : Int32 → GV → Option (GV)} {v : GV} {x1 : Int32} {x2 : Int32} {t1 : Int32} {t2 : Int32} (hM : MC G p s m args c cX13_ways w_X13_ways RX13) (hml : c.maxLocals = 4) (hr : meth.sig.returnType = none) (hlk : meth.locks = false) (hrec : ∀ (S : ST) (v : GV) (x1 : Int32) (z : GV), gC v = 12 → rec v x1 = some z → Ct l yX13_ways w_X13_ways (RM_X13_ways d) G (st S a v) [.ref a, .int x1] none (st S a z) 0 0) (hc0 : gC v0 = 12) (hk12 : ∀ (x2 : Int32) (v : GV), k12 x2 v = some z → gC v = 12 → ∀ (H : Heap) (locs : List Loc), WB G (st S a v) s H locs → ∀ (ls : Array Slot), lv_has ls 4 [(0, .ref a), (1, .int x1), (2, .int x2)] → W p l e (RM_X13_ways (d + 1)) s m args below meth c H locs 0 0 (QR G below args s none (st S a v0) (st S a z)) (F0 m 12 ls [])) (hf : f_X13_ways_44 fu rec k12 v x1 x2 t1 t2 = some z) : gC v = 12 → ∀ (H : Heap) (locs : List Loc), WB G (st S a v) s H locs → ∀ (ls : Array Slot), lv_has ls 4 [(0, .ref a), (1, .int x1), (2, .int x2)] → W p l e (RM_X13_ways (d + 1)) s m args below meth c H locs 0 0 (QR G below args s none (st S a v0) (st S a z)) (F0 m 44 ls [.int t2, .int t1, .ref (a + 23)]) := by
  intro hc H locs hW ls hl
  have hx := hM.1
  have hb := hM.2.1
  obtain ⟨h1, hf⟩ := ck_elim hf
  refine b_iast (n := 8) hM hW 11 34 hc (by decide) rfl rfl rfl rfl h1 dX13_ways_44 (fun v2 ev2 hc H locs hW => ?_)
  have hf := nm_at ev2 hf
  refine lv_aload_n hx hb dX13_ways_45 rfl (lv_at hl 0 rfl) ?_
  refine b_get hM hW 11 35 hc rfl rfl (by decide) wi_X13 (wgm fk_RX13_150) (x := .ref (a + 24)) rfl dX13_ways_46 ?_
  refine lv_iload_n hx hb dX13_ways_49 rfl (lv_at hl 2 rfl) ?_
  refine lv_dup2_11 hx hb dX13_ways_50 rfl rfl ?_
  obtain ⟨h3, hf⟩ := ck_elim hf
  refine b_iald (n := 8) hM hW 11 35 hc (by decide) rfl rfl rfl rfl h3 dX13_ways_51 ?_
  refine lv_iconst (v := (1 : Int32)) hx hb dX13_ways_52 (by decide) ?_
  refine lv_aload_n hx hb dX13_ways_53 rfl (lv_at hl 0 rfl) ?_
  refine b_get hM hW 11 33 hc rfl rfl (by decide) wi_X13 (wgm fk_RX13_144) (x := .ref (a + 22)) rfl dX13_ways_54 ?_
  refine lv_iload_n hx hb dX13_ways_57 rfl (lv_at hl 2 rfl) ?_
  obtain ⟨h4, hf⟩ := ck_elim hf
  refine b_iald (n := 8) hM hW 11 33 hc (by decide) rfl rfl rfl rfl h4 dX13_ways_58 ?_
  refine lv_ishl hx hb dX13_ways_59 ?_
  refine lv_ior hx hb dX13_ways_60 ?_
  refine lv_topi (fun y5 ey5 => ?_)
  have hf := nm_at ey5 hf
  obtain ⟨h6, hf⟩ := ck_elim hf
  refine b_iast (n := 8) hM hW 11 35 hc (by decide) rfl rfl rfl rfl h6 dX13_ways_61 (fun v7 ev7 hc H locs hW => ?_)
  have hf := nm_at ev7 hf
  obtain ⟨y8, ey8⟩ : ∃ y : Int32, y = x2 + (1 : Int32) := ⟨_, rfl⟩
  have hf := nm_at ey8 hf
  refine lv_iinc (v := y8) (lv' := [(2, .int y8), (0, .ref a), (1, .int x1)]) hx hb dX13_ways_62 hl (k := 2) rfl (by rw [ey8]; rfl) (by decide) rfl (fun ls hl => ?_)
  refine lv_goto (tgt := 12) hx hb dX13_ways_65 (by decide) ?_
  exact hk12 _ _ hf hc _ _ hW _ (lv_sub hl [1, 2, 0] rfl)
noncomputable def f_X13_ways_12s (fu : Nat) (rec : GV → Int32 → Option (GV))  (k12 : Int32 → GV → Option (GV)) (x1 : Int32) (x2 : Int32) (v : GV) : Option (GV) :=
  if x1 ≤ x2 then
    (nm (sI v 36 ((gI v 36) + (1 : Int32))) fun v2 =>
    some v2)
  else
    (if (gI v 36) = 0 then
      (ck (inb x2 8) <|
      f_X13_ways_44 fu rec k12 v x1 x2 x2 (gA v 33 x2.toNatClampNeg))
    else
      (ck (inb x2 8) <|
      f_X13_ways_44 fu rec k12 v x1 x2 x2 (gA v 34 x2.toNatClampNeg)))
noncomputable def f_X13_ways_12 (fu n : Nat) (rec : GV → Int32 → Option (GV))  (x1 : Int32) : Int32 → GV → Option (GV) :=
  lq_2 (fun k12 => f_X13_ways_12s fu rec  k12 x1) n
set_option maxHeartbeats 4000000 in
set_option maxRecDepth 100000 in
theorem t_X13_ways_12s {G : GG} {p : Program} {l : Launch} {e : Env} {s : State} {m : MethodId} {args : Array Value} {below : List Frame} {meth : Method} {c : Code} {S : ST} {fu : Nat} {z : GV} {a : Nat} {v0 : GV} {d : Nat} {rec : GV → Int32 → Option (GV)}  (hM : MC G p s m args c cX13_ways w_X13_ways RX13) (hml : c.maxLocals = 4) (hr : meth.sig.returnType = none) (hlk : meth.locks = false) (hrec : ∀ (S : ST) (v : GV) (x1 : Int32) (z : GV), gC v = 12 → rec v x1 = some z → Ct l yX13_ways w_X13_ways (RM_X13_ways d) G (st S a v) [.ref a, .int x1] none (st S a z) 0 0) (hc0 : gC v0 = 12) {k12 : Int32 → GV → Option (GV)} {x1 : Int32}  (hk12 : ∀ (x2 : Int32) (v : GV), k12 x2 v = some z → gC v = 12 → ∀ (H : Heap) (locs : List Loc), WB G (st S a v) s H locs → ∀ (ls : Array Slot), lv_has ls 4 [(0, .ref a), (1, .int x1), (2, .int x2)] → W p l e (RM_X13_ways (d + 1)) s m args below meth c H locs 0 0 (QR G below args s none (st S a v0) (st S a z)) (F0 m 12 ls [])) : ∀ (x2 : Int32) (v : GV), f_X13_ways_12s fu rec  k12 x1 x2 v = some z → gC v = 12 → ∀ (H : Heap) (locs : List Loc), WB G (st S a v) s H locs → ∀ (ls : Array Slot), lv_has ls 4 [(0, .ref a), (1, .int x1), (2, .int x2)] → W p l e (RM_X13_ways (d + 1)) s m args below meth c H locs 0 0 (QR G below args s none (st S a v0) (st S a z)) (F0 m 12 ls []) := by
  intro x2 v hf hc H locs hW ls hl
  have hx := hM.1
  have hb := hM.2.1
  refine lv_iload_n hx hb dX13_ways_12 rfl (lv_at hl 2 rfl) ?_
  refine lv_iload_n hx hb dX13_ways_13 rfl (lv_at hl 1 rfl) ?_
  refine lv_icmp_ge (tgt := 68) hx hb dX13_ways_14 (by decide) (fun c1 => ?_) (fun c1 => ?_)
  · have hf := if_t c1 hf
    refine lv_aload_n hx hb dX13_ways_68 rfl (lv_at hl 0 rfl) ?_
    refine lv_dup hx hb dX13_ways_69 rfl ?_
    refine b_get hM hW 11 36 hc rfl rfl (by decide) wi_X13 (wgm fk_RX13_427) (x := .int (gI v 36)) rfl dX13_ways_70 ?_
    refine lv_iconst (v := (1 : Int32)) hx hb dX13_ways_73 (by decide) ?_
    refine lv_iadd hx hb dX13_ways_74 ?_
    refine b_putI hM hW 11 36 hc rfl rfl (by decide) wi_X13 tyX13 tyX13_ok nmX13 (wgm fk_RX13_427) rfl rfl rfl dX13_ways_75 (fun v2 ev2 hc H locs hW => ?_)
    have hf := nm_at ev2 hf
    cases hf
    exact W.vret hx hb hr (b_ret0 hW (keep_s2 hc0 hc) _) hW.2.2.2 dX13_ways_78 hlk
  · have hf := if_f c1 hf
    refine lv_aload_n hx hb dX13_ways_17 rfl (lv_at hl 0 rfl) ?_
    refine b_get hM hW 11 34 hc rfl rfl (by decide) wi_X13 (wgm fk_RX13_147) (x := .ref (a + 23)) rfl dX13_ways_18 ?_
    refine lv_iload_n hx hb dX13_ways_21 rfl (lv_at hl 2 rfl) ?_
    refine lv_aload_n hx hb dX13_ways_22 rfl (lv_at hl 0 rfl) ?_
    refine b_get hM hW 11 36 hc rfl rfl (by decide) wi_X13 (wgm fk_RX13_427) (x := .int (gI v 36)) rfl dX13_ways_23 ?_
    refine lv_if_ne (tgt := 38) hx hb dX13_ways_26 (by decide) (fun c3 => ?_) (fun c3 => ?_)
    · have hf := if_f c3 hf
      refine lv_aload_n hx hb dX13_ways_38 rfl (lv_at hl 0 rfl) ?_
      refine b_get hM hW 11 34 hc rfl rfl (by decide) wi_X13 (wgm fk_RX13_147) (x := .ref (a + 23)) rfl dX13_ways_39 ?_
      refine lv_iload_n hx hb dX13_ways_42 rfl (lv_at hl 2 rfl) ?_
      obtain ⟨h4, hf⟩ := ck_elim hf
      refine b_iald (n := 8) hM hW 11 34 hc (by decide) rfl rfl rfl rfl h4 dX13_ways_43 ?_
      exact t_X13_ways_44 (fu := fu) hM hml hr hlk hrec hc0 hk12 hf hc _ _ hW _ (lv_sub hl [0, 1, 2] rfl)
    · have hf := if_t c3 hf
      refine lv_aload_n hx hb dX13_ways_29 rfl (lv_at hl 0 rfl) ?_
      refine b_get hM hW 11 33 hc rfl rfl (by decide) wi_X13 (wgm fk_RX13_144) (x := .ref (a + 22)) rfl dX13_ways_30 ?_
      refine lv_iload_n hx hb dX13_ways_33 rfl (lv_at hl 2 rfl) ?_
      obtain ⟨h5, hf⟩ := ck_elim hf
      refine b_iald (n := 8) hM hW 11 33 hc (by decide) rfl rfl rfl rfl h5 dX13_ways_34 ?_
      refine lv_goto (tgt := 44) hx hb dX13_ways_35 (by decide) ?_
      exact t_X13_ways_44 (fu := fu) hM hml hr hlk hrec hc0 hk12 hf hc _ _ hW _ (lv_sub hl [0, 1, 2] rfl)
theorem t_X13_ways_12 {G : GG} {p : Program} {l : Launch} {e : Env} {s : State} {m : MethodId} {args : Array Value} {below : List Frame} {meth : Method} {c : Code} {S : ST} {fu : Nat} {z : GV} {a : Nat} {v0 : GV} {d : Nat} {rec : GV → Int32 → Option (GV)}  {x1 : Int32} (hM : MC G p s m args c cX13_ways w_X13_ways RX13) (hml : c.maxLocals = 4) (hr : meth.sig.returnType = none) (hlk : meth.locks = false) (hrec : ∀ (S : ST) (v : GV) (x1 : Int32) (z : GV), gC v = 12 → rec v x1 = some z → Ct l yX13_ways w_X13_ways (RM_X13_ways d) G (st S a v) [.ref a, .int x1] none (st S a z) 0 0) (hc0 : gC v0 = 12)  : ∀ {n : Nat} (x2 : Int32) (v : GV), f_X13_ways_12 fu n rec  x1 x2 v = some z → gC v = 12 → ∀ (H : Heap) (locs : List Loc), WB G (st S a v) s H locs → ∀ (ls : Array Slot), lv_has ls 4 [(0, .ref a), (1, .int x1), (2, .int x2)] → W p l e (RM_X13_ways (d + 1)) s m args below meth c H locs 0 0 (QR G below args s none (st S a v0) (st S a z)) (F0 m 12 ls []) := by
  intro n
  induction n with
  | zero => intro x2 v hf; cases hf
  | succ n ih => intro x2 v hf; exact t_X13_ways_12s (fu := fu) hM hml hr hlk hrec hc0  (k12 := f_X13_ways_12 fu n rec  x1) ih _ _ hf
noncomputable def f_X13_ways_0 (fu : Nat) (rec : GV → Int32 → Option (GV))  (v : GV) (x1 : Int32) : Option (GV) :=
  if x1 = (gA v 24 (2 : Int32).toNatClampNeg) then
    (f_X13_ways_12 fu fu rec x1 (1 : Int32) v)
  else
    (nm (((27 : Int32) + x1)) fun y2 =>
    ck (inb y2 1518) <|
    nm (((35 : Int32) + x1)) fun y4 =>
    ck (inb y4 1518) <|
    bd2 (f_X13_hardOf fu v (0 : Int32) (gA v 24 y2.toNatClampNeg) (gA v 24 y4.toNatClampNeg)) fun r6 v7 =>
    f_X13_ways_105 fu fu rec x1 r6 (0 : Int32) v7)
set_option maxHeartbeats 4000000 in
set_option maxRecDepth 100000 in
theorem t_X13_ways_0 {G : GG} {p : Program} {l : Launch} {e : Env} {s : State} {m : MethodId} {args : Array Value} {below : List Frame} {meth : Method} {c : Code} {S : ST} {fu : Nat} {z : GV} {a : Nat} {v0 : GV} {d : Nat} {rec : GV → Int32 → Option (GV)}  {v : GV} {x1 : Int32} (hM : MC G p s m args c cX13_ways w_X13_ways RX13) (hml : c.maxLocals = 4) (hr : meth.sig.returnType = none) (hlk : meth.locks = false) (hrec : ∀ (S : ST) (v : GV) (x1 : Int32) (z : GV), gC v = 12 → rec v x1 = some z → Ct l yX13_ways w_X13_ways (RM_X13_ways d) G (st S a v) [.ref a, .int x1] none (st S a z) 0 0) (hc0 : gC v0 = 12)  (hf : f_X13_ways_0 fu rec  v x1 = some z) : gC v = 12 → ∀ (H : Heap) (locs : List Loc), WB G (st S a v) s H locs → ∀ (ls : Array Slot), lv_has ls 4 [(0, .ref a), (1, .int x1)] → W p l e (RM_X13_ways (d + 1)) s m args below meth c H locs 0 0 (QR G below args s none (st S a v0) (st S a z)) (F0 m 0 ls []) := by
  intro hc H locs hW ls hl
  have hx := hM.1
  have hb := hM.2.1
  refine lv_iload_n hx hb dX13_ways_0 rfl (lv_at hl 1 rfl) ?_
  refine lv_aload_n hx hb dX13_ways_1 rfl (lv_at hl 0 rfl) ?_
  refine b_get hM hW 11 24 hc rfl rfl (by decide) wi_X13 (wgm fk_RX13_125) (x := .ref (a + 16)) rfl dX13_ways_2 ?_
  refine lv_iconst (v := (2 : Int32)) hx hb dX13_ways_5 (by decide) ?_
  refine b_iald (n := 1518) hM hW 11 24 hc (by decide) rfl rfl rfl rfl (by decide) dX13_ways_6 ?_
  refine lv_icmp_ne (tgt := 79) hx hb dX13_ways_7 (by decide) (fun c1 => ?_) (fun c1 => ?_)
  · have hf := if_f c1 hf
    refine lv_aload_n hx hb dX13_ways_79 rfl (lv_at hl 0 rfl) ?_
    refine lv_iconst (v := (0 : Int32)) hx hb dX13_ways_80 (by decide) ?_
    refine lv_aload_n hx hb dX13_ways_81 rfl (lv_at hl 0 rfl) ?_
    refine b_get hM hW 11 24 hc rfl rfl (by decide) wi_X13 (wgm fk_RX13_125) (x := .ref (a + 16)) rfl dX13_ways_82 ?_
    refine lv_bipush (v := (27 : Int32)) hx hb dX13_ways_85 (by decide) ?_
    refine lv_iload_n hx hb dX13_ways_87 rfl (lv_at hl 1 rfl) ?_
    refine lv_iadd hx hb dX13_ways_88 ?_
    refine lv_topi (fun y2 ey2 => ?_)
    have hf := nm_at ey2 hf
    obtain ⟨h3, hf⟩ := ck_elim hf
    refine b_iald (n := 1518) hM hW 11 24 hc (by decide) rfl rfl rfl rfl h3 dX13_ways_89 ?_
    refine lv_aload_n hx hb dX13_ways_90 rfl (lv_at hl 0 rfl) ?_
    refine b_get hM hW 11 24 hc rfl rfl (by decide) wi_X13 (wgm fk_RX13_125) (x := .ref (a + 16)) rfl dX13_ways_91 ?_
    refine lv_bipush (v := (35 : Int32)) hx hb dX13_ways_94 (by decide) ?_
    refine lv_iload_n hx hb dX13_ways_96 rfl (lv_at hl 1 rfl) ?_
    refine lv_iadd hx hb dX13_ways_97 ?_
    refine lv_topi (fun y4 ey4 => ?_)
    have hf := nm_at ey4 hf
    obtain ⟨h5, hf⟩ := ck_elim hf
    refine b_iald (n := 1518) hM hW 11 24 hc (by decide) rfl rfl rfl rfl h5 dX13_ways_98 ?_
    obtain ⟨r6, v7, hr6, hf⟩ := bd2_elim hf
    refine b_callVi [.int (0 : Int32), .int (gA v 24 y2.toNatClampNeg), .int (gA v 24 y4.toNatClampNeg)] [] hM hml hl.1 hW hc rfl (by decide) (c_X13_hardOf l G fu _ a v _ _ _ hc hr6) (cwV 3 hM.2.2.2.1 (gV mk_RX13_376 im_X13_hardOf se_X13_hardOf it_RX13 cd_X13_hardOf) rfl rfl rfl (by decide +kernel) ⟨by show 2 + 1 ≤ 1 * (d + 1) + 3; omega, by show 8 + (4 + 11) + 46 ≤ 23 * (d + 1) + 69; omega⟩) rfl rfl (Nat.le_of_ble_eq_true rfl) ⟨Nat.zero_le _, Nat.zero_le _⟩ dX13_ways_99 (fun H locs hW hk => ?_)
    have hc := keep_at hc hk
    refine lv_istore_n (lv' := [(2, .int r6), (0, .ref a), (1, .int x1)]) hx hb dX13_ways_102 rfl hl (by decide) rfl (fun ls hl => ?_)
    refine lv_iconst (v := (0 : Int32)) hx hb dX13_ways_103 (by decide) ?_
    refine lv_istore_n (lv' := [(3, .int (0 : Int32)), (2, .int r6), (0, .ref a), (1, .int x1)]) hx hb dX13_ways_104 rfl hl (by decide) rfl (fun ls hl => ?_)
    exact t_X13_ways_105 (fu := fu) hM hml hr hlk hrec hc0 _ _ hf hc _ _ hW _ (lv_sub hl [2, 3, 1, 0] rfl)
  · have hf := if_t c1 hf
    refine lv_iconst (v := (1 : Int32)) hx hb dX13_ways_10 (by decide) ?_
    refine lv_istore_n (lv' := [(2, .int (1 : Int32)), (0, .ref a), (1, .int x1)]) hx hb dX13_ways_11 rfl hl (by decide) rfl (fun ls hl => ?_)
    exact t_X13_ways_12 (fu := fu) hM hml hr hlk hrec hc0 _ _ hf hc _ _ hW _ (lv_sub hl [1, 2, 0] rfl)
noncomputable def f_X13_ways (fu : Nat) (rec : GV → Int32 → Option (GV)) (v : GV) (x1 : Int32) : Option (GV) := f_X13_ways_0 fu rec v x1
set_option maxHeartbeats 4000000 in
set_option maxRecDepth 100000 in
theorem c_X13_ways (l : Launch) (G : GG) (fu : Nat) {a d : Nat} {rec : GV → Int32 → Option (GV)} (hrec : ∀ (S : ST) (v : GV) (x1 : Int32) (z : GV), gC v = 12 → rec v x1 = some z → Ct l yX13_ways w_X13_ways (RM_X13_ways d) G (st S a v) [.ref a, .int x1] none (st S a z) 0 0) (S : ST) (v : GV) (x1 : Int32) {z : GV} (hc : gC v = 12) (hf : f_X13_ways fu rec v x1 = some z) : Ct l yX13_ways w_X13_ways (RM_X13_ways (d + 1)) G (st S a v) [.ref a, .int x1] none (st S a z) 0 0 := by
  refine Met.ofW (cc := cX13_ways) (maxL := 4) (ret := none) (by decide) rfl ?_
  intro p e s m args below meth c s₁ B hml hv
  obtain ⟨rfl, hB, hK, hz⟩ := hv
  have hM : MC G p s m _ c cX13_ways w_X13_ways RX13 := ⟨B.exec, B.bytes, findClass_of_methodNamed B.named, atoms_spec (ws := w_X13_ways) B.pre, hK, hz⟩
  have hW : WB G (st S a v) s s.heap [] := ⟨hB, va_S.rf⟩
  have hl := lv_entry ([.ref a, .int x1]) (n := 4) (Nat.le_of_ble_eq_true rfl)
  rw [lg_entry_eq]
  generalize (lg_sl ([.ref a, .int x1]) ++ List.replicate (4 - (lg_sl ([.ref a, .int x1])).length) Slot.unset).toArray = ls at hl ⊢
  have hl : lv_has ls 4 [(0, .ref a), (1, .int x1)] := hl
  exact t_X13_ways_0 hM hml B.returns B.notSynchronized hrec hc hf hc _ _ hW _ (lv_sub hl [0, 1] rfl)
noncomputable def f_X13_waysD (fu d : Nat) : GV → Int32 → Option (GV) := Nat.rec (fun _ _ => none) (fun _ ih => f_X13_ways fu ih) d
theorem c_X13_waysD (l : Launch) (G : GG) (fu d : Nat) : ∀ (S : ST) (a : Nat) (v : GV) (x1 : Int32) (z : GV), gC v = 12 → f_X13_waysD fu d v x1 = some z → Ct l yX13_ways w_X13_ways (RM_X13_ways d) G (st S a v) [.ref a, .int x1] none (st S a z) 0 0 := by
  induction d with
  | zero => intro S a v _ _ hc hf; cases hf
  | succ d ih => intro S a v _ _ hc hf; exact c_X13_ways l G fu (fun S => ih S a) S v _ hc hf
abbrev w_X13_findWays : List Cond := Cond.code yX13_findWays cX13_findWays 2 none :: wsL_law0
abbrev RM_X13_findWays : Room := { frames := 12, cells := 0, slots := 0, locals := 276 }
noncomputable def f_X13_findWays_7s (fu : Nat)  (k7 : Int32 → GV → Option (GV)) (x1 : Int32) (v : GV) : Option (GV) :=
  if (8 : Int32) ≤ x1 then
    (bd (f_X13_waysD fu 8 v (1 : Int32)) fun v3 =>
    some v3)
  else
    (ck (inb x1 8) <|
    nm (sA v 35 x1.toNatClampNeg (0 : Int32)) fun v5 =>
    nm (x1 + (1 : Int32)) fun y6 =>
    k7 y6 v5)
noncomputable def f_X13_findWays_7 (fu n : Nat)  : Int32 → GV → Option (GV) :=
  lq_2 (fun k7 => f_X13_findWays_7s fu  k7 ) n
set_option maxHeartbeats 4000000 in
set_option maxRecDepth 100000 in
theorem t_X13_findWays_7s {G : GG} {p : Program} {l : Launch} {e : Env} {s : State} {m : MethodId} {args : Array Value} {below : List Frame} {meth : Method} {c : Code} {S : ST} {fu : Nat} {z : GV} {a : Nat} {v0 : GV}  (hM : MC G p s m args c cX13_findWays w_X13_findWays RX13) (hml : c.maxLocals = 2) (hr : meth.sig.returnType = none) (hlk : meth.locks = false) (hc0 : gC v0 = 12) {k7 : Int32 → GV → Option (GV)}  (hk7 : ∀ (x1 : Int32) (v : GV), k7 x1 v = some z → gC v = 12 → ∀ (H : Heap) (locs : List Loc), WB G (st S a v) s H locs → ∀ (ls : Array Slot), lv_has ls 2 [(0, .ref a), (1, .int x1)] → W p l e RM_X13_findWays s m args below meth c H locs 0 0 (QR G below args s none (st S a v0) (st S a z)) (F0 m 7 ls [])) : ∀ (x1 : Int32) (v : GV), f_X13_findWays_7s fu  k7  x1 v = some z → gC v = 12 → ∀ (H : Heap) (locs : List Loc), WB G (st S a v) s H locs → ∀ (ls : Array Slot), lv_has ls 2 [(0, .ref a), (1, .int x1)] → W p l e RM_X13_findWays s m args below meth c H locs 0 0 (QR G below args s none (st S a v0) (st S a z)) (F0 m 7 ls []) := by
  intro x1 v hf hc H locs hW ls hl
  have hx := hM.1
  have hb := hM.2.1
  refine lv_iload_n hx hb dX13_findWays_7 rfl (lv_at hl 1 rfl) ?_
  refine lv_bipush (v := (8 : Int32)) hx hb dX13_findWays_8 (by decide) ?_
  refine lv_icmp_ge (tgt := 26) hx hb dX13_findWays_10 (by decide) (fun c1 => ?_) (fun c1 => ?_)
  · have hf := if_t c1 hf
    refine lv_aload_n hx hb dX13_findWays_26 rfl (lv_at hl 0 rfl) ?_
    refine lv_iconst (v := (1 : Int32)) hx hb dX13_findWays_27 (by decide) ?_
    obtain ⟨v3, hr2, hf⟩ := bd_elim hf
    refine b_callVv [.int (1 : Int32)] [] hM hml hl.1 hW hc rfl (by decide) (c_X13_waysD l G fu 8 _ a v _ _ hc hr2) (cwV 1 hM.2.2.2.1 (gV mk_RX13_430 im_X13_ways se_X13_ways it_RX13 cd_X13_ways) rfl rfl rfl (by decide +kernel) ⟨Nat.le_of_ble_eq_true rfl, Nat.le_of_ble_eq_true rfl⟩) rfl rfl (Nat.le_of_ble_eq_true rfl) ⟨Nat.zero_le _, Nat.zero_le _⟩ dX13_findWays_28 (fun H locs hW hk => ?_)
    have hc := keep_at hc hk
    cases hf
    exact W.vret hx hb hr (b_ret0 hW (keep_s2 hc0 hc) _) hW.2.2.2 dX13_findWays_31 hlk
  · have hf := if_f c1 hf
    refine lv_aload_n hx hb dX13_findWays_13 rfl (lv_at hl 0 rfl) ?_
    refine b_get hM hW 11 35 hc rfl rfl (by decide) wi_X13 (wgm fk_RX13_150) (x := .ref (a + 24)) rfl dX13_findWays_14 ?_
    refine lv_iload_n hx hb dX13_findWays_17 rfl (lv_at hl 1 rfl) ?_
    refine lv_iconst (v := (0 : Int32)) hx hb dX13_findWays_18 (by decide) ?_
    obtain ⟨h4, hf⟩ := ck_elim hf
    refine b_iast (n := 8) hM hW 11 35 hc (by decide) rfl rfl rfl rfl h4 dX13_findWays_19 (fun v5 ev5 hc H locs hW => ?_)
    have hf := nm_at ev5 hf
    obtain ⟨y6, ey6⟩ : ∃ y : Int32, y = x1 + (1 : Int32) := ⟨_, rfl⟩
    have hf := nm_at ey6 hf
    refine lv_iinc (v := y6) (lv' := [(1, .int y6), (0, .ref a)]) hx hb dX13_findWays_20 hl (k := 1) rfl (by rw [ey6]; rfl) (by decide) rfl (fun ls hl => ?_)
    refine lv_goto (tgt := 7) hx hb dX13_findWays_23 (by decide) ?_
    exact hk7 _ _ hf hc _ _ hW _ (lv_sub hl [1, 0] rfl)
theorem t_X13_findWays_7 {G : GG} {p : Program} {l : Launch} {e : Env} {s : State} {m : MethodId} {args : Array Value} {below : List Frame} {meth : Method} {c : Code} {S : ST} {fu : Nat} {z : GV} {a : Nat} {v0 : GV}  (hM : MC G p s m args c cX13_findWays w_X13_findWays RX13) (hml : c.maxLocals = 2) (hr : meth.sig.returnType = none) (hlk : meth.locks = false) (hc0 : gC v0 = 12)  : ∀ {n : Nat} (x1 : Int32) (v : GV), f_X13_findWays_7 fu n   x1 v = some z → gC v = 12 → ∀ (H : Heap) (locs : List Loc), WB G (st S a v) s H locs → ∀ (ls : Array Slot), lv_has ls 2 [(0, .ref a), (1, .int x1)] → W p l e RM_X13_findWays s m args below meth c H locs 0 0 (QR G below args s none (st S a v0) (st S a z)) (F0 m 7 ls []) := by
  intro n
  induction n with
  | zero => intro x1 v hf; cases hf
  | succ n ih => intro x1 v hf; exact t_X13_findWays_7s (fu := fu) hM hml hr hlk hc0  (k7 := f_X13_findWays_7 fu n  ) ih _ _ hf
noncomputable def f_X13_findWays_0 (fu : Nat)  (v : GV) : Option (GV) :=
  nm (sI v 36 (0 : Int32)) fun v1 =>
  f_X13_findWays_7 fu fu (0 : Int32) v1
set_option maxHeartbeats 4000000 in
set_option maxRecDepth 100000 in
theorem t_X13_findWays_0 {G : GG} {p : Program} {l : Launch} {e : Env} {s : State} {m : MethodId} {args : Array Value} {below : List Frame} {meth : Method} {c : Code} {S : ST} {fu : Nat} {z : GV} {a : Nat} {v0 : GV}  {v : GV} (hM : MC G p s m args c cX13_findWays w_X13_findWays RX13) (hml : c.maxLocals = 2) (hr : meth.sig.returnType = none) (hlk : meth.locks = false) (hc0 : gC v0 = 12)  (hf : f_X13_findWays_0 fu  v  = some z) : gC v = 12 → ∀ (H : Heap) (locs : List Loc), WB G (st S a v) s H locs → ∀ (ls : Array Slot), lv_has ls 2 [(0, .ref a)] → W p l e RM_X13_findWays s m args below meth c H locs 0 0 (QR G below args s none (st S a v0) (st S a z)) (F0 m 0 ls []) := by
  intro hc H locs hW ls hl
  have hx := hM.1
  have hb := hM.2.1
  refine lv_aload_n hx hb dX13_findWays_0 rfl (lv_at hl 0 rfl) ?_
  refine lv_iconst (v := (0 : Int32)) hx hb dX13_findWays_1 (by decide) ?_
  refine b_putI hM hW 11 36 hc rfl rfl (by decide) wi_X13 tyX13 tyX13_ok nmX13 (wgm fk_RX13_427) rfl rfl rfl dX13_findWays_2 (fun v1 ev1 hc H locs hW => ?_)
  have hf := nm_at ev1 hf
  refine lv_iconst (v := (0 : Int32)) hx hb dX13_findWays_5 (by decide) ?_
  refine lv_istore_n (lv' := [(1, .int (0 : Int32)), (0, .ref a)]) hx hb dX13_findWays_6 rfl hl (by decide) rfl (fun ls hl => ?_)
  exact t_X13_findWays_7 (fu := fu) hM hml hr hlk hc0 _ _ hf hc _ _ hW _ (lv_sub hl [1, 0] rfl)
noncomputable def f_X13_findWays (fu : Nat) (v : GV) : Option (GV) := f_X13_findWays_0 fu v
set_option maxHeartbeats 4000000 in
set_option maxRecDepth 100000 in
theorem c_X13_findWays (l : Launch) (G : GG) (fu : Nat) (S : ST) (a : Nat) (v : GV) {z : GV} (hc : gC v = 12) (hf : f_X13_findWays fu v = some z) : Ct l yX13_findWays w_X13_findWays RM_X13_findWays G (st S a v) [.ref a] none (st S a z) 0 0 := by
  refine Met.ofW (cc := cX13_findWays) (maxL := 2) (ret := none) (by decide) rfl ?_
  intro p e s m args below meth c s₁ B hml hv
  obtain ⟨rfl, hB, hK, hz⟩ := hv
  have hM : MC G p s m _ c cX13_findWays w_X13_findWays RX13 := ⟨B.exec, B.bytes, findClass_of_methodNamed B.named, atoms_spec (ws := w_X13_findWays) B.pre, hK, hz⟩
  have hW : WB G (st S a v) s s.heap [] := ⟨hB, va_S.rf⟩
  have hl := lv_entry ([.ref a]) (n := 2) (Nat.le_of_ble_eq_true rfl)
  rw [lg_entry_eq]
  generalize (lg_sl ([.ref a]) ++ List.replicate (2 - (lg_sl ([.ref a])).length) Slot.unset).toArray = ls at hl ⊢
  have hl : lv_has ls 2 [(0, .ref a)] := hl
  exact t_X13_findWays_0 hM hml B.returns B.notSynchronized hc hf hc _ _ hW _ (lv_sub hl [0] rfl)
abbrev w_X13_painters : List Cond := Cond.code yX13_painters cX13_painters 1 (some .int) :: wsL_law0
abbrev RM_X13_painters : Room := { frames := 13, cells := 0, slots := 0, locals := 297 }
noncomputable def f_X13_painters_0 (fu : Nat)  (v : GV) : Option (Int32 × GV) :=
  nm (sI v 0 (0 : Int32)) fun v1 =>
  bd (f_X13_findWays fu v1) fun v3 =>
  some ((gI v3 36), v3)
set_option maxHeartbeats 4000000 in
set_option maxRecDepth 100000 in
theorem t_X13_painters_0 {G : GG} {p : Program} {l : Launch} {e : Env} {s : State} {m : MethodId} {args : Array Value} {below : List Frame} {meth : Method} {c : Code} {S : ST} {fu : Nat} {z : Int32 × GV} {a : Nat} {v0 : GV}  {v : GV} (hM : MC G p s m args c cX13_painters w_X13_painters RX13) (hml : c.maxLocals = 1) (hr : meth.sig.returnType = (some .int)) (hlk : meth.locks = false) (hc0 : gC v0 = 12)  (hf : f_X13_painters_0 fu  v  = some z) : gC v = 12 → ∀ (H : Heap) (locs : List Loc), WB G (st S a v) s H locs → ∀ (ls : Array Slot), lv_has ls 1 [(0, .ref a)] → W p l e RM_X13_painters s m args below meth c H locs 0 0 (QR G below args s (some (.int z.1)) (st S a v0) (st S a z.2)) (F0 m 0 ls []) := by
  intro hc H locs hW ls hl
  have hx := hM.1
  have hb := hM.2.1
  refine lv_aload_n hx hb dX13_painters_0 rfl (lv_at hl 0 rfl) ?_
  refine lv_iconst (v := (0 : Int32)) hx hb dX13_painters_1 (by decide) ?_
  refine b_putI hM hW 11 0 hc rfl rfl (by decide) wi_X13 tyX13 tyX13_ok nmX13 (wgm fk_RX13_1) rfl rfl rfl dX13_painters_2 (fun v1 ev1 hc H locs hW => ?_)
  have hf := nm_at ev1 hf
  refine lv_aload_n hx hb dX13_painters_5 rfl (lv_at hl 0 rfl) ?_
  obtain ⟨v3, hr2, hf⟩ := bd_elim hf
  refine b_callVv [] [] hM hml hl.1 hW hc rfl (by decide) (c_X13_findWays l G fu _ a v1 hc hr2) (cwV 0 hM.2.2.2.1 (gV mk_RX13_433 im_X13_findWays se_X13_findWays it_RX13 cd_X13_findWays) rfl rfl rfl (by decide +kernel) ⟨Nat.le_of_ble_eq_true rfl, Nat.le_of_ble_eq_true rfl⟩) rfl rfl (Nat.le_of_ble_eq_true rfl) ⟨Nat.zero_le _, Nat.zero_le _⟩ dX13_painters_6 (fun H locs hW hk => ?_)
  have hc := keep_at hc hk
  refine lv_aload_n hx hb dX13_painters_9 rfl (lv_at hl 0 rfl) ?_
  refine b_get hM hW 11 36 hc rfl rfl (by decide) wi_X13 (wgm fk_RX13_427) (x := .int (gI v3 36)) rfl dX13_painters_10 ?_
  cases hf
  exact W.iret hx hb hr (b_ret0 hW (keep_s2 hc0 hc) _) hW.2.2.2 dX13_painters_13 hlk
noncomputable def f_X13_painters (fu : Nat) (v : GV) : Option (Int32 × GV) := f_X13_painters_0 fu v
set_option maxHeartbeats 4000000 in
set_option maxRecDepth 100000 in
theorem c_X13_painters (l : Launch) (G : GG) (fu : Nat) (S : ST) (a : Nat) (v : GV) {z : Int32} {w : GV} (hc : gC v = 12) (hf : f_X13_painters fu v = some (z, w)) : Ct l yX13_painters w_X13_painters RM_X13_painters G (st S a v) [.ref a] (some (.int z)) (st S a w) 0 0 := by
  refine Met.ofW (cc := cX13_painters) (maxL := 1) (ret := (some .int)) (by decide) rfl ?_
  intro p e s m args below meth c s₁ B hml hv
  obtain ⟨rfl, hB, hK, hz⟩ := hv
  have hM : MC G p s m _ c cX13_painters w_X13_painters RX13 := ⟨B.exec, B.bytes, findClass_of_methodNamed B.named, atoms_spec (ws := w_X13_painters) B.pre, hK, hz⟩
  have hW : WB G (st S a v) s s.heap [] := ⟨hB, va_S.rf⟩
  have hl := lv_entry ([.ref a]) (n := 1) (Nat.le_of_ble_eq_true rfl)
  rw [lg_entry_eq]
  generalize (lg_sl ([.ref a]) ++ List.replicate (1 - (lg_sl ([.ref a])).length) Slot.unset).toArray = ls at hl ⊢
  have hl : lv_has ls 1 [(0, .ref a)] := hl
  exact t_X13_painters_0 hM hml B.returns B.notSynchronized hc hf hc _ _ hW _ (lv_sub hl [0] rfl)
abbrev w_X13_painter : List Cond := Cond.code yX13_painter cX13_painter 3 (some .int) :: wsL_law0
abbrev RM_X13_painter : Room := { frames := 13, cells := 0, slots := 0, locals := 297 }
noncomputable def f_X13_painter_52 (fu : Nat)  (v : GV) (x1 : Int32) : Option (Int32 × GV) :=
  ck (inb x1 8) <|
  some ((gA v 34 x1.toNatClampNeg), v)
set_option maxHeartbeats 4000000 in
set_option maxRecDepth 100000 in
theorem t_X13_painter_52 {G : GG} {p : Program} {l : Launch} {e : Env} {s : State} {m : MethodId} {args : Array Value} {below : List Frame} {meth : Method} {c : Code} {S : ST} {fu : Nat} {z : Int32 × GV} {a : Nat} {v0 : GV}  {v : GV} {x1 : Int32} (hM : MC G p s m args c cX13_painter w_X13_painter RX13) (hml : c.maxLocals = 3) (hr : meth.sig.returnType = (some .int)) (hlk : meth.locks = false) (hc0 : gC v0 = 12)  (hf : f_X13_painter_52 fu  v x1 = some z) : gC v = 12 → ∀ (H : Heap) (locs : List Loc), WB G (st S a v) s H locs → ∀ (ls : Array Slot), lv_has ls 3 [(0, .ref a), (1, .int x1)] → W p l e RM_X13_painter s m args below meth c H locs 0 0 (QR G below args s (some (.int z.1)) (st S a v0) (st S a z.2)) (F0 m 52 ls []) := by
  intro hc H locs hW ls hl
  have hx := hM.1
  have hb := hM.2.1
  refine lv_aload_n hx hb dX13_painter_52 rfl (lv_at hl 0 rfl) ?_
  refine b_get hM hW 11 34 hc rfl rfl (by decide) wi_X13 (wgm fk_RX13_147) (x := .ref (a + 23)) rfl dX13_painter_53 ?_
  refine lv_iload_n hx hb dX13_painter_56 rfl (lv_at hl 1 rfl) ?_
  obtain ⟨h1, hf⟩ := ck_elim hf
  refine b_iald (n := 8) hM hW 11 34 hc (by decide) rfl rfl rfl rfl h1 dX13_painter_57 ?_
  cases hf
  exact W.iret hx hb hr (b_ret0 hW (keep_s2 hc0 hc) _) hW.2.2.2 dX13_painter_58 hlk
noncomputable def f_X13_painter_48 (fu : Nat)  (v : GV) : Option (Int32 × GV) :=
  some ((-1 : Int32), v)
set_option maxHeartbeats 4000000 in
set_option maxRecDepth 100000 in
theorem t_X13_painter_48 {G : GG} {p : Program} {l : Launch} {e : Env} {s : State} {m : MethodId} {args : Array Value} {below : List Frame} {meth : Method} {c : Code} {S : ST} {fu : Nat} {z : Int32 × GV} {a : Nat} {v0 : GV}  {v : GV} (hM : MC G p s m args c cX13_painter w_X13_painter RX13) (hml : c.maxLocals = 3) (hr : meth.sig.returnType = (some .int)) (hlk : meth.locks = false) (hc0 : gC v0 = 12)  (hf : f_X13_painter_48 fu  v  = some z) : gC v = 12 → ∀ (H : Heap) (locs : List Loc), WB G (st S a v) s H locs → ∀ (ls : Array Slot), lv_has ls 3 [] → W p l e RM_X13_painter s m args below meth c H locs 0 0 (QR G below args s (some (.int z.1)) (st S a v0) (st S a z.2)) (F0 m 48 ls []) := by
  intro hc H locs hW ls hl
  have hx := hM.1
  have hb := hM.2.1
  refine lv_iconst (v := (-1 : Int32)) hx hb dX13_painter_48 (by decide) ?_
  refine lv_goto (tgt := 58) hx hb dX13_painter_49 (by decide) ?_
  cases hf
  exact W.iret hx hb hr (b_ret0 hW (keep_s2 hc0 hc) _) hW.2.2.2 dX13_painter_58 hlk
noncomputable def f_X13_painter_18 (fu : Nat)  (v : GV) : Option (Int32 × GV) :=
  some ((-1 : Int32), v)
set_option maxHeartbeats 4000000 in
set_option maxRecDepth 100000 in
theorem t_X13_painter_18 {G : GG} {p : Program} {l : Launch} {e : Env} {s : State} {m : MethodId} {args : Array Value} {below : List Frame} {meth : Method} {c : Code} {S : ST} {fu : Nat} {z : Int32 × GV} {a : Nat} {v0 : GV}  {v : GV} (hM : MC G p s m args c cX13_painter w_X13_painter RX13) (hml : c.maxLocals = 3) (hr : meth.sig.returnType = (some .int)) (hlk : meth.locks = false) (hc0 : gC v0 = 12)  (hf : f_X13_painter_18 fu  v  = some z) : gC v = 12 → ∀ (H : Heap) (locs : List Loc), WB G (st S a v) s H locs → ∀ (ls : Array Slot), lv_has ls 3 [] → W p l e RM_X13_painter s m args below meth c H locs 0 0 (QR G below args s (some (.int z.1)) (st S a v0) (st S a z.2)) (F0 m 18 ls []) := by
  intro hc H locs hW ls hl
  have hx := hM.1
  have hb := hM.2.1
  refine lv_iconst (v := (-1 : Int32)) hx hb dX13_painter_18 (by decide) ?_
  cases hf
  exact W.iret hx hb hr (b_ret0 hW (keep_s2 hc0 hc) _) hW.2.2.2 dX13_painter_19 hlk
noncomputable def f_X13_painter_0 (fu : Nat)  (v : GV) (x1 : Int32) (x2 : Int32) : Option (Int32 × GV) :=
  nm (sI v 0 (0 : Int32)) fun v1 =>
  if x1 = 0 then
    (f_X13_painter_18 fu v1)
  else
    (bd (f_X13_isPiece fu v1 (0 : Int32) x1) fun r3 =>
    if r3 = 0 then
      (f_X13_painter_18 fu v1)
    else
      (bd (f_X13_findWays fu v1) fun v6 =>
      if (gI v6 36) = 0 then
        (f_X13_painter_48 fu v6)
      else
        (if x2 = 0 then
          (f_X13_painter_52 fu v6 x1)
        else
          (ck (inb x1 8) <|
          bd (f_X13_bits fu (gA v6 35 x1.toNatClampNeg)) fun r10 =>
          if r10 ≤ (1 : Int32) then
            (f_X13_painter_52 fu v6 x1)
          else
            (f_X13_painter_48 fu v6)))))
set_option maxHeartbeats 4000000 in
set_option maxRecDepth 100000 in
theorem t_X13_painter_0 {G : GG} {p : Program} {l : Launch} {e : Env} {s : State} {m : MethodId} {args : Array Value} {below : List Frame} {meth : Method} {c : Code} {S : ST} {fu : Nat} {z : Int32 × GV} {a : Nat} {v0 : GV}  {v : GV} {x1 : Int32} {x2 : Int32} (hM : MC G p s m args c cX13_painter w_X13_painter RX13) (hml : c.maxLocals = 3) (hr : meth.sig.returnType = (some .int)) (hlk : meth.locks = false) (hc0 : gC v0 = 12)  (hf : f_X13_painter_0 fu  v x1 x2 = some z) : gC v = 12 → ∀ (H : Heap) (locs : List Loc), WB G (st S a v) s H locs → ∀ (ls : Array Slot), lv_has ls 3 [(0, .ref a), (1, .int x1), (2, .int x2)] → W p l e RM_X13_painter s m args below meth c H locs 0 0 (QR G below args s (some (.int z.1)) (st S a v0) (st S a z.2)) (F0 m 0 ls []) := by
  intro hc H locs hW ls hl
  have hx := hM.1
  have hb := hM.2.1
  refine lv_aload_n hx hb dX13_painter_0 rfl (lv_at hl 0 rfl) ?_
  refine lv_iconst (v := (0 : Int32)) hx hb dX13_painter_1 (by decide) ?_
  refine b_putI hM hW 11 0 hc rfl rfl (by decide) wi_X13 tyX13 tyX13_ok nmX13 (wgm fk_RX13_1) rfl rfl rfl dX13_painter_2 (fun v1 ev1 hc H locs hW => ?_)
  have hf := nm_at ev1 hf
  refine lv_iload_n hx hb dX13_painter_5 rfl (lv_at hl 1 rfl) ?_
  refine lv_if_eq (tgt := 18) hx hb dX13_painter_6 (by decide) (fun c2 => ?_) (fun c2 => ?_)
  · have hf := if_t c2 hf
    exact t_X13_painter_18 (fu := fu) hM hml hr hlk hc0 hf hc _ _ hW _ (lv_sub hl [] rfl)
  · have hf := if_f c2 hf
    refine lv_aload_n hx hb dX13_painter_9 rfl (lv_at hl 0 rfl) ?_
    refine lv_iconst (v := (0 : Int32)) hx hb dX13_painter_10 (by decide) ?_
    refine lv_iload_n hx hb dX13_painter_11 rfl (lv_at hl 1 rfl) ?_
    obtain ⟨r3, hr3, hf⟩ := bd_elim hf
    refine b_callVi [.int (0 : Int32), .int x1] [] hM hml hl.1 hW hc rfl (by decide) (c_X13_isPiece l G fu _ a v1 _ _ hc hr3) (cwV 2 hM.2.2.2.1 (gV mk_RX13_345 im_X13_isPiece se_X13_isPiece it_RX13 cd_X13_isPiece) rfl rfl rfl (by decide +kernel) ⟨Nat.le_of_ble_eq_true rfl, Nat.le_of_ble_eq_true rfl⟩) rfl rfl (Nat.le_of_ble_eq_true rfl) ⟨Nat.zero_le _, Nat.zero_le _⟩ dX13_painter_12 (fun H locs hW hk => ?_)
    refine lv_if_ne (tgt := 20) hx hb dX13_painter_15 (by decide) (fun c4 => ?_) (fun c4 => ?_)
    · have hf := if_f c4 hf
      refine lv_aload_n hx hb dX13_painter_20 rfl (lv_at hl 0 rfl) ?_
      obtain ⟨v6, hr5, hf⟩ := bd_elim hf
      refine b_callVv [] [] hM hml hl.1 hW hc rfl (by decide) (c_X13_findWays l G fu _ a v1 hc hr5) (cwV 0 hM.2.2.2.1 (gV mk_RX13_433 im_X13_findWays se_X13_findWays it_RX13 cd_X13_findWays) rfl rfl rfl (by decide +kernel) ⟨Nat.le_of_ble_eq_true rfl, Nat.le_of_ble_eq_true rfl⟩) rfl rfl (Nat.le_of_ble_eq_true rfl) ⟨Nat.zero_le _, Nat.zero_le _⟩ dX13_painter_21 (fun H locs hW hk => ?_)
      have hc := keep_at hc hk
      refine lv_aload_n hx hb dX13_painter_24 rfl (lv_at hl 0 rfl) ?_
      refine b_get hM hW 11 36 hc rfl rfl (by decide) wi_X13 (wgm fk_RX13_427) (x := .int (gI v6 36)) rfl dX13_painter_25 ?_
      refine lv_if_eq (tgt := 48) hx hb dX13_painter_28 (by decide) (fun c7 => ?_) (fun c7 => ?_)
      · have hf := if_t c7 hf
        exact t_X13_painter_48 (fu := fu) hM hml hr hlk hc0 hf hc _ _ hW _ (lv_sub hl [] rfl)
      · have hf := if_f c7 hf
        refine lv_iload_n hx hb dX13_painter_31 rfl (lv_at hl 2 rfl) ?_
        refine lv_if_eq (tgt := 52) hx hb dX13_painter_32 (by decide) (fun c8 => ?_) (fun c8 => ?_)
        · have hf := if_t c8 hf
          exact t_X13_painter_52 (fu := fu) hM hml hr hlk hc0 hf hc _ _ hW _ (lv_sub hl [0, 1] rfl)
        · have hf := if_f c8 hf
          refine lv_aload_n hx hb dX13_painter_35 rfl (lv_at hl 0 rfl) ?_
          refine b_get hM hW 11 35 hc rfl rfl (by decide) wi_X13 (wgm fk_RX13_150) (x := .ref (a + 24)) rfl dX13_painter_36 ?_
          refine lv_iload_n hx hb dX13_painter_39 rfl (lv_at hl 1 rfl) ?_
          obtain ⟨h9, hf⟩ := ck_elim hf
          refine b_iald (n := 8) hM hW 11 35 hc (by decide) rfl rfl rfl rfl h9 dX13_painter_40 ?_
          obtain ⟨r10, hr10, hf⟩ := bd_elim hf
          refine b_callSi [.int (gA v6 35 x1.toNatClampNeg)] [] hM hml hl.1 hW (c_X13_bits l G fu _ _ hr10) (va_cwS 1 hM.2.2.2.1 (gS mk_RX13_339 sm_X13_bits it_RX13 cd_X13_bits) rfl rfl rfl (by decide +kernel) ⟨Nat.le_of_ble_eq_true rfl, Nat.le_of_ble_eq_true rfl⟩) rfl rfl (Nat.le_of_ble_eq_true rfl) ⟨Nat.zero_le _, Nat.zero_le _⟩ dX13_painter_41 (fun H locs hW hk => ?_)
          refine lv_iconst (v := (1 : Int32)) hx hb dX13_painter_44 (by decide) ?_
          refine lv_icmp_le (tgt := 52) hx hb dX13_painter_45 (by decide) (fun c11 => ?_) (fun c11 => ?_)
          · have hf := if_t c11 hf
            exact t_X13_painter_52 (fu := fu) hM hml hr hlk hc0 hf hc _ _ hW _ (lv_sub hl [0, 1] rfl)
          · have hf := if_f c11 hf
            exact t_X13_painter_48 (fu := fu) hM hml hr hlk hc0 hf hc _ _ hW _ (lv_sub hl [] rfl)
    · have hf := if_t c4 hf
      exact t_X13_painter_18 (fu := fu) hM hml hr hlk hc0 hf hc _ _ hW _ (lv_sub hl [] rfl)
noncomputable def f_X13_painter (fu : Nat) (v : GV) (x1 : Int32) (x2 : Int32) : Option (Int32 × GV) := f_X13_painter_0 fu v x1 x2
set_option maxHeartbeats 4000000 in
set_option maxRecDepth 100000 in
theorem c_X13_painter (l : Launch) (G : GG) (fu : Nat) (S : ST) (a : Nat) (v : GV) (x1 : Int32) (x2 : Int32) {z : Int32} {w : GV} (hc : gC v = 12) (hf : f_X13_painter fu v x1 x2 = some (z, w)) : Ct l yX13_painter w_X13_painter RM_X13_painter G (st S a v) [.ref a, .int x1, .int x2] (some (.int z)) (st S a w) 0 0 := by
  refine Met.ofW (cc := cX13_painter) (maxL := 3) (ret := (some .int)) (by decide) rfl ?_
  intro p e s m args below meth c s₁ B hml hv
  obtain ⟨rfl, hB, hK, hz⟩ := hv
  have hM : MC G p s m _ c cX13_painter w_X13_painter RX13 := ⟨B.exec, B.bytes, findClass_of_methodNamed B.named, atoms_spec (ws := w_X13_painter) B.pre, hK, hz⟩
  have hW : WB G (st S a v) s s.heap [] := ⟨hB, va_S.rf⟩
  have hl := lv_entry ([.ref a, .int x1, .int x2]) (n := 3) (Nat.le_of_ble_eq_true rfl)
  rw [lg_entry_eq]
  generalize (lg_sl ([.ref a, .int x1, .int x2]) ++ List.replicate (3 - (lg_sl ([.ref a, .int x1, .int x2])).length) Slot.unset).toArray = ls at hl ⊢
  have hl : lv_has ls 3 [(0, .ref a), (1, .int x1), (2, .int x2)] := hl
  exact t_X13_painter_0 hM hml B.returns B.notSynchronized hc hf hc _ _ hW _ (lv_sub hl [0, 1, 2] rfl)
abbrev w_X13_knownBy : List Cond := Cond.code yX13_knownBy cX13_knownBy 9 (some .int) :: wsL_law0
abbrev RM_X13_knownBy : Room := { frames := 0, cells := 0, slots := 0, locals := 0 }
noncomputable def f_X13_knownBy_123 (fu : Nat) (k16 : Int32 → Int32 → Option (Int32)) (v : GV) (x2 : Int32) (x3 : Int32) (x5 : Int32) (t0 : Int32) (t1 : Int32) : Option (Int32) :=
  nm ((t0 ||| t1)) fun y1 =>
  nm (x5 + (1 : Int32)) fun y2 =>
  k16 y1 y2
set_option maxHeartbeats 4000000 in
set_option maxRecDepth 100000 in
theorem t_X13_knownBy_123 {G : GG} {p : Program} {l : Launch} {e : Env} {s : State} {m : MethodId} {args : Array Value} {below : List Frame} {meth : Method} {c : Code} {S : ST} {fu : Nat} {z : Int32} {a : Nat} {v : GV} {k16 : Int32 → Int32 → Option (Int32)} {x2 : Int32} {x3 : Int32} {x5 : Int32} {t0 : Int32} {t1 : Int32} (hM : MC G p s m args c cX13_knownBy w_X13_knownBy RX13) (hml : c.maxLocals = 9) (hr : meth.sig.returnType = (some .int)) (hlk : meth.locks = false) (hc0 : gC v = 12) (hk16 : ∀ (x4 : Int32) (x5 : Int32), k16 x4 x5 = some z → ∀ (H : Heap) (locs : List Loc), WB G (st S a v) s H locs → ∀ (ls : Array Slot), lv_has ls 9 [(0, .ref a), (2, .int x2), (3, .int x3), (4, .int x4), (5, .int x5)] → W p l e RM_X13_knownBy s m args below meth c H locs 0 0 (QR G below args s (some (.int z)) (st S a v) (st S a v)) (F0 m 16 ls [])) (hf : f_X13_knownBy_123 fu k16 v x2 x3 x5 t0 t1 = some z) : ∀ (H : Heap) (locs : List Loc), WB G (st S a v) s H locs → ∀ (ls : Array Slot), lv_has ls 9 [(0, .ref a), (2, .int x2), (3, .int x3), (5, .int x5)] → W p l e RM_X13_knownBy s m args below meth c H locs 0 0 (QR G below args s (some (.int z)) (st S a v) (st S a v)) (F0 m 123 ls [.int t1, .int t0]) := by
  intro H locs hW ls hl
  have hx := hM.1
  have hb := hM.2.1
  have hc := hc0
  refine lv_ior hx hb dX13_knownBy_123 ?_
  refine lv_topi (fun y1 ey1 => ?_)
  have hf := nm_at ey1 hf
  refine lv_istore (lv' := [(4, .int y1), (0, .ref a), (2, .int x2), (3, .int x3), (5, .int x5)]) hx hb dX13_knownBy_124 hl (by decide) rfl (fun ls hl => ?_)
  obtain ⟨y2, ey2⟩ : ∃ y : Int32, y = x5 + (1 : Int32) := ⟨_, rfl⟩
  have hf := nm_at ey2 hf
  refine lv_iinc (v := y2) (lv' := [(5, .int y2), (4, .int y1), (0, .ref a), (2, .int x2), (3, .int x3)]) hx hb dX13_knownBy_126 hl (k := 4) rfl (by rw [ey2]; rfl) (by decide) rfl (fun ls hl => ?_)
  refine lv_goto (tgt := 16) hx hb dX13_knownBy_129 (by decide) ?_
  exact hk16 _ _ hf _ _ hW _ (lv_sub hl [2, 3, 4, 1, 0] rfl)
noncomputable def f_X13_knownBy_100 (fu : Nat) (k16 : Int32 → Int32 → Option (Int32)) (k33 : Int32 → Int32 → Option (Int32)) (v : GV) (x2 : Int32) (x3 : Int32) (x4 : Int32) (x5 : Int32) (x7 : Int32) (t0 : Int32) : Option (Int32) :=
  nm (x7 + (1 : Int32)) fun y1 =>
  k33 t0 y1
set_option maxHeartbeats 4000000 in
set_option maxRecDepth 100000 in
theorem t_X13_knownBy_100 {G : GG} {p : Program} {l : Launch} {e : Env} {s : State} {m : MethodId} {args : Array Value} {below : List Frame} {meth : Method} {c : Code} {S : ST} {fu : Nat} {z : Int32} {a : Nat} {v : GV} {k16 : Int32 → Int32 → Option (Int32)} {k33 : Int32 → Int32 → Option (Int32)} {x2 : Int32} {x3 : Int32} {x4 : Int32} {x5 : Int32} {x7 : Int32} {t0 : Int32} (hM : MC G p s m args c cX13_knownBy w_X13_knownBy RX13) (hml : c.maxLocals = 9) (hr : meth.sig.returnType = (some .int)) (hlk : meth.locks = false) (hc0 : gC v = 12) (hk16 : ∀ (x4 : Int32) (x5 : Int32), k16 x4 x5 = some z → ∀ (H : Heap) (locs : List Loc), WB G (st S a v) s H locs → ∀ (ls : Array Slot), lv_has ls 9 [(0, .ref a), (2, .int x2), (3, .int x3), (4, .int x4), (5, .int x5)] → W p l e RM_X13_knownBy s m args below meth c H locs 0 0 (QR G below args s (some (.int z)) (st S a v) (st S a v)) (F0 m 16 ls [])) (hk33 : ∀ (x6 : Int32) (x7 : Int32), k33 x6 x7 = some z → ∀ (H : Heap) (locs : List Loc), WB G (st S a v) s H locs → ∀ (ls : Array Slot), lv_has ls 9 [(0, .ref a), (2, .int x2), (3, .int x3), (4, .int x4), (5, .int x5), (6, .int x6), (7, .int x7)] → W p l e RM_X13_knownBy s m args below meth c H locs 0 0 (QR G below args s (some (.int z)) (st S a v) (st S a v)) (F0 m 33 ls [])) (hf : f_X13_knownBy_100 fu k16 k33 v x2 x3 x4 x5 x7 t0 = some z) : ∀ (H : Heap) (locs : List Loc), WB G (st S a v) s H locs → ∀ (ls : Array Slot), lv_has ls 9 [(0, .ref a), (2, .int x2), (3, .int x3), (4, .int x4), (5, .int x5), (7, .int x7)] → W p l e RM_X13_knownBy s m args below meth c H locs 0 0 (QR G below args s (some (.int z)) (st S a v) (st S a v)) (F0 m 100 ls [.int t0]) := by
  intro H locs hW ls hl
  have hx := hM.1
  have hb := hM.2.1
  have hc := hc0
  refine lv_istore (lv' := [(6, .int t0), (0, .ref a), (2, .int x2), (3, .int x3), (4, .int x4), (5, .int x5), (7, .int x7)]) hx hb dX13_knownBy_100 hl (by decide) rfl (fun ls hl => ?_)
  obtain ⟨y1, ey1⟩ : ∃ y : Int32, y = x7 + (1 : Int32) := ⟨_, rfl⟩
  have hf := nm_at ey1 hf
  refine lv_iinc (v := y1) (lv' := [(7, .int y1), (6, .int t0), (0, .ref a), (2, .int x2), (3, .int x3), (4, .int x4), (5, .int x5)]) hx hb dX13_knownBy_102 hl (k := 6) rfl (by rw [ey1]; rfl) (by decide) rfl (fun ls hl => ?_)
  refine lv_goto (tgt := 33) hx hb dX13_knownBy_105 (by decide) ?_
  exact hk33 _ _ hf _ _ hW _ (lv_sub hl [2, 3, 4, 5, 6, 1, 0] rfl)
noncomputable def f_X13_knownBy_99 (fu : Nat) (k16 : Int32 → Int32 → Option (Int32)) (k33 : Int32 → Int32 → Option (Int32)) (v : GV) (x2 : Int32) (x3 : Int32) (x4 : Int32) (x5 : Int32) (x7 : Int32) : Option (Int32) :=
  f_X13_knownBy_100 fu k16 k33 v x2 x3 x4 x5 x7 (0 : Int32)
set_option maxHeartbeats 4000000 in
set_option maxRecDepth 100000 in
theorem t_X13_knownBy_99 {G : GG} {p : Program} {l : Launch} {e : Env} {s : State} {m : MethodId} {args : Array Value} {below : List Frame} {meth : Method} {c : Code} {S : ST} {fu : Nat} {z : Int32} {a : Nat} {v : GV} {k16 : Int32 → Int32 → Option (Int32)} {k33 : Int32 → Int32 → Option (Int32)} {x2 : Int32} {x3 : Int32} {x4 : Int32} {x5 : Int32} {x7 : Int32} (hM : MC G p s m args c cX13_knownBy w_X13_knownBy RX13) (hml : c.maxLocals = 9) (hr : meth.sig.returnType = (some .int)) (hlk : meth.locks = false) (hc0 : gC v = 12) (hk16 : ∀ (x4 : Int32) (x5 : Int32), k16 x4 x5 = some z → ∀ (H : Heap) (locs : List Loc), WB G (st S a v) s H locs → ∀ (ls : Array Slot), lv_has ls 9 [(0, .ref a), (2, .int x2), (3, .int x3), (4, .int x4), (5, .int x5)] → W p l e RM_X13_knownBy s m args below meth c H locs 0 0 (QR G below args s (some (.int z)) (st S a v) (st S a v)) (F0 m 16 ls [])) (hk33 : ∀ (x6 : Int32) (x7 : Int32), k33 x6 x7 = some z → ∀ (H : Heap) (locs : List Loc), WB G (st S a v) s H locs → ∀ (ls : Array Slot), lv_has ls 9 [(0, .ref a), (2, .int x2), (3, .int x3), (4, .int x4), (5, .int x5), (6, .int x6), (7, .int x7)] → W p l e RM_X13_knownBy s m args below meth c H locs 0 0 (QR G below args s (some (.int z)) (st S a v) (st S a v)) (F0 m 33 ls [])) (hf : f_X13_knownBy_99 fu k16 k33 v x2 x3 x4 x5 x7 = some z) : ∀ (H : Heap) (locs : List Loc), WB G (st S a v) s H locs → ∀ (ls : Array Slot), lv_has ls 9 [(0, .ref a), (2, .int x2), (3, .int x3), (4, .int x4), (5, .int x5), (7, .int x7)] → W p l e RM_X13_knownBy s m args below meth c H locs 0 0 (QR G below args s (some (.int z)) (st S a v) (st S a v)) (F0 m 99 ls []) := by
  intro H locs hW ls hl
  have hx := hM.1
  have hb := hM.2.1
  have hc := hc0
  refine lv_iconst (v := (0 : Int32)) hx hb dX13_knownBy_99 (by decide) ?_
  exact t_X13_knownBy_100 (fu := fu) hM hml hr hlk hc0 hk16 hk33 hf _ _ hW _ (lv_sub hl [0, 1, 2, 3, 4, 5] rfl)
noncomputable def f_X13_knownBy_95 (fu : Nat) (k16 : Int32 → Int32 → Option (Int32)) (k33 : Int32 → Int32 → Option (Int32)) (v : GV) (x2 : Int32) (x3 : Int32) (x4 : Int32) (x5 : Int32) (x7 : Int32) : Option (Int32) :=
  f_X13_knownBy_100 fu k16 k33 v x2 x3 x4 x5 x7 (1 : Int32)
set_option maxHeartbeats 4000000 in
set_option maxRecDepth 100000 in
theorem t_X13_knownBy_95 {G : GG} {p : Program} {l : Launch} {e : Env} {s : State} {m : MethodId} {args : Array Value} {below : List Frame} {meth : Method} {c : Code} {S : ST} {fu : Nat} {z : Int32} {a : Nat} {v : GV} {k16 : Int32 → Int32 → Option (Int32)} {k33 : Int32 → Int32 → Option (Int32)} {x2 : Int32} {x3 : Int32} {x4 : Int32} {x5 : Int32} {x7 : Int32} (hM : MC G p s m args c cX13_knownBy w_X13_knownBy RX13) (hml : c.maxLocals = 9) (hr : meth.sig.returnType = (some .int)) (hlk : meth.locks = false) (hc0 : gC v = 12) (hk16 : ∀ (x4 : Int32) (x5 : Int32), k16 x4 x5 = some z → ∀ (H : Heap) (locs : List Loc), WB G (st S a v) s H locs → ∀ (ls : Array Slot), lv_has ls 9 [(0, .ref a), (2, .int x2), (3, .int x3), (4, .int x4), (5, .int x5)] → W p l e RM_X13_knownBy s m args below meth c H locs 0 0 (QR G below args s (some (.int z)) (st S a v) (st S a v)) (F0 m 16 ls [])) (hk33 : ∀ (x6 : Int32) (x7 : Int32), k33 x6 x7 = some z → ∀ (H : Heap) (locs : List Loc), WB G (st S a v) s H locs → ∀ (ls : Array Slot), lv_has ls 9 [(0, .ref a), (2, .int x2), (3, .int x3), (4, .int x4), (5, .int x5), (6, .int x6), (7, .int x7)] → W p l e RM_X13_knownBy s m args below meth c H locs 0 0 (QR G below args s (some (.int z)) (st S a v) (st S a v)) (F0 m 33 ls [])) (hf : f_X13_knownBy_95 fu k16 k33 v x2 x3 x4 x5 x7 = some z) : ∀ (H : Heap) (locs : List Loc), WB G (st S a v) s H locs → ∀ (ls : Array Slot), lv_has ls 9 [(0, .ref a), (2, .int x2), (3, .int x3), (4, .int x4), (5, .int x5), (7, .int x7)] → W p l e RM_X13_knownBy s m args below meth c H locs 0 0 (QR G below args s (some (.int z)) (st S a v) (st S a v)) (F0 m 95 ls []) := by
  intro H locs hW ls hl
  have hx := hM.1
  have hb := hM.2.1
  have hc := hc0
  refine lv_iconst (v := (1 : Int32)) hx hb dX13_knownBy_95 (by decide) ?_
  refine lv_goto (tgt := 100) hx hb dX13_knownBy_96 (by decide) ?_
  exact t_X13_knownBy_100 (fu := fu) hM hml hr hlk hc0 hk16 hk33 hf _ _ hW _ (lv_sub hl [0, 1, 2, 3, 4, 5] rfl)
noncomputable def f_X13_knownBy_73 (fu : Nat) (k16 : Int32 → Int32 → Option (Int32)) (k33 : Int32 → Int32 → Option (Int32)) (v : GV) (x2 : Int32) (x3 : Int32) (x4 : Int32) (x5 : Int32) (x6 : Int32) (x7 : Int32) (t0 : Int32) : Option (Int32) :=
  if x6 = 0 then
    (f_X13_knownBy_99 fu k16 k33 v x2 x3 x4 x5 x7)
  else
    (if t0 = 0 then
      (f_X13_knownBy_95 fu k16 k33 v x2 x3 x4 x5 x7)
    else
      (if ((x2 >>> (x7 &&& 31)) &&& (1 : Int32)) = (1 : Int32) then
        (f_X13_knownBy_95 fu k16 k33 v x2 x3 x4 x5 x7)
      else
        (f_X13_knownBy_99 fu k16 k33 v x2 x3 x4 x5 x7)))
set_option maxHeartbeats 4000000 in
set_option maxRecDepth 100000 in
theorem t_X13_knownBy_73 {G : GG} {p : Program} {l : Launch} {e : Env} {s : State} {m : MethodId} {args : Array Value} {below : List Frame} {meth : Method} {c : Code} {S : ST} {fu : Nat} {z : Int32} {a : Nat} {v : GV} {k16 : Int32 → Int32 → Option (Int32)} {k33 : Int32 → Int32 → Option (Int32)} {x2 : Int32} {x3 : Int32} {x4 : Int32} {x5 : Int32} {x6 : Int32} {x7 : Int32} {t0 : Int32} (hM : MC G p s m args c cX13_knownBy w_X13_knownBy RX13) (hml : c.maxLocals = 9) (hr : meth.sig.returnType = (some .int)) (hlk : meth.locks = false) (hc0 : gC v = 12) (hk16 : ∀ (x4 : Int32) (x5 : Int32), k16 x4 x5 = some z → ∀ (H : Heap) (locs : List Loc), WB G (st S a v) s H locs → ∀ (ls : Array Slot), lv_has ls 9 [(0, .ref a), (2, .int x2), (3, .int x3), (4, .int x4), (5, .int x5)] → W p l e RM_X13_knownBy s m args below meth c H locs 0 0 (QR G below args s (some (.int z)) (st S a v) (st S a v)) (F0 m 16 ls [])) (hk33 : ∀ (x6 : Int32) (x7 : Int32), k33 x6 x7 = some z → ∀ (H : Heap) (locs : List Loc), WB G (st S a v) s H locs → ∀ (ls : Array Slot), lv_has ls 9 [(0, .ref a), (2, .int x2), (3, .int x3), (4, .int x4), (5, .int x5), (6, .int x6), (7, .int x7)] → W p l e RM_X13_knownBy s m args below meth c H locs 0 0 (QR G below args s (some (.int z)) (st S a v) (st S a v)) (F0 m 33 ls [])) (hf : f_X13_knownBy_73 fu k16 k33 v x2 x3 x4 x5 x6 x7 t0 = some z) : ∀ (H : Heap) (locs : List Loc), WB G (st S a v) s H locs → ∀ (ls : Array Slot), lv_has ls 9 [(0, .ref a), (2, .int x2), (3, .int x3), (4, .int x4), (5, .int x5), (6, .int x6), (7, .int x7)] → W p l e RM_X13_knownBy s m args below meth c H locs 0 0 (QR G below args s (some (.int z)) (st S a v) (st S a v)) (F0 m 73 ls [.int t0]) := by
  intro H locs hW ls hl
  have hx := hM.1
  have hb := hM.2.1
  have hc := hc0
  refine lv_istore (lv' := [(8, .int t0), (0, .ref a), (2, .int x2), (3, .int x3), (4, .int x4), (5, .int x5), (6, .int x6), (7, .int x7)]) hx hb dX13_knownBy_73 hl (by decide) rfl (fun ls hl => ?_)
  refine lv_iload hx hb dX13_knownBy_75 (lv_at hl 6 rfl) ?_
  refine lv_if_eq (tgt := 99) hx hb dX13_knownBy_77 (by decide) (fun c1 => ?_) (fun c1 => ?_)
  · have hf := if_t c1 hf
    exact t_X13_knownBy_99 (fu := fu) hM hml hr hlk hc0 hk16 hk33 hf _ _ hW _ (lv_sub hl [1, 2, 3, 4, 5, 7] rfl)
  · have hf := if_f c1 hf
    refine lv_iload hx hb dX13_knownBy_80 (lv_at hl 0 rfl) ?_
    refine lv_if_eq (tgt := 95) hx hb dX13_knownBy_82 (by decide) (fun c2 => ?_) (fun c2 => ?_)
    · have hf := if_t c2 hf
      exact t_X13_knownBy_95 (fu := fu) hM hml hr hlk hc0 hk16 hk33 hf _ _ hW _ (lv_sub hl [1, 2, 3, 4, 5, 7] rfl)
    · have hf := if_f c2 hf
      refine lv_iload_n hx hb dX13_knownBy_85 rfl (lv_at hl 2 rfl) ?_
      refine lv_iload hx hb dX13_knownBy_86 (lv_at hl 7 rfl) ?_
      refine lv_ishr hx hb dX13_knownBy_88 ?_
      refine lv_iconst (v := (1 : Int32)) hx hb dX13_knownBy_89 (by decide) ?_
      refine lv_iand hx hb dX13_knownBy_90 ?_
      refine lv_iconst (v := (1 : Int32)) hx hb dX13_knownBy_91 (by decide) ?_
      refine lv_icmp_ne (tgt := 99) hx hb dX13_knownBy_92 (by decide) (fun c3 => ?_) (fun c3 => ?_)
      · have hf := if_f c3 hf
        exact t_X13_knownBy_99 (fu := fu) hM hml hr hlk hc0 hk16 hk33 hf _ _ hW _ (lv_sub hl [1, 2, 3, 4, 5, 7] rfl)
      · have hf := if_t c3 hf
        exact t_X13_knownBy_95 (fu := fu) hM hml hr hlk hc0 hk16 hk33 hf _ _ hW _ (lv_sub hl [1, 2, 3, 4, 5, 7] rfl)
noncomputable def f_X13_knownBy_33s (fu : Nat) (k16 : Int32 → Int32 → Option (Int32)) (k33 : Int32 → Int32 → Option (Int32)) (v : GV) (x2 : Int32) (x3 : Int32) (x4 : Int32) (x5 : Int32) (x6 : Int32) (x7 : Int32) : Option (Int32) :=
  if (gA v 24 (2 : Int32).toNatClampNeg) ≤ x7 then
    (if x6 = 0 then
      (f_X13_knownBy_123 fu k16 v x2 x3 x5 x4 (0 : Int32))
    else
      (f_X13_knownBy_123 fu k16 v x2 x3 x5 x4 ((1 : Int32) <<< (x5 &&& 31))))
  else
    (nm (((3 : Int32) + x5)) fun y3 =>
    ck (inb y3 1518) <|
    nm (((3 : Int32) + x7)) fun y5 =>
    ck (inb y5 1518) <|
    if (((gA v 24 y3.toNatClampNeg) ^^^ (gA v 24 y5.toNatClampNeg)) &&& x3) = 0 then
      (f_X13_knownBy_73 fu k16 k33 v x2 x3 x4 x5 x6 x7 (1 : Int32))
    else
      (f_X13_knownBy_73 fu k16 k33 v x2 x3 x4 x5 x6 x7 (0 : Int32)))
noncomputable def f_X13_knownBy_33 (fu n : Nat) (k16 : Int32 → Int32 → Option (Int32)) (v : GV) (x2 : Int32) (x3 : Int32) (x4 : Int32) (x5 : Int32) : Int32 → Int32 → Option (Int32) :=
  lq_2 (fun k33 => f_X13_knownBy_33s fu k16 k33 v x2 x3 x4 x5) n
set_option maxHeartbeats 4000000 in
set_option maxRecDepth 100000 in
theorem t_X13_knownBy_33s {G : GG} {p : Program} {l : Launch} {e : Env} {s : State} {m : MethodId} {args : Array Value} {below : List Frame} {meth : Method} {c : Code} {S : ST} {fu : Nat} {z : Int32} {a : Nat} {v : GV} {k16 : Int32 → Int32 → Option (Int32)} (hM : MC G p s m args c cX13_knownBy w_X13_knownBy RX13) (hml : c.maxLocals = 9) (hr : meth.sig.returnType = (some .int)) (hlk : meth.locks = false) (hc0 : gC v = 12) {k33 : Int32 → Int32 → Option (Int32)} {x2 : Int32} {x3 : Int32} {x4 : Int32} {x5 : Int32} (hk16 : ∀ (x4 : Int32) (x5 : Int32), k16 x4 x5 = some z → ∀ (H : Heap) (locs : List Loc), WB G (st S a v) s H locs → ∀ (ls : Array Slot), lv_has ls 9 [(0, .ref a), (2, .int x2), (3, .int x3), (4, .int x4), (5, .int x5)] → W p l e RM_X13_knownBy s m args below meth c H locs 0 0 (QR G below args s (some (.int z)) (st S a v) (st S a v)) (F0 m 16 ls [])) (hk33 : ∀ (x6 : Int32) (x7 : Int32), k33 x6 x7 = some z → ∀ (H : Heap) (locs : List Loc), WB G (st S a v) s H locs → ∀ (ls : Array Slot), lv_has ls 9 [(0, .ref a), (2, .int x2), (3, .int x3), (4, .int x4), (5, .int x5), (6, .int x6), (7, .int x7)] → W p l e RM_X13_knownBy s m args below meth c H locs 0 0 (QR G below args s (some (.int z)) (st S a v) (st S a v)) (F0 m 33 ls [])) : ∀ (x6 : Int32) (x7 : Int32), f_X13_knownBy_33s fu k16 k33 v x2 x3 x4 x5 x6 x7 = some z → ∀ (H : Heap) (locs : List Loc), WB G (st S a v) s H locs → ∀ (ls : Array Slot), lv_has ls 9 [(0, .ref a), (2, .int x2), (3, .int x3), (4, .int x4), (5, .int x5), (6, .int x6), (7, .int x7)] → W p l e RM_X13_knownBy s m args below meth c H locs 0 0 (QR G below args s (some (.int z)) (st S a v) (st S a v)) (F0 m 33 ls []) := by
  intro x6 x7 hf H locs hW ls hl
  have hx := hM.1
  have hb := hM.2.1
  have hc := hc0
  refine lv_iload hx hb dX13_knownBy_33 (lv_at hl 6 rfl) ?_
  refine lv_aload_n hx hb dX13_knownBy_35 rfl (lv_at hl 0 rfl) ?_
  refine b_get hM hW 11 24 hc rfl rfl (by decide) wi_X13 (wgm fk_RX13_125) (x := .ref (a + 16)) rfl dX13_knownBy_36 ?_
  refine lv_iconst (v := (2 : Int32)) hx hb dX13_knownBy_39 (by decide) ?_
  refine b_iald (n := 1518) hM hW 11 24 hc (by decide) rfl rfl rfl rfl (by decide) dX13_knownBy_40 ?_
  refine lv_icmp_ge (tgt := 108) hx hb dX13_knownBy_41 (by decide) (fun c1 => ?_) (fun c1 => ?_)
  · have hf := if_t c1 hf
    refine lv_iload hx hb dX13_knownBy_108 (lv_at hl 3 rfl) ?_
    refine lv_iload hx hb dX13_knownBy_110 (lv_at hl 5 rfl) ?_
    refine lv_if_eq (tgt := 122) hx hb dX13_knownBy_112 (by decide) (fun c2 => ?_) (fun c2 => ?_)
    · have hf := if_t c2 hf
      refine lv_iconst (v := (0 : Int32)) hx hb dX13_knownBy_122 (by decide) ?_
      exact t_X13_knownBy_123 (fu := fu) hM hml hr hlk hc0 hk16 hf _ _ hW _ (lv_sub hl [0, 1, 2, 4] rfl)
    · have hf := if_f c2 hf
      refine lv_iconst (v := (1 : Int32)) hx hb dX13_knownBy_115 (by decide) ?_
      refine lv_iload hx hb dX13_knownBy_116 (lv_at hl 4 rfl) ?_
      refine lv_ishl hx hb dX13_knownBy_118 ?_
      refine lv_goto (tgt := 123) hx hb dX13_knownBy_119 (by decide) ?_
      exact t_X13_knownBy_123 (fu := fu) hM hml hr hlk hc0 hk16 hf _ _ hW _ (lv_sub hl [0, 1, 2, 4] rfl)
  · have hf := if_f c1 hf
    refine lv_aload_n hx hb dX13_knownBy_44 rfl (lv_at hl 0 rfl) ?_
    refine b_get hM hW 11 24 hc rfl rfl (by decide) wi_X13 (wgm fk_RX13_125) (x := .ref (a + 16)) rfl dX13_knownBy_45 ?_
    refine lv_iconst (v := (3 : Int32)) hx hb dX13_knownBy_48 (by decide) ?_
    refine lv_iload hx hb dX13_knownBy_49 (lv_at hl 4 rfl) ?_
    refine lv_iadd hx hb dX13_knownBy_51 ?_
    refine lv_topi (fun y3 ey3 => ?_)
    have hf := nm_at ey3 hf
    obtain ⟨h4, hf⟩ := ck_elim hf
    refine b_iald (n := 1518) hM hW 11 24 hc (by decide) rfl rfl rfl rfl h4 dX13_knownBy_52 ?_
    refine lv_aload_n hx hb dX13_knownBy_53 rfl (lv_at hl 0 rfl) ?_
    refine b_get hM hW 11 24 hc rfl rfl (by decide) wi_X13 (wgm fk_RX13_125) (x := .ref (a + 16)) rfl dX13_knownBy_54 ?_
    refine lv_iconst (v := (3 : Int32)) hx hb dX13_knownBy_57 (by decide) ?_
    refine lv_iload hx hb dX13_knownBy_58 (lv_at hl 6 rfl) ?_
    refine lv_iadd hx hb dX13_knownBy_60 ?_
    refine lv_topi (fun y5 ey5 => ?_)
    have hf := nm_at ey5 hf
    obtain ⟨h6, hf⟩ := ck_elim hf
    refine b_iald (n := 1518) hM hW 11 24 hc (by decide) rfl rfl rfl rfl h6 dX13_knownBy_61 ?_
    refine lv_ixor hx hb dX13_knownBy_62 ?_
    refine lv_iload_n hx hb dX13_knownBy_63 rfl (lv_at hl 2 rfl) ?_
    refine lv_iand hx hb dX13_knownBy_64 ?_
    refine lv_if_ne (tgt := 72) hx hb dX13_knownBy_65 (by decide) (fun c7 => ?_) (fun c7 => ?_)
    · have hf := if_f c7 hf
      refine lv_iconst (v := (0 : Int32)) hx hb dX13_knownBy_72 (by decide) ?_
      exact t_X13_knownBy_73 (fu := fu) hM hml hr hlk hc0 hk16 hk33 hf _ _ hW _ (lv_sub hl [0, 1, 2, 3, 4, 5, 6] rfl)
    · have hf := if_t c7 hf
      refine lv_iconst (v := (1 : Int32)) hx hb dX13_knownBy_68 (by decide) ?_
      refine lv_goto (tgt := 73) hx hb dX13_knownBy_69 (by decide) ?_
      exact t_X13_knownBy_73 (fu := fu) hM hml hr hlk hc0 hk16 hk33 hf _ _ hW _ (lv_sub hl [0, 1, 2, 3, 4, 5, 6] rfl)
theorem t_X13_knownBy_33 {G : GG} {p : Program} {l : Launch} {e : Env} {s : State} {m : MethodId} {args : Array Value} {below : List Frame} {meth : Method} {c : Code} {S : ST} {fu : Nat} {z : Int32} {a : Nat} {v : GV} {k16 : Int32 → Int32 → Option (Int32)} {x2 : Int32} {x3 : Int32} {x4 : Int32} {x5 : Int32} (hM : MC G p s m args c cX13_knownBy w_X13_knownBy RX13) (hml : c.maxLocals = 9) (hr : meth.sig.returnType = (some .int)) (hlk : meth.locks = false) (hc0 : gC v = 12) (hk16 : ∀ (x4 : Int32) (x5 : Int32), k16 x4 x5 = some z → ∀ (H : Heap) (locs : List Loc), WB G (st S a v) s H locs → ∀ (ls : Array Slot), lv_has ls 9 [(0, .ref a), (2, .int x2), (3, .int x3), (4, .int x4), (5, .int x5)] → W p l e RM_X13_knownBy s m args below meth c H locs 0 0 (QR G below args s (some (.int z)) (st S a v) (st S a v)) (F0 m 16 ls [])) : ∀ {n : Nat} (x6 : Int32) (x7 : Int32), f_X13_knownBy_33 fu n k16 v x2 x3 x4 x5 x6 x7 = some z → ∀ (H : Heap) (locs : List Loc), WB G (st S a v) s H locs → ∀ (ls : Array Slot), lv_has ls 9 [(0, .ref a), (2, .int x2), (3, .int x3), (4, .int x4), (5, .int x5), (6, .int x6), (7, .int x7)] → W p l e RM_X13_knownBy s m args below meth c H locs 0 0 (QR G below args s (some (.int z)) (st S a v) (st S a v)) (F0 m 33 ls []) := by
  intro n
  induction n with
  | zero => intro x6 x7 hf; cases hf
  | succ n ih => intro x6 x7 hf; exact t_X13_knownBy_33s (fu := fu) hM hml hr hlk hc0 hk16 (k33 := f_X13_knownBy_33 fu n k16 v x2 x3 x4 x5) ih _ _ hf
noncomputable def f_X13_knownBy_16s (fu : Nat)  (k16 : Int32 → Int32 → Option (Int32)) (v : GV) (x2 : Int32) (x3 : Int32) (x4 : Int32) (x5 : Int32) : Option (Int32) :=
  if (gA v 24 (2 : Int32).toNatClampNeg) ≤ x5 then
    (some x4)
  else
    (f_X13_knownBy_33 fu fu k16 v x2 x3 x4 x5 (1 : Int32) (0 : Int32))
noncomputable def f_X13_knownBy_16 (fu n : Nat)  (v : GV) (x2 : Int32) (x3 : Int32) : Int32 → Int32 → Option (Int32) :=
  lq_2 (fun k16 => f_X13_knownBy_16s fu  k16 v x2 x3) n
set_option maxHeartbeats 4000000 in
set_option maxRecDepth 100000 in
theorem t_X13_knownBy_16s {G : GG} {p : Program} {l : Launch} {e : Env} {s : State} {m : MethodId} {args : Array Value} {below : List Frame} {meth : Method} {c : Code} {S : ST} {fu : Nat} {z : Int32} {a : Nat} {v : GV}  (hM : MC G p s m args c cX13_knownBy w_X13_knownBy RX13) (hml : c.maxLocals = 9) (hr : meth.sig.returnType = (some .int)) (hlk : meth.locks = false) (hc0 : gC v = 12) {k16 : Int32 → Int32 → Option (Int32)} {x2 : Int32} {x3 : Int32}  (hk16 : ∀ (x4 : Int32) (x5 : Int32), k16 x4 x5 = some z → ∀ (H : Heap) (locs : List Loc), WB G (st S a v) s H locs → ∀ (ls : Array Slot), lv_has ls 9 [(0, .ref a), (2, .int x2), (3, .int x3), (4, .int x4), (5, .int x5)] → W p l e RM_X13_knownBy s m args below meth c H locs 0 0 (QR G below args s (some (.int z)) (st S a v) (st S a v)) (F0 m 16 ls [])) : ∀ (x4 : Int32) (x5 : Int32), f_X13_knownBy_16s fu  k16 v x2 x3 x4 x5 = some z → ∀ (H : Heap) (locs : List Loc), WB G (st S a v) s H locs → ∀ (ls : Array Slot), lv_has ls 9 [(0, .ref a), (2, .int x2), (3, .int x3), (4, .int x4), (5, .int x5)] → W p l e RM_X13_knownBy s m args below meth c H locs 0 0 (QR G below args s (some (.int z)) (st S a v) (st S a v)) (F0 m 16 ls []) := by
  intro x4 x5 hf H locs hW ls hl
  have hx := hM.1
  have hb := hM.2.1
  have hc := hc0
  refine lv_iload hx hb dX13_knownBy_16 (lv_at hl 4 rfl) ?_
  refine lv_aload_n hx hb dX13_knownBy_18 rfl (lv_at hl 0 rfl) ?_
  refine b_get hM hW 11 24 hc rfl rfl (by decide) wi_X13 (wgm fk_RX13_125) (x := .ref (a + 16)) rfl dX13_knownBy_19 ?_
  refine lv_iconst (v := (2 : Int32)) hx hb dX13_knownBy_22 (by decide) ?_
  refine b_iald (n := 1518) hM hW 11 24 hc (by decide) rfl rfl rfl rfl (by decide) dX13_knownBy_23 ?_
  refine lv_icmp_ge (tgt := 132) hx hb dX13_knownBy_24 (by decide) (fun c1 => ?_) (fun c1 => ?_)
  · have hf := if_t c1 hf
    refine lv_iload hx hb dX13_knownBy_132 (lv_at hl 3 rfl) ?_
    cases hf
    exact W.iret hx hb hr (b_ret0 hW (fun _ _ => rfl) _) hW.2.2.2 dX13_knownBy_134 hlk
  · have hf := if_f c1 hf
    refine lv_iconst (v := (1 : Int32)) hx hb dX13_knownBy_27 (by decide) ?_
    refine lv_istore (lv' := [(6, .int (1 : Int32)), (0, .ref a), (2, .int x2), (3, .int x3), (4, .int x4), (5, .int x5)]) hx hb dX13_knownBy_28 hl (by decide) rfl (fun ls hl => ?_)
    refine lv_iconst (v := (0 : Int32)) hx hb dX13_knownBy_30 (by decide) ?_
    refine lv_istore (lv' := [(7, .int (0 : Int32)), (6, .int (1 : Int32)), (0, .ref a), (2, .int x2), (3, .int x3), (4, .int x4), (5, .int x5)]) hx hb dX13_knownBy_31 hl (by decide) rfl (fun ls hl => ?_)
    exact t_X13_knownBy_33 (fu := fu) hM hml hr hlk hc0 hk16 _ _ hf _ _ hW _ (lv_sub hl [2, 3, 4, 5, 6, 1, 0] rfl)
theorem t_X13_knownBy_16 {G : GG} {p : Program} {l : Launch} {e : Env} {s : State} {m : MethodId} {args : Array Value} {below : List Frame} {meth : Method} {c : Code} {S : ST} {fu : Nat} {z : Int32} {a : Nat} {v : GV}  {x2 : Int32} {x3 : Int32} (hM : MC G p s m args c cX13_knownBy w_X13_knownBy RX13) (hml : c.maxLocals = 9) (hr : meth.sig.returnType = (some .int)) (hlk : meth.locks = false) (hc0 : gC v = 12)  : ∀ {n : Nat} (x4 : Int32) (x5 : Int32), f_X13_knownBy_16 fu n  v x2 x3 x4 x5 = some z → ∀ (H : Heap) (locs : List Loc), WB G (st S a v) s H locs → ∀ (ls : Array Slot), lv_has ls 9 [(0, .ref a), (2, .int x2), (3, .int x3), (4, .int x4), (5, .int x5)] → W p l e RM_X13_knownBy s m args below meth c H locs 0 0 (QR G below args s (some (.int z)) (st S a v) (st S a v)) (F0 m 16 ls []) := by
  intro n
  induction n with
  | zero => intro x4 x5 hf; cases hf
  | succ n ih => intro x4 x5 hf; exact t_X13_knownBy_16s (fu := fu) hM hml hr hlk hc0  (k16 := f_X13_knownBy_16 fu n  v x2 x3) ih _ _ hf
noncomputable def f_X13_knownBy_0 (fu : Nat)  (v : GV) (x1 : Int32) (x2 : Int32) : Option (Int32) :=
  nm (((26 : Int32) + x1)) fun y1 =>
  ck (inb y1 140) <|
  nm ((gA v 10 y1.toNatClampNeg)) fun y3 =>
  f_X13_knownBy_16 fu fu v x2 y3 (0 : Int32) (0 : Int32)
set_option maxHeartbeats 4000000 in
set_option maxRecDepth 100000 in
theorem t_X13_knownBy_0 {G : GG} {p : Program} {l : Launch} {e : Env} {s : State} {m : MethodId} {args : Array Value} {below : List Frame} {meth : Method} {c : Code} {S : ST} {fu : Nat} {z : Int32} {a : Nat} {v : GV}  {x1 : Int32} {x2 : Int32} (hM : MC G p s m args c cX13_knownBy w_X13_knownBy RX13) (hml : c.maxLocals = 9) (hr : meth.sig.returnType = (some .int)) (hlk : meth.locks = false) (hc0 : gC v = 12)  (hf : f_X13_knownBy_0 fu  v x1 x2 = some z) : ∀ (H : Heap) (locs : List Loc), WB G (st S a v) s H locs → ∀ (ls : Array Slot), lv_has ls 9 [(0, .ref a), (1, .int x1), (2, .int x2)] → W p l e RM_X13_knownBy s m args below meth c H locs 0 0 (QR G below args s (some (.int z)) (st S a v) (st S a v)) (F0 m 0 ls []) := by
  intro H locs hW ls hl
  have hx := hM.1
  have hb := hM.2.1
  have hc := hc0
  refine lv_aload_n hx hb dX13_knownBy_0 rfl (lv_at hl 0 rfl) ?_
  refine b_get hM hW 11 10 hc rfl rfl (by decide) wi_X13 (wgm fk_RX13_95) (x := .ref (a + 6)) rfl dX13_knownBy_1 ?_
  refine lv_bipush (v := (26 : Int32)) hx hb dX13_knownBy_4 (by decide) ?_
  refine lv_iload_n hx hb dX13_knownBy_6 rfl (lv_at hl 1 rfl) ?_
  refine lv_iadd hx hb dX13_knownBy_7 ?_
  refine lv_topi (fun y1 ey1 => ?_)
  have hf := nm_at ey1 hf
  obtain ⟨h2, hf⟩ := ck_elim hf
  refine b_iald (n := 140) hM hW 11 10 hc (by decide) rfl rfl rfl rfl h2 dX13_knownBy_8 ?_
  refine lv_topi (fun y3 ey3 => ?_)
  have hf := nm_at ey3 hf
  refine lv_istore_n (lv' := [(3, .int y3), (0, .ref a), (1, .int x1), (2, .int x2)]) hx hb dX13_knownBy_9 rfl hl (by decide) rfl (fun ls hl => ?_)
  refine lv_iconst (v := (0 : Int32)) hx hb dX13_knownBy_10 (by decide) ?_
  refine lv_istore (lv' := [(4, .int (0 : Int32)), (3, .int y3), (0, .ref a), (1, .int x1), (2, .int x2)]) hx hb dX13_knownBy_11 hl (by decide) rfl (fun ls hl => ?_)
  refine lv_iconst (v := (0 : Int32)) hx hb dX13_knownBy_13 (by decide) ?_
  refine lv_istore (lv' := [(5, .int (0 : Int32)), (4, .int (0 : Int32)), (3, .int y3), (0, .ref a), (1, .int x1), (2, .int x2)]) hx hb dX13_knownBy_14 hl (by decide) rfl (fun ls hl => ?_)
  exact t_X13_knownBy_16 (fu := fu) hM hml hr hlk hc0 _ _ hf _ _ hW _ (lv_sub hl [3, 5, 2, 1, 0] rfl)
noncomputable def f_X13_knownBy (fu : Nat) (v : GV) (x1 : Int32) (x2 : Int32) : Option (Int32) := f_X13_knownBy_0 fu v x1 x2
set_option maxHeartbeats 4000000 in
set_option maxRecDepth 100000 in
theorem c_X13_knownBy (l : Launch) (G : GG) (fu : Nat) (S : ST) (a : Nat) (v : GV) (x1 : Int32) (x2 : Int32) {z : Int32} (hc : gC v = 12) (hf : f_X13_knownBy fu v x1 x2 = some z) : Ct l yX13_knownBy w_X13_knownBy RM_X13_knownBy G (st S a v) [.ref a, .int x1, .int x2] (some (.int z)) (st S a v) 0 0 := by
  refine Met.ofW (cc := cX13_knownBy) (maxL := 9) (ret := (some .int)) (by decide) rfl ?_
  intro p e s m args below meth c s₁ B hml hv
  obtain ⟨rfl, hB, hK, hz⟩ := hv
  have hM : MC G p s m _ c cX13_knownBy w_X13_knownBy RX13 := ⟨B.exec, B.bytes, findClass_of_methodNamed B.named, atoms_spec (ws := w_X13_knownBy) B.pre, hK, hz⟩
  have hW : WB G (st S a v) s s.heap [] := ⟨hB, va_S.rf⟩
  have hl := lv_entry ([.ref a, .int x1, .int x2]) (n := 9) (Nat.le_of_ble_eq_true rfl)
  rw [lg_entry_eq]
  generalize (lg_sl ([.ref a, .int x1, .int x2]) ++ List.replicate (9 - (lg_sl ([.ref a, .int x1, .int x2])).length) Slot.unset).toArray = ls at hl ⊢
  have hl : lv_has ls 9 [(0, .ref a), (1, .int x1), (2, .int x2)] := hl
  exact t_X13_knownBy_0 hM hml B.returns B.notSynchronized hc hf _ _ hW _ (lv_sub hl [0, 1, 2] rfl)
abbrev w_X13_knownByAll : List Cond := Cond.code yX13_knownByAll cX13_knownByAll 4 (some .int) :: wsL_law0
abbrev RM_X13_knownByAll : Room := { frames := 1, cells := 0, slots := 0, locals := 28 }
noncomputable def f_X13_knownByAll_4s (fu : Nat)  (k4 : Int32 → Int32 → Option (Int32)) (v : GV) (x1 : Int32) (x2 : Int32) (x3 : Int32) : Option (Int32) :=
  bd (f_X13_experts fu v) fun r1 =>
  if r1 ≤ x3 then
    (some x2)
  else
    (bd (f_X13_knownBy fu v x3 x1) fun r3 =>
    nm ((x2 &&& r3)) fun y4 =>
    nm (x3 + (1 : Int32)) fun y5 =>
    k4 y4 y5)
noncomputable def f_X13_knownByAll_4 (fu n : Nat)  (v : GV) (x1 : Int32) : Int32 → Int32 → Option (Int32) :=
  lq_2 (fun k4 => f_X13_knownByAll_4s fu  k4 v x1) n
set_option maxHeartbeats 4000000 in
set_option maxRecDepth 100000 in
theorem t_X13_knownByAll_4s {G : GG} {p : Program} {l : Launch} {e : Env} {s : State} {m : MethodId} {args : Array Value} {below : List Frame} {meth : Method} {c : Code} {S : ST} {fu : Nat} {z : Int32} {a : Nat} {v : GV}  (hM : MC G p s m args c cX13_knownByAll w_X13_knownByAll RX13) (hml : c.maxLocals = 4) (hr : meth.sig.returnType = (some .int)) (hlk : meth.locks = false) (hc0 : gC v = 12) {k4 : Int32 → Int32 → Option (Int32)} {x1 : Int32}  (hk4 : ∀ (x2 : Int32) (x3 : Int32), k4 x2 x3 = some z → ∀ (H : Heap) (locs : List Loc), WB G (st S a v) s H locs → ∀ (ls : Array Slot), lv_has ls 4 [(0, .ref a), (1, .int x1), (2, .int x2), (3, .int x3)] → W p l e RM_X13_knownByAll s m args below meth c H locs 0 0 (QR G below args s (some (.int z)) (st S a v) (st S a v)) (F0 m 4 ls [])) : ∀ (x2 : Int32) (x3 : Int32), f_X13_knownByAll_4s fu  k4 v x1 x2 x3 = some z → ∀ (H : Heap) (locs : List Loc), WB G (st S a v) s H locs → ∀ (ls : Array Slot), lv_has ls 4 [(0, .ref a), (1, .int x1), (2, .int x2), (3, .int x3)] → W p l e RM_X13_knownByAll s m args below meth c H locs 0 0 (QR G below args s (some (.int z)) (st S a v) (st S a v)) (F0 m 4 ls []) := by
  intro x2 x3 hf H locs hW ls hl
  have hx := hM.1
  have hb := hM.2.1
  have hc := hc0
  refine lv_iload_n hx hb dX13_knownByAll_4 rfl (lv_at hl 3 rfl) ?_
  refine lv_aload_n hx hb dX13_knownByAll_5 rfl (lv_at hl 0 rfl) ?_
  obtain ⟨r1, hr1, hf⟩ := bd_elim hf
  refine b_callVi [] [.int x3] hM hml hl.1 hW hc rfl (by decide) (c_X13_experts l G fu _ a v hc hr1) (cwV 0 hM.2.2.2.1 (gV mk_RX13_436 im_X13_experts se_X13_experts it_RX13 cd_X13_experts) rfl rfl rfl (by decide +kernel) ⟨Nat.le_of_ble_eq_true rfl, Nat.le_of_ble_eq_true rfl⟩) rfl rfl (Nat.le_of_ble_eq_true rfl) ⟨Nat.zero_le _, Nat.zero_le _⟩ dX13_knownByAll_6 (fun H locs hW hk => ?_)
  refine lv_icmp_ge (tgt := 27) hx hb dX13_knownByAll_9 (by decide) (fun c2 => ?_) (fun c2 => ?_)
  · have hf := if_t c2 hf
    refine lv_iload_n hx hb dX13_knownByAll_27 rfl (lv_at hl 2 rfl) ?_
    cases hf
    exact W.iret hx hb hr (b_ret0 hW (fun _ _ => rfl) _) hW.2.2.2 dX13_knownByAll_28 hlk
  · have hf := if_f c2 hf
    refine lv_iload_n hx hb dX13_knownByAll_12 rfl (lv_at hl 2 rfl) ?_
    refine lv_aload_n hx hb dX13_knownByAll_13 rfl (lv_at hl 0 rfl) ?_
    refine lv_iload_n hx hb dX13_knownByAll_14 rfl (lv_at hl 3 rfl) ?_
    refine lv_iload_n hx hb dX13_knownByAll_15 rfl (lv_at hl 1 rfl) ?_
    obtain ⟨r3, hr3, hf⟩ := bd_elim hf
    refine b_callVi [.int x3, .int x1] [.int x2] hM hml hl.1 hW hc rfl (by decide) (c_X13_knownBy l G fu _ a v _ _ hc hr3) (cwV 2 hM.2.2.2.1 (gV mk_RX13_439 im_X13_knownBy se_X13_knownBy it_RX13 cd_X13_knownBy) rfl rfl rfl (by decide +kernel) ⟨Nat.le_of_ble_eq_true rfl, Nat.le_of_ble_eq_true rfl⟩) rfl rfl (Nat.le_of_ble_eq_true rfl) ⟨Nat.zero_le _, Nat.zero_le _⟩ dX13_knownByAll_16 (fun H locs hW hk => ?_)
    refine lv_iand hx hb dX13_knownByAll_19 ?_
    refine lv_topi (fun y4 ey4 => ?_)
    have hf := nm_at ey4 hf
    refine lv_istore_n (lv' := [(2, .int y4), (0, .ref a), (1, .int x1), (3, .int x3)]) hx hb dX13_knownByAll_20 rfl hl (by decide) rfl (fun ls hl => ?_)
    obtain ⟨y5, ey5⟩ : ∃ y : Int32, y = x3 + (1 : Int32) := ⟨_, rfl⟩
    have hf := nm_at ey5 hf
    refine lv_iinc (v := y5) (lv' := [(3, .int y5), (2, .int y4), (0, .ref a), (1, .int x1)]) hx hb dX13_knownByAll_21 hl (k := 3) rfl (by rw [ey5]; rfl) (by decide) rfl (fun ls hl => ?_)
    refine lv_goto (tgt := 4) hx hb dX13_knownByAll_24 (by decide) ?_
    exact hk4 _ _ hf _ _ hW _ (lv_sub hl [2, 3, 1, 0] rfl)
theorem t_X13_knownByAll_4 {G : GG} {p : Program} {l : Launch} {e : Env} {s : State} {m : MethodId} {args : Array Value} {below : List Frame} {meth : Method} {c : Code} {S : ST} {fu : Nat} {z : Int32} {a : Nat} {v : GV}  {x1 : Int32} (hM : MC G p s m args c cX13_knownByAll w_X13_knownByAll RX13) (hml : c.maxLocals = 4) (hr : meth.sig.returnType = (some .int)) (hlk : meth.locks = false) (hc0 : gC v = 12)  : ∀ {n : Nat} (x2 : Int32) (x3 : Int32), f_X13_knownByAll_4 fu n  v x1 x2 x3 = some z → ∀ (H : Heap) (locs : List Loc), WB G (st S a v) s H locs → ∀ (ls : Array Slot), lv_has ls 4 [(0, .ref a), (1, .int x1), (2, .int x2), (3, .int x3)] → W p l e RM_X13_knownByAll s m args below meth c H locs 0 0 (QR G below args s (some (.int z)) (st S a v) (st S a v)) (F0 m 4 ls []) := by
  intro n
  induction n with
  | zero => intro x2 x3 hf; cases hf
  | succ n ih => intro x2 x3 hf; exact t_X13_knownByAll_4s (fu := fu) hM hml hr hlk hc0  (k4 := f_X13_knownByAll_4 fu n  v x1) ih _ _ hf
noncomputable def f_X13_knownByAll_0 (fu : Nat)  (v : GV) (x1 : Int32) : Option (Int32) :=
  f_X13_knownByAll_4 fu fu v x1 x1 (0 : Int32)
set_option maxHeartbeats 4000000 in
set_option maxRecDepth 100000 in
theorem t_X13_knownByAll_0 {G : GG} {p : Program} {l : Launch} {e : Env} {s : State} {m : MethodId} {args : Array Value} {below : List Frame} {meth : Method} {c : Code} {S : ST} {fu : Nat} {z : Int32} {a : Nat} {v : GV}  {x1 : Int32} (hM : MC G p s m args c cX13_knownByAll w_X13_knownByAll RX13) (hml : c.maxLocals = 4) (hr : meth.sig.returnType = (some .int)) (hlk : meth.locks = false) (hc0 : gC v = 12)  (hf : f_X13_knownByAll_0 fu  v x1 = some z) : ∀ (H : Heap) (locs : List Loc), WB G (st S a v) s H locs → ∀ (ls : Array Slot), lv_has ls 4 [(0, .ref a), (1, .int x1)] → W p l e RM_X13_knownByAll s m args below meth c H locs 0 0 (QR G below args s (some (.int z)) (st S a v) (st S a v)) (F0 m 0 ls []) := by
  intro H locs hW ls hl
  have hx := hM.1
  have hb := hM.2.1
  have hc := hc0
  refine lv_iload_n hx hb dX13_knownByAll_0 rfl (lv_at hl 1 rfl) ?_
  refine lv_istore_n (lv' := [(2, .int x1), (0, .ref a), (1, .int x1)]) hx hb dX13_knownByAll_1 rfl hl (by decide) rfl (fun ls hl => ?_)
  refine lv_iconst (v := (0 : Int32)) hx hb dX13_knownByAll_2 (by decide) ?_
  refine lv_istore_n (lv' := [(3, .int (0 : Int32)), (2, .int x1), (0, .ref a), (1, .int x1)]) hx hb dX13_knownByAll_3 rfl hl (by decide) rfl (fun ls hl => ?_)
  exact t_X13_knownByAll_4 (fu := fu) hM hml hr hlk hc0 _ _ hf _ _ hW _ (lv_sub hl [2, 3, 1, 0] rfl)
noncomputable def f_X13_knownByAll (fu : Nat) (v : GV) (x1 : Int32) : Option (Int32) := f_X13_knownByAll_0 fu v x1
set_option maxHeartbeats 4000000 in
set_option maxRecDepth 100000 in
theorem c_X13_knownByAll (l : Launch) (G : GG) (fu : Nat) (S : ST) (a : Nat) (v : GV) (x1 : Int32) {z : Int32} (hc : gC v = 12) (hf : f_X13_knownByAll fu v x1 = some z) : Ct l yX13_knownByAll w_X13_knownByAll RM_X13_knownByAll G (st S a v) [.ref a, .int x1] (some (.int z)) (st S a v) 0 0 := by
  refine Met.ofW (cc := cX13_knownByAll) (maxL := 4) (ret := (some .int)) (by decide) rfl ?_
  intro p e s m args below meth c s₁ B hml hv
  obtain ⟨rfl, hB, hK, hz⟩ := hv
  have hM : MC G p s m _ c cX13_knownByAll w_X13_knownByAll RX13 := ⟨B.exec, B.bytes, findClass_of_methodNamed B.named, atoms_spec (ws := w_X13_knownByAll) B.pre, hK, hz⟩
  have hW : WB G (st S a v) s s.heap [] := ⟨hB, va_S.rf⟩
  have hl := lv_entry ([.ref a, .int x1]) (n := 4) (Nat.le_of_ble_eq_true rfl)
  rw [lg_entry_eq]
  generalize (lg_sl ([.ref a, .int x1]) ++ List.replicate (4 - (lg_sl ([.ref a, .int x1])).length) Slot.unset).toArray = ls at hl ⊢
  have hl : lv_has ls 4 [(0, .ref a), (1, .int x1)] := hl
  exact t_X13_knownByAll_0 hM hml B.returns B.notSynchronized hc hf _ _ hW _ (lv_sub hl [0, 1] rfl)
abbrev w_X13_knows : List Cond := Cond.code yX13_knows cX13_knows 3 (some .int) :: wsL_law0
abbrev RM_X13_knows : Room := { frames := 2, cells := 0, slots := 0, locals := 43 }
noncomputable def f_X13_knows_36 (fu : Nat)  (v : GV) : Option (Int32 × GV) :=
  some ((-1 : Int32), v)
set_option maxHeartbeats 4000000 in
set_option maxRecDepth 100000 in
theorem t_X13_knows_36 {G : GG} {p : Program} {l : Launch} {e : Env} {s : State} {m : MethodId} {args : Array Value} {below : List Frame} {meth : Method} {c : Code} {S : ST} {fu : Nat} {z : Int32 × GV} {a : Nat} {v0 : GV}  {v : GV} (hM : MC G p s m args c cX13_knows w_X13_knows RX13) (hml : c.maxLocals = 3) (hr : meth.sig.returnType = (some .int)) (hlk : meth.locks = false) (hc0 : gC v0 = 12)  (hf : f_X13_knows_36 fu  v  = some z) : gC v = 12 → ∀ (H : Heap) (locs : List Loc), WB G (st S a v) s H locs → ∀ (ls : Array Slot), lv_has ls 3 [] → W p l e RM_X13_knows s m args below meth c H locs 0 0 (QR G below args s (some (.int z.1)) (st S a v0) (st S a z.2)) (F0 m 36 ls []) := by
  intro hc H locs hW ls hl
  have hx := hM.1
  have hb := hM.2.1
  refine lv_iconst (v := (-1 : Int32)) hx hb dX13_knows_36 (by decide) ?_
  cases hf
  exact W.iret hx hb hr (b_ret0 hW (keep_s2 hc0 hc) _) hW.2.2.2 dX13_knows_37 hlk
noncomputable def f_X13_knows_0 (fu : Nat)  (v : GV) (x1 : Int32) (x2 : Int32) : Option (Int32 × GV) :=
  nm (sI v 0 (0 : Int32)) fun v1 =>
  bd (f_X13_experts fu v1) fun r2 =>
  bd (f_X13_within fu x1 (0 : Int32) (r2 - (1 : Int32))) fun r3 =>
  if r3 = 0 then
    (f_X13_knows_36 fu v1)
  else
    (bd (f_X13_areThere fu v1 x2) fun r5 =>
    if r5 = 0 then
      (f_X13_knows_36 fu v1)
    else
      (bd (f_X13_knownBy fu v1 x1 x2) fun r7 =>
      some (r7, v1)))
set_option maxHeartbeats 4000000 in
set_option maxRecDepth 100000 in
theorem t_X13_knows_0 {G : GG} {p : Program} {l : Launch} {e : Env} {s : State} {m : MethodId} {args : Array Value} {below : List Frame} {meth : Method} {c : Code} {S : ST} {fu : Nat} {z : Int32 × GV} {a : Nat} {v0 : GV}  {v : GV} {x1 : Int32} {x2 : Int32} (hM : MC G p s m args c cX13_knows w_X13_knows RX13) (hml : c.maxLocals = 3) (hr : meth.sig.returnType = (some .int)) (hlk : meth.locks = false) (hc0 : gC v0 = 12)  (hf : f_X13_knows_0 fu  v x1 x2 = some z) : gC v = 12 → ∀ (H : Heap) (locs : List Loc), WB G (st S a v) s H locs → ∀ (ls : Array Slot), lv_has ls 3 [(0, .ref a), (1, .int x1), (2, .int x2)] → W p l e RM_X13_knows s m args below meth c H locs 0 0 (QR G below args s (some (.int z.1)) (st S a v0) (st S a z.2)) (F0 m 0 ls []) := by
  intro hc H locs hW ls hl
  have hx := hM.1
  have hb := hM.2.1
  refine lv_aload_n hx hb dX13_knows_0 rfl (lv_at hl 0 rfl) ?_
  refine lv_iconst (v := (0 : Int32)) hx hb dX13_knows_1 (by decide) ?_
  refine b_putI hM hW 11 0 hc rfl rfl (by decide) wi_X13 tyX13 tyX13_ok nmX13 (wgm fk_RX13_1) rfl rfl rfl dX13_knows_2 (fun v1 ev1 hc H locs hW => ?_)
  have hf := nm_at ev1 hf
  refine lv_iload_n hx hb dX13_knows_5 rfl (lv_at hl 1 rfl) ?_
  refine lv_iconst (v := (0 : Int32)) hx hb dX13_knows_6 (by decide) ?_
  refine lv_aload_n hx hb dX13_knows_7 rfl (lv_at hl 0 rfl) ?_
  obtain ⟨r2, hr2, hf⟩ := bd_elim hf
  refine b_callVi [] [.int (0 : Int32), .int x1] hM hml hl.1 hW hc rfl (by decide) (c_X13_experts l G fu _ a v1 hc hr2) (cwV 0 hM.2.2.2.1 (gV mk_RX13_436 im_X13_experts se_X13_experts it_RX13 cd_X13_experts) rfl rfl rfl (by decide +kernel) ⟨Nat.le_of_ble_eq_true rfl, Nat.le_of_ble_eq_true rfl⟩) rfl rfl (Nat.le_of_ble_eq_true rfl) ⟨Nat.zero_le _, Nat.zero_le _⟩ dX13_knows_8 (fun H locs hW hk => ?_)
  refine lv_iconst (v := (1 : Int32)) hx hb dX13_knows_11 (by decide) ?_
  refine lv_isub hx hb dX13_knows_12 ?_
  obtain ⟨r3, hr3, hf⟩ := bd_elim hf
  refine b_callSi [.int x1, .int (0 : Int32), .int (r2 - (1 : Int32))] [] hM hml hl.1 hW (c_X13_within l G fu _ _ _ _ hr3) (va_cwS 3 hM.2.2.2.1 (gS mk_RX13_231 sm_X13_within it_RX13 cd_X13_within) rfl rfl rfl (by decide +kernel) ⟨Nat.le_of_ble_eq_true rfl, Nat.le_of_ble_eq_true rfl⟩) rfl rfl (Nat.le_of_ble_eq_true rfl) ⟨Nat.zero_le _, Nat.zero_le _⟩ dX13_knows_13 (fun H locs hW hk => ?_)
  refine lv_if_eq (tgt := 36) hx hb dX13_knows_16 (by decide) (fun c4 => ?_) (fun c4 => ?_)
  · have hf := if_t c4 hf
    exact t_X13_knows_36 (fu := fu) hM hml hr hlk hc0 hf hc _ _ hW _ (lv_sub hl [] rfl)
  · have hf := if_f c4 hf
    refine lv_aload_n hx hb dX13_knows_19 rfl (lv_at hl 0 rfl) ?_
    refine lv_iload_n hx hb dX13_knows_20 rfl (lv_at hl 2 rfl) ?_
    obtain ⟨r5, hr5, hf⟩ := bd_elim hf
    refine b_callVi [.int x2] [] hM hml hl.1 hW hc rfl (by decide) (c_X13_areThere l G fu _ a v1 _ hc hr5) (cwV 1 hM.2.2.2.1 (gV mk_RX13_421 im_X13_areThere se_X13_areThere it_RX13 cd_X13_areThere) rfl rfl rfl (by decide +kernel) ⟨Nat.le_of_ble_eq_true rfl, Nat.le_of_ble_eq_true rfl⟩) rfl rfl (Nat.le_of_ble_eq_true rfl) ⟨Nat.zero_le _, Nat.zero_le _⟩ dX13_knows_21 (fun H locs hW hk => ?_)
    refine lv_if_eq (tgt := 36) hx hb dX13_knows_24 (by decide) (fun c6 => ?_) (fun c6 => ?_)
    · have hf := if_t c6 hf
      exact t_X13_knows_36 (fu := fu) hM hml hr hlk hc0 hf hc _ _ hW _ (lv_sub hl [] rfl)
    · have hf := if_f c6 hf
      refine lv_aload_n hx hb dX13_knows_27 rfl (lv_at hl 0 rfl) ?_
      refine lv_iload_n hx hb dX13_knows_28 rfl (lv_at hl 1 rfl) ?_
      refine lv_iload_n hx hb dX13_knows_29 rfl (lv_at hl 2 rfl) ?_
      obtain ⟨r7, hr7, hf⟩ := bd_elim hf
      refine b_callVi [.int x1, .int x2] [] hM hml hl.1 hW hc rfl (by decide) (c_X13_knownBy l G fu _ a v1 _ _ hc hr7) (cwV 2 hM.2.2.2.1 (gV mk_RX13_439 im_X13_knownBy se_X13_knownBy it_RX13 cd_X13_knownBy) rfl rfl rfl (by decide +kernel) ⟨Nat.le_of_ble_eq_true rfl, Nat.le_of_ble_eq_true rfl⟩) rfl rfl (Nat.le_of_ble_eq_true rfl) ⟨Nat.zero_le _, Nat.zero_le _⟩ dX13_knows_30 (fun H locs hW hk => ?_)
      refine lv_goto (tgt := 37) hx hb dX13_knows_33 (by decide) ?_
      cases hf
      exact W.iret hx hb hr (b_ret0 hW (keep_s2 hc0 hc) _) hW.2.2.2 dX13_knows_37 hlk
noncomputable def f_X13_knows (fu : Nat) (v : GV) (x1 : Int32) (x2 : Int32) : Option (Int32 × GV) := f_X13_knows_0 fu v x1 x2
set_option maxHeartbeats 4000000 in
set_option maxRecDepth 100000 in
theorem c_X13_knows (l : Launch) (G : GG) (fu : Nat) (S : ST) (a : Nat) (v : GV) (x1 : Int32) (x2 : Int32) {z : Int32} {w : GV} (hc : gC v = 12) (hf : f_X13_knows fu v x1 x2 = some (z, w)) : Ct l yX13_knows w_X13_knows RM_X13_knows G (st S a v) [.ref a, .int x1, .int x2] (some (.int z)) (st S a w) 0 0 := by
  refine Met.ofW (cc := cX13_knows) (maxL := 3) (ret := (some .int)) (by decide) rfl ?_
  intro p e s m args below meth c s₁ B hml hv
  obtain ⟨rfl, hB, hK, hz⟩ := hv
  have hM : MC G p s m _ c cX13_knows w_X13_knows RX13 := ⟨B.exec, B.bytes, findClass_of_methodNamed B.named, atoms_spec (ws := w_X13_knows) B.pre, hK, hz⟩
  have hW : WB G (st S a v) s s.heap [] := ⟨hB, va_S.rf⟩
  have hl := lv_entry ([.ref a, .int x1, .int x2]) (n := 3) (Nat.le_of_ble_eq_true rfl)
  rw [lg_entry_eq]
  generalize (lg_sl ([.ref a, .int x1, .int x2]) ++ List.replicate (3 - (lg_sl ([.ref a, .int x1, .int x2])).length) Slot.unset).toArray = ls at hl ⊢
  have hl : lv_has ls 3 [(0, .ref a), (1, .int x1), (2, .int x2)] := hl
  exact t_X13_knows_0 hM hml B.returns B.notSynchronized hc hf hc _ _ hW _ (lv_sub hl [0, 1, 2] rfl)
abbrev w_X13_depth : List Cond := Cond.code yX13_depth cX13_depth 5 (some .int) :: wsL_law0
abbrev RM_X13_depth : Room := { frames := 2, cells := 0, slots := 0, locals := 51 }
noncomputable def f_X13_depth_30s (fu : Nat)  (k30 : Int32 → Int32 → GV → Option (Int32 × GV)) (x2 : Int32) (x3 : Int32) (x4 : Int32) (v : GV) : Option (Int32 × GV) :=
  if x2 ≤ x4 then
    (some (x3, v))
  else
    (bd (f_X13_knownByAll fu v x3) fun r2 =>
    nm (x4 + (1 : Int32)) fun y3 =>
    k30 r2 y3 v)
noncomputable def f_X13_depth_30 (fu n : Nat)  (x2 : Int32) : Int32 → Int32 → GV → Option (Int32 × GV) :=
  lq_3 (fun k30 => f_X13_depth_30s fu  k30 x2) n
set_option maxHeartbeats 4000000 in
set_option maxRecDepth 100000 in
theorem t_X13_depth_30s {G : GG} {p : Program} {l : Launch} {e : Env} {s : State} {m : MethodId} {args : Array Value} {below : List Frame} {meth : Method} {c : Code} {S : ST} {fu : Nat} {z : Int32 × GV} {a : Nat} {v0 : GV}  (hM : MC G p s m args c cX13_depth w_X13_depth RX13) (hml : c.maxLocals = 5) (hr : meth.sig.returnType = (some .int)) (hlk : meth.locks = false) (hc0 : gC v0 = 12) {k30 : Int32 → Int32 → GV → Option (Int32 × GV)} {x2 : Int32}  (hk30 : ∀ (x3 : Int32) (x4 : Int32) (v : GV), k30 x3 x4 v = some z → gC v = 12 → ∀ (H : Heap) (locs : List Loc), WB G (st S a v) s H locs → ∀ (ls : Array Slot), lv_has ls 5 [(0, .ref a), (2, .int x2), (3, .int x3), (4, .int x4)] → W p l e RM_X13_depth s m args below meth c H locs 0 0 (QR G below args s (some (.int z.1)) (st S a v0) (st S a z.2)) (F0 m 30 ls [])) : ∀ (x3 : Int32) (x4 : Int32) (v : GV), f_X13_depth_30s fu  k30 x2 x3 x4 v = some z → gC v = 12 → ∀ (H : Heap) (locs : List Loc), WB G (st S a v) s H locs → ∀ (ls : Array Slot), lv_has ls 5 [(0, .ref a), (2, .int x2), (3, .int x3), (4, .int x4)] → W p l e RM_X13_depth s m args below meth c H locs 0 0 (QR G below args s (some (.int z.1)) (st S a v0) (st S a z.2)) (F0 m 30 ls []) := by
  intro x3 x4 v hf hc H locs hW ls hl
  have hx := hM.1
  have hb := hM.2.1
  refine lv_iload hx hb dX13_depth_30 (lv_at hl 3 rfl) ?_
  refine lv_iload_n hx hb dX13_depth_32 rfl (lv_at hl 1 rfl) ?_
  refine lv_icmp_ge (tgt := 48) hx hb dX13_depth_33 (by decide) (fun c1 => ?_) (fun c1 => ?_)
  · have hf := if_t c1 hf
    refine lv_iload_n hx hb dX13_depth_48 rfl (lv_at hl 2 rfl) ?_
    cases hf
    exact W.iret hx hb hr (b_ret0 hW (keep_s2 hc0 hc) _) hW.2.2.2 dX13_depth_49 hlk
  · have hf := if_f c1 hf
    refine lv_aload_n hx hb dX13_depth_36 rfl (lv_at hl 0 rfl) ?_
    refine lv_iload_n hx hb dX13_depth_37 rfl (lv_at hl 2 rfl) ?_
    obtain ⟨r2, hr2, hf⟩ := bd_elim hf
    refine b_callVi [.int x3] [] hM hml hl.1 hW hc rfl (by decide) (c_X13_knownByAll l G fu _ a v _ hc hr2) (cwV 1 hM.2.2.2.1 (gV mk_RX13_442 im_X13_knownByAll se_X13_knownByAll it_RX13 cd_X13_knownByAll) rfl rfl rfl (by decide +kernel) ⟨Nat.le_of_ble_eq_true rfl, Nat.le_of_ble_eq_true rfl⟩) rfl rfl (Nat.le_of_ble_eq_true rfl) ⟨Nat.zero_le _, Nat.zero_le _⟩ dX13_depth_38 (fun H locs hW hk => ?_)
    refine lv_istore_n (lv' := [(3, .int r2), (0, .ref a), (2, .int x2), (4, .int x4)]) hx hb dX13_depth_41 rfl hl (by decide) rfl (fun ls hl => ?_)
    obtain ⟨y3, ey3⟩ : ∃ y : Int32, y = x4 + (1 : Int32) := ⟨_, rfl⟩
    have hf := nm_at ey3 hf
    refine lv_iinc (v := y3) (lv' := [(4, .int y3), (3, .int r2), (0, .ref a), (2, .int x2)]) hx hb dX13_depth_42 hl (k := 3) rfl (by rw [ey3]; rfl) (by decide) rfl (fun ls hl => ?_)
    refine lv_goto (tgt := 30) hx hb dX13_depth_45 (by decide) ?_
    exact hk30 _ _ _ hf hc _ _ hW _ (lv_sub hl [2, 3, 1, 0] rfl)
theorem t_X13_depth_30 {G : GG} {p : Program} {l : Launch} {e : Env} {s : State} {m : MethodId} {args : Array Value} {below : List Frame} {meth : Method} {c : Code} {S : ST} {fu : Nat} {z : Int32 × GV} {a : Nat} {v0 : GV}  {x2 : Int32} (hM : MC G p s m args c cX13_depth w_X13_depth RX13) (hml : c.maxLocals = 5) (hr : meth.sig.returnType = (some .int)) (hlk : meth.locks = false) (hc0 : gC v0 = 12)  : ∀ {n : Nat} (x3 : Int32) (x4 : Int32) (v : GV), f_X13_depth_30 fu n  x2 x3 x4 v = some z → gC v = 12 → ∀ (H : Heap) (locs : List Loc), WB G (st S a v) s H locs → ∀ (ls : Array Slot), lv_has ls 5 [(0, .ref a), (2, .int x2), (3, .int x3), (4, .int x4)] → W p l e RM_X13_depth s m args below meth c H locs 0 0 (QR G below args s (some (.int z.1)) (st S a v0) (st S a z.2)) (F0 m 30 ls []) := by
  intro n
  induction n with
  | zero => intro x3 x4 v hf; cases hf
  | succ n ih => intro x3 x4 v hf; exact t_X13_depth_30s (fu := fu) hM hml hr hlk hc0  (k30 := f_X13_depth_30 fu n  x2) ih _ _ _ hf
noncomputable def f_X13_depth_23 (fu : Nat)  (v : GV) : Option (Int32 × GV) :=
  some ((-1 : Int32), v)
set_option maxHeartbeats 4000000 in
set_option maxRecDepth 100000 in
theorem t_X13_depth_23 {G : GG} {p : Program} {l : Launch} {e : Env} {s : State} {m : MethodId} {args : Array Value} {below : List Frame} {meth : Method} {c : Code} {S : ST} {fu : Nat} {z : Int32 × GV} {a : Nat} {v0 : GV}  {v : GV} (hM : MC G p s m args c cX13_depth w_X13_depth RX13) (hml : c.maxLocals = 5) (hr : meth.sig.returnType = (some .int)) (hlk : meth.locks = false) (hc0 : gC v0 = 12)  (hf : f_X13_depth_23 fu  v  = some z) : gC v = 12 → ∀ (H : Heap) (locs : List Loc), WB G (st S a v) s H locs → ∀ (ls : Array Slot), lv_has ls 5 [] → W p l e RM_X13_depth s m args below meth c H locs 0 0 (QR G below args s (some (.int z.1)) (st S a v0) (st S a z.2)) (F0 m 23 ls []) := by
  intro hc H locs hW ls hl
  have hx := hM.1
  have hb := hM.2.1
  refine lv_iconst (v := (-1 : Int32)) hx hb dX13_depth_23 (by decide) ?_
  cases hf
  exact W.iret hx hb hr (b_ret0 hW (keep_s2 hc0 hc) _) hW.2.2.2 dX13_depth_24 hlk
noncomputable def f_X13_depth_0 (fu : Nat)  (v : GV) (x1 : Int32) (x2 : Int32) : Option (Int32 × GV) :=
  nm (sI v 0 (0 : Int32)) fun v1 =>
  bd (f_X13_areThere fu v1 x1) fun r2 =>
  if r2 = 0 then
    (f_X13_depth_23 fu v1)
  else
    (bd (f_X13_within fu x2 (1 : Int32) (9 : Int32)) fun r4 =>
    if r4 = 0 then
      (f_X13_depth_23 fu v1)
    else
      (f_X13_depth_30 fu fu x2 x1 (0 : Int32) v1))
set_option maxHeartbeats 4000000 in
set_option maxRecDepth 100000 in
theorem t_X13_depth_0 {G : GG} {p : Program} {l : Launch} {e : Env} {s : State} {m : MethodId} {args : Array Value} {below : List Frame} {meth : Method} {c : Code} {S : ST} {fu : Nat} {z : Int32 × GV} {a : Nat} {v0 : GV}  {v : GV} {x1 : Int32} {x2 : Int32} (hM : MC G p s m args c cX13_depth w_X13_depth RX13) (hml : c.maxLocals = 5) (hr : meth.sig.returnType = (some .int)) (hlk : meth.locks = false) (hc0 : gC v0 = 12)  (hf : f_X13_depth_0 fu  v x1 x2 = some z) : gC v = 12 → ∀ (H : Heap) (locs : List Loc), WB G (st S a v) s H locs → ∀ (ls : Array Slot), lv_has ls 5 [(0, .ref a), (1, .int x1), (2, .int x2)] → W p l e RM_X13_depth s m args below meth c H locs 0 0 (QR G below args s (some (.int z.1)) (st S a v0) (st S a z.2)) (F0 m 0 ls []) := by
  intro hc H locs hW ls hl
  have hx := hM.1
  have hb := hM.2.1
  refine lv_aload_n hx hb dX13_depth_0 rfl (lv_at hl 0 rfl) ?_
  refine lv_iconst (v := (0 : Int32)) hx hb dX13_depth_1 (by decide) ?_
  refine b_putI hM hW 11 0 hc rfl rfl (by decide) wi_X13 tyX13 tyX13_ok nmX13 (wgm fk_RX13_1) rfl rfl rfl dX13_depth_2 (fun v1 ev1 hc H locs hW => ?_)
  have hf := nm_at ev1 hf
  refine lv_aload_n hx hb dX13_depth_5 rfl (lv_at hl 0 rfl) ?_
  refine lv_iload_n hx hb dX13_depth_6 rfl (lv_at hl 1 rfl) ?_
  obtain ⟨r2, hr2, hf⟩ := bd_elim hf
  refine b_callVi [.int x1] [] hM hml hl.1 hW hc rfl (by decide) (c_X13_areThere l G fu _ a v1 _ hc hr2) (cwV 1 hM.2.2.2.1 (gV mk_RX13_421 im_X13_areThere se_X13_areThere it_RX13 cd_X13_areThere) rfl rfl rfl (by decide +kernel) ⟨Nat.le_of_ble_eq_true rfl, Nat.le_of_ble_eq_true rfl⟩) rfl rfl (Nat.le_of_ble_eq_true rfl) ⟨Nat.zero_le _, Nat.zero_le _⟩ dX13_depth_7 (fun H locs hW hk => ?_)
  refine lv_if_eq (tgt := 23) hx hb dX13_depth_10 (by decide) (fun c3 => ?_) (fun c3 => ?_)
  · have hf := if_t c3 hf
    exact t_X13_depth_23 (fu := fu) hM hml hr hlk hc0 hf hc _ _ hW _ (lv_sub hl [] rfl)
  · have hf := if_f c3 hf
    refine lv_iload_n hx hb dX13_depth_13 rfl (lv_at hl 2 rfl) ?_
    refine lv_iconst (v := (1 : Int32)) hx hb dX13_depth_14 (by decide) ?_
    refine lv_bipush (v := (9 : Int32)) hx hb dX13_depth_15 (by decide) ?_
    obtain ⟨r4, hr4, hf⟩ := bd_elim hf
    refine b_callSi [.int x2, .int (1 : Int32), .int (9 : Int32)] [] hM hml hl.1 hW (c_X13_within l G fu _ _ _ _ hr4) (va_cwS 3 hM.2.2.2.1 (gS mk_RX13_231 sm_X13_within it_RX13 cd_X13_within) rfl rfl rfl (by decide +kernel) ⟨Nat.le_of_ble_eq_true rfl, Nat.le_of_ble_eq_true rfl⟩) rfl rfl (Nat.le_of_ble_eq_true rfl) ⟨Nat.zero_le _, Nat.zero_le _⟩ dX13_depth_17 (fun H locs hW hk => ?_)
    refine lv_if_ne (tgt := 25) hx hb dX13_depth_20 (by decide) (fun c5 => ?_) (fun c5 => ?_)
    · have hf := if_f c5 hf
      refine lv_iload_n hx hb dX13_depth_25 rfl (lv_at hl 1 rfl) ?_
      refine lv_istore_n (lv' := [(3, .int x1), (0, .ref a), (1, .int x1), (2, .int x2)]) hx hb dX13_depth_26 rfl hl (by decide) rfl (fun ls hl => ?_)
      refine lv_iconst (v := (0 : Int32)) hx hb dX13_depth_27 (by decide) ?_
      refine lv_istore (lv' := [(4, .int (0 : Int32)), (3, .int x1), (0, .ref a), (1, .int x1), (2, .int x2)]) hx hb dX13_depth_28 hl (by decide) rfl (fun ls hl => ?_)
      exact t_X13_depth_30 (fu := fu) hM hml hr hlk hc0 _ _ _ hf hc _ _ hW _ (lv_sub hl [2, 4, 1, 0] rfl)
    · have hf := if_t c5 hf
      exact t_X13_depth_23 (fu := fu) hM hml hr hlk hc0 hf hc _ _ hW _ (lv_sub hl [] rfl)
noncomputable def f_X13_depth (fu : Nat) (v : GV) (x1 : Int32) (x2 : Int32) : Option (Int32 × GV) := f_X13_depth_0 fu v x1 x2
set_option maxHeartbeats 4000000 in
set_option maxRecDepth 100000 in
theorem c_X13_depth (l : Launch) (G : GG) (fu : Nat) (S : ST) (a : Nat) (v : GV) (x1 : Int32) (x2 : Int32) {z : Int32} {w : GV} (hc : gC v = 12) (hf : f_X13_depth fu v x1 x2 = some (z, w)) : Ct l yX13_depth w_X13_depth RM_X13_depth G (st S a v) [.ref a, .int x1, .int x2] (some (.int z)) (st S a w) 0 0 := by
  refine Met.ofW (cc := cX13_depth) (maxL := 5) (ret := (some .int)) (by decide) rfl ?_
  intro p e s m args below meth c s₁ B hml hv
  obtain ⟨rfl, hB, hK, hz⟩ := hv
  have hM : MC G p s m _ c cX13_depth w_X13_depth RX13 := ⟨B.exec, B.bytes, findClass_of_methodNamed B.named, atoms_spec (ws := w_X13_depth) B.pre, hK, hz⟩
  have hW : WB G (st S a v) s s.heap [] := ⟨hB, va_S.rf⟩
  have hl := lv_entry ([.ref a, .int x1, .int x2]) (n := 5) (Nat.le_of_ble_eq_true rfl)
  rw [lg_entry_eq]
  generalize (lg_sl ([.ref a, .int x1, .int x2]) ++ List.replicate (5 - (lg_sl ([.ref a, .int x1, .int x2])).length) Slot.unset).toArray = ls at hl ⊢
  have hl : lv_has ls 5 [(0, .ref a), (1, .int x1), (2, .int x2)] := hl
  exact t_X13_depth_0 hM hml B.returns B.notSynchronized hc hf hc _ _ hW _ (lv_sub hl [0, 1, 2] rfl)
abbrev w_X13_common : List Cond := Cond.code yX13_common cX13_common 4 (some .int) :: wsL_law0
abbrev RM_X13_common : Room := { frames := 2, cells := 0, slots := 0, locals := 51 }
noncomputable def f_X13_common_19s (fu : Nat)  (k19 : Int32 → Int32 → GV → Option (Int32 × GV)) (x2 : Int32) (x3 : Int32) (v : GV) : Option (Int32 × GV) :=
  if (8 : Int32) < x3 then
    (some (x2, v))
  else
    (bd (f_X13_knownByAll fu v x2) fun r2 =>
    nm (x3 + (1 : Int32)) fun y3 =>
    k19 r2 y3 v)
noncomputable def f_X13_common_19 (fu n : Nat)  : Int32 → Int32 → GV → Option (Int32 × GV) :=
  lq_3 (fun k19 => f_X13_common_19s fu  k19 ) n
set_option maxHeartbeats 4000000 in
set_option maxRecDepth 100000 in
theorem t_X13_common_19s {G : GG} {p : Program} {l : Launch} {e : Env} {s : State} {m : MethodId} {args : Array Value} {below : List Frame} {meth : Method} {c : Code} {S : ST} {fu : Nat} {z : Int32 × GV} {a : Nat} {v0 : GV}  (hM : MC G p s m args c cX13_common w_X13_common RX13) (hml : c.maxLocals = 4) (hr : meth.sig.returnType = (some .int)) (hlk : meth.locks = false) (hc0 : gC v0 = 12) {k19 : Int32 → Int32 → GV → Option (Int32 × GV)}  (hk19 : ∀ (x2 : Int32) (x3 : Int32) (v : GV), k19 x2 x3 v = some z → gC v = 12 → ∀ (H : Heap) (locs : List Loc), WB G (st S a v) s H locs → ∀ (ls : Array Slot), lv_has ls 4 [(0, .ref a), (2, .int x2), (3, .int x3)] → W p l e RM_X13_common s m args below meth c H locs 0 0 (QR G below args s (some (.int z.1)) (st S a v0) (st S a z.2)) (F0 m 19 ls [])) : ∀ (x2 : Int32) (x3 : Int32) (v : GV), f_X13_common_19s fu  k19  x2 x3 v = some z → gC v = 12 → ∀ (H : Heap) (locs : List Loc), WB G (st S a v) s H locs → ∀ (ls : Array Slot), lv_has ls 4 [(0, .ref a), (2, .int x2), (3, .int x3)] → W p l e RM_X13_common s m args below meth c H locs 0 0 (QR G below args s (some (.int z.1)) (st S a v0) (st S a z.2)) (F0 m 19 ls []) := by
  intro x2 x3 v hf hc H locs hW ls hl
  have hx := hM.1
  have hb := hM.2.1
  refine lv_iload_n hx hb dX13_common_19 rfl (lv_at hl 2 rfl) ?_
  refine lv_bipush (v := (8 : Int32)) hx hb dX13_common_20 (by decide) ?_
  refine lv_icmp_gt (tgt := 37) hx hb dX13_common_22 (by decide) (fun c1 => ?_) (fun c1 => ?_)
  · have hf := if_t c1 hf
    refine lv_iload_n hx hb dX13_common_37 rfl (lv_at hl 1 rfl) ?_
    cases hf
    exact W.iret hx hb hr (b_ret0 hW (keep_s2 hc0 hc) _) hW.2.2.2 dX13_common_38 hlk
  · have hf := if_f c1 hf
    refine lv_aload_n hx hb dX13_common_25 rfl (lv_at hl 0 rfl) ?_
    refine lv_iload_n hx hb dX13_common_26 rfl (lv_at hl 1 rfl) ?_
    obtain ⟨r2, hr2, hf⟩ := bd_elim hf
    refine b_callVi [.int x2] [] hM hml hl.1 hW hc rfl (by decide) (c_X13_knownByAll l G fu _ a v _ hc hr2) (cwV 1 hM.2.2.2.1 (gV mk_RX13_442 im_X13_knownByAll se_X13_knownByAll it_RX13 cd_X13_knownByAll) rfl rfl rfl (by decide +kernel) ⟨Nat.le_of_ble_eq_true rfl, Nat.le_of_ble_eq_true rfl⟩) rfl rfl (Nat.le_of_ble_eq_true rfl) ⟨Nat.zero_le _, Nat.zero_le _⟩ dX13_common_27 (fun H locs hW hk => ?_)
    refine lv_istore_n (lv' := [(2, .int r2), (0, .ref a), (3, .int x3)]) hx hb dX13_common_30 rfl hl (by decide) rfl (fun ls hl => ?_)
    obtain ⟨y3, ey3⟩ : ∃ y : Int32, y = x3 + (1 : Int32) := ⟨_, rfl⟩
    have hf := nm_at ey3 hf
    refine lv_iinc (v := y3) (lv' := [(3, .int y3), (2, .int r2), (0, .ref a)]) hx hb dX13_common_31 hl (k := 2) rfl (by rw [ey3]; rfl) (by decide) rfl (fun ls hl => ?_)
    refine lv_goto (tgt := 19) hx hb dX13_common_34 (by decide) ?_
    exact hk19 _ _ _ hf hc _ _ hW _ (lv_sub hl [2, 1, 0] rfl)
theorem t_X13_common_19 {G : GG} {p : Program} {l : Launch} {e : Env} {s : State} {m : MethodId} {args : Array Value} {below : List Frame} {meth : Method} {c : Code} {S : ST} {fu : Nat} {z : Int32 × GV} {a : Nat} {v0 : GV}  (hM : MC G p s m args c cX13_common w_X13_common RX13) (hml : c.maxLocals = 4) (hr : meth.sig.returnType = (some .int)) (hlk : meth.locks = false) (hc0 : gC v0 = 12)  : ∀ {n : Nat} (x2 : Int32) (x3 : Int32) (v : GV), f_X13_common_19 fu n   x2 x3 v = some z → gC v = 12 → ∀ (H : Heap) (locs : List Loc), WB G (st S a v) s H locs → ∀ (ls : Array Slot), lv_has ls 4 [(0, .ref a), (2, .int x2), (3, .int x3)] → W p l e RM_X13_common s m args below meth c H locs 0 0 (QR G below args s (some (.int z.1)) (st S a v0) (st S a z.2)) (F0 m 19 ls []) := by
  intro n
  induction n with
  | zero => intro x2 x3 v hf; cases hf
  | succ n ih => intro x2 x3 v hf; exact t_X13_common_19s (fu := fu) hM hml hr hlk hc0  (k19 := f_X13_common_19 fu n  ) ih _ _ _ hf
noncomputable def f_X13_common_0 (fu : Nat)  (v : GV) (x1 : Int32) : Option (Int32 × GV) :=
  nm (sI v 0 (0 : Int32)) fun v1 =>
  bd (f_X13_areThere fu v1 x1) fun r2 =>
  if r2 = 0 then
    (some ((-1 : Int32), v1))
  else
    (f_X13_common_19 fu fu x1 (0 : Int32) v1)
set_option maxHeartbeats 4000000 in
set_option maxRecDepth 100000 in
theorem t_X13_common_0 {G : GG} {p : Program} {l : Launch} {e : Env} {s : State} {m : MethodId} {args : Array Value} {below : List Frame} {meth : Method} {c : Code} {S : ST} {fu : Nat} {z : Int32 × GV} {a : Nat} {v0 : GV}  {v : GV} {x1 : Int32} (hM : MC G p s m args c cX13_common w_X13_common RX13) (hml : c.maxLocals = 4) (hr : meth.sig.returnType = (some .int)) (hlk : meth.locks = false) (hc0 : gC v0 = 12)  (hf : f_X13_common_0 fu  v x1 = some z) : gC v = 12 → ∀ (H : Heap) (locs : List Loc), WB G (st S a v) s H locs → ∀ (ls : Array Slot), lv_has ls 4 [(0, .ref a), (1, .int x1)] → W p l e RM_X13_common s m args below meth c H locs 0 0 (QR G below args s (some (.int z.1)) (st S a v0) (st S a z.2)) (F0 m 0 ls []) := by
  intro hc H locs hW ls hl
  have hx := hM.1
  have hb := hM.2.1
  refine lv_aload_n hx hb dX13_common_0 rfl (lv_at hl 0 rfl) ?_
  refine lv_iconst (v := (0 : Int32)) hx hb dX13_common_1 (by decide) ?_
  refine b_putI hM hW 11 0 hc rfl rfl (by decide) wi_X13 tyX13 tyX13_ok nmX13 (wgm fk_RX13_1) rfl rfl rfl dX13_common_2 (fun v1 ev1 hc H locs hW => ?_)
  have hf := nm_at ev1 hf
  refine lv_aload_n hx hb dX13_common_5 rfl (lv_at hl 0 rfl) ?_
  refine lv_iload_n hx hb dX13_common_6 rfl (lv_at hl 1 rfl) ?_
  obtain ⟨r2, hr2, hf⟩ := bd_elim hf
  refine b_callVi [.int x1] [] hM hml hl.1 hW hc rfl (by decide) (c_X13_areThere l G fu _ a v1 _ hc hr2) (cwV 1 hM.2.2.2.1 (gV mk_RX13_421 im_X13_areThere se_X13_areThere it_RX13 cd_X13_areThere) rfl rfl rfl (by decide +kernel) ⟨Nat.le_of_ble_eq_true rfl, Nat.le_of_ble_eq_true rfl⟩) rfl rfl (Nat.le_of_ble_eq_true rfl) ⟨Nat.zero_le _, Nat.zero_le _⟩ dX13_common_7 (fun H locs hW hk => ?_)
  refine lv_if_ne (tgt := 15) hx hb dX13_common_10 (by decide) (fun c3 => ?_) (fun c3 => ?_)
  · have hf := if_f c3 hf
    refine lv_iload_n hx hb dX13_common_15 rfl (lv_at hl 1 rfl) ?_
    refine lv_istore_n (lv' := [(2, .int x1), (0, .ref a), (1, .int x1)]) hx hb dX13_common_16 rfl hl (by decide) rfl (fun ls hl => ?_)
    refine lv_iconst (v := (0 : Int32)) hx hb dX13_common_17 (by decide) ?_
    refine lv_istore_n (lv' := [(3, .int (0 : Int32)), (2, .int x1), (0, .ref a), (1, .int x1)]) hx hb dX13_common_18 rfl hl (by decide) rfl (fun ls hl => ?_)
    exact t_X13_common_19 (fu := fu) hM hml hr hlk hc0 _ _ _ hf hc _ _ hW _ (lv_sub hl [2, 1, 0] rfl)
  · have hf := if_t c3 hf
    refine lv_iconst (v := (-1 : Int32)) hx hb dX13_common_13 (by decide) ?_
    cases hf
    exact W.iret hx hb hr (b_ret0 hW (keep_s2 hc0 hc) _) hW.2.2.2 dX13_common_14 hlk
noncomputable def f_X13_common (fu : Nat) (v : GV) (x1 : Int32) : Option (Int32 × GV) := f_X13_common_0 fu v x1
set_option maxHeartbeats 4000000 in
set_option maxRecDepth 100000 in
theorem c_X13_common (l : Launch) (G : GG) (fu : Nat) (S : ST) (a : Nat) (v : GV) (x1 : Int32) {z : Int32} {w : GV} (hc : gC v = 12) (hf : f_X13_common fu v x1 = some (z, w)) : Ct l yX13_common w_X13_common RM_X13_common G (st S a v) [.ref a, .int x1] (some (.int z)) (st S a w) 0 0 := by
  refine Met.ofW (cc := cX13_common) (maxL := 4) (ret := (some .int)) (by decide) rfl ?_
  intro p e s m args below meth c s₁ B hml hv
  obtain ⟨rfl, hB, hK, hz⟩ := hv
  have hM : MC G p s m _ c cX13_common w_X13_common RX13 := ⟨B.exec, B.bytes, findClass_of_methodNamed B.named, atoms_spec (ws := w_X13_common) B.pre, hK, hz⟩
  have hW : WB G (st S a v) s s.heap [] := ⟨hB, va_S.rf⟩
  have hl := lv_entry ([.ref a, .int x1]) (n := 4) (Nat.le_of_ble_eq_true rfl)
  rw [lg_entry_eq]
  generalize (lg_sl ([.ref a, .int x1]) ++ List.replicate (4 - (lg_sl ([.ref a, .int x1])).length) Slot.unset).toArray = ls at hl ⊢
  have hl : lv_has ls 4 [(0, .ref a), (1, .int x1)] := hl
  exact t_X13_common_0 hM hml B.returns B.notSynchronized hc hf hc _ _ hW _ (lv_sub hl [0, 1] rfl)
abbrev w_X13_getsBy : List Cond := Cond.code yX13_getsBy cX13_getsBy 5 (some .int) :: wsL_law0
abbrev RM_X13_getsBy : Room := { frames := 0, cells := 0, slots := 0, locals := 0 }
noncomputable def f_X13_getsBy_15 (fu : Nat)  (t0 : Int32) (t1 : Int32) : Option (Int32) :=
  some (t0 - t1)
set_option maxHeartbeats 4000000 in
set_option maxRecDepth 100000 in
theorem t_X13_getsBy_15 {G : GG} {p : Program} {l : Launch} {e : Env} {s : State} {m : MethodId} {args : Array Value} {below : List Frame} {meth : Method} {c : Code} {S : ST} {fu : Nat} {z : Int32}  {t0 : Int32} {t1 : Int32} (hM : MC G p s m args c cX13_getsBy w_X13_getsBy RX13) (hml : c.maxLocals = 5) (hr : meth.sig.returnType = (some .int)) (hlk : meth.locks = false)  (hf : f_X13_getsBy_15 fu   t0 t1 = some z) : ∀ (H : Heap) (locs : List Loc), WB G S s H locs → ∀ (ls : Array Slot), lv_has ls 5 [] → W p l e RM_X13_getsBy s m args below meth c H locs 0 0 (QR G below args s (some (.int z)) S S) (F0 m 15 ls [.int t1, .int t0]) := by
  intro H locs hW ls hl
  have hx := hM.1
  have hb := hM.2.1
  refine lv_isub hx hb dX13_getsBy_15 ?_
  refine lv_goto (tgt := 20) hx hb dX13_getsBy_16 (by decide) ?_
  cases hf
  exact W.iret hx hb hr (b_ret0 hW (fun _ _ => rfl) _) hW.2.2.2 dX13_getsBy_20 hlk
noncomputable def f_X13_getsBy_0 (fu : Nat)  (x0 : Int32) (x1 : Int32) (x2 : Int32) (x3 : Int32) (x4 : Int32) : Option (Int32) :=
  if x1 = 0 then
    (some (0 : Int32))
  else
    (if x4 = 0 then
      (f_X13_getsBy_15 fu x0 x3)
    else
      (f_X13_getsBy_15 fu x0 x2))
set_option maxHeartbeats 4000000 in
set_option maxRecDepth 100000 in
theorem t_X13_getsBy_0 {G : GG} {p : Program} {l : Launch} {e : Env} {s : State} {m : MethodId} {args : Array Value} {below : List Frame} {meth : Method} {c : Code} {S : ST} {fu : Nat} {z : Int32}  {x0 : Int32} {x1 : Int32} {x2 : Int32} {x3 : Int32} {x4 : Int32} (hM : MC G p s m args c cX13_getsBy w_X13_getsBy RX13) (hml : c.maxLocals = 5) (hr : meth.sig.returnType = (some .int)) (hlk : meth.locks = false)  (hf : f_X13_getsBy_0 fu   x0 x1 x2 x3 x4 = some z) : ∀ (H : Heap) (locs : List Loc), WB G S s H locs → ∀ (ls : Array Slot), lv_has ls 5 [(0, .int x0), (1, .int x1), (2, .int x2), (3, .int x3), (4, .int x4)] → W p l e RM_X13_getsBy s m args below meth c H locs 0 0 (QR G below args s (some (.int z)) S S) (F0 m 0 ls []) := by
  intro H locs hW ls hl
  have hx := hM.1
  have hb := hM.2.1
  refine lv_iload_n hx hb dX13_getsBy_0 rfl (lv_at hl 1 rfl) ?_
  refine lv_if_eq (tgt := 19) hx hb dX13_getsBy_1 (by decide) (fun c1 => ?_) (fun c1 => ?_)
  · have hf := if_t c1 hf
    refine lv_iconst (v := (0 : Int32)) hx hb dX13_getsBy_19 (by decide) ?_
    cases hf
    exact W.iret hx hb hr (b_ret0 hW (fun _ _ => rfl) _) hW.2.2.2 dX13_getsBy_20 hlk
  · have hf := if_f c1 hf
    refine lv_iload_n hx hb dX13_getsBy_4 rfl (lv_at hl 0 rfl) ?_
    refine lv_iload hx hb dX13_getsBy_5 (lv_at hl 4 rfl) ?_
    refine lv_if_eq (tgt := 14) hx hb dX13_getsBy_7 (by decide) (fun c2 => ?_) (fun c2 => ?_)
    · have hf := if_t c2 hf
      refine lv_iload_n hx hb dX13_getsBy_14 rfl (lv_at hl 3 rfl) ?_
      exact t_X13_getsBy_15 (fu := fu) hM hml hr hlk hf _ _ hW _ (lv_sub hl [] rfl)
    · have hf := if_f c2 hf
      refine lv_iload_n hx hb dX13_getsBy_10 rfl (lv_at hl 2 rfl) ?_
      refine lv_goto (tgt := 15) hx hb dX13_getsBy_11 (by decide) ?_
      exact t_X13_getsBy_15 (fu := fu) hM hml hr hlk hf _ _ hW _ (lv_sub hl [] rfl)
noncomputable def f_X13_getsBy (fu : Nat) (x0 : Int32) (x1 : Int32) (x2 : Int32) (x3 : Int32) (x4 : Int32) : Option (Int32) := f_X13_getsBy_0 fu x0 x1 x2 x3 x4
set_option maxHeartbeats 4000000 in
set_option maxRecDepth 100000 in
theorem c_X13_getsBy (l : Launch) (G : GG) (fu : Nat) (S : ST) (x0 : Int32) (x1 : Int32) (x2 : Int32) (x3 : Int32) (x4 : Int32) {z : Int32} (hf : f_X13_getsBy fu x0 x1 x2 x3 x4 = some z) : Ct l yX13_getsBy w_X13_getsBy RM_X13_getsBy G S [.int x0, .int x1, .int x2, .int x3, .int x4] (some (.int z)) S 0 0 := by
  refine Met.ofW (cc := cX13_getsBy) (maxL := 5) (ret := (some .int)) (by decide) rfl ?_
  intro p e s m args below meth c s₁ B hml hv
  obtain ⟨rfl, hB, hK, hz⟩ := hv
  have hM : MC G p s m _ c cX13_getsBy w_X13_getsBy RX13 := ⟨B.exec, B.bytes, findClass_of_methodNamed B.named, atoms_spec (ws := w_X13_getsBy) B.pre, hK, hz⟩
  have hW : WB G S s s.heap [] := ⟨hB, va_S.rf⟩
  have hl := lv_entry ([.int x0, .int x1, .int x2, .int x3, .int x4]) (n := 5) (Nat.le_of_ble_eq_true rfl)
  rw [lg_entry_eq]
  generalize (lg_sl ([.int x0, .int x1, .int x2, .int x3, .int x4]) ++ List.replicate (5 - (lg_sl ([.int x0, .int x1, .int x2, .int x3, .int x4])).length) Slot.unset).toArray = ls at hl ⊢
  have hl : lv_has ls 5 [(0, .int x0), (1, .int x1), (2, .int x2), (3, .int x3), (4, .int x4)] := hl
  exact t_X13_getsBy_0 hM hml B.returns B.notSynchronized hf _ _ hW _ (lv_sub hl [0, 1, 2, 3, 4] rfl)
