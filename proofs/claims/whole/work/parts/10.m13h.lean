abbrev w_X13_isRest : List Cond := Cond.code yX13_isRest cX13_isRest 9 (some .boolean) :: wsL_law0
abbrev RM_X13_isRest : Room := { frames := 1, cells := 0, slots := 0, locals := 24 }
noncomputable def f_X13_isRest_115 (fu : Nat) (k48 : Int32 → Int32 → Option (Int32)) (x0 : Int32) (x1 : Int32) (x2 : Int32) (x3 : Int32) (x4 : Int32) (x5 : Int32) (x6 : Int32) (x8 : Int32) (t0 : Int32) : Option (Int32) :=
  nm (x8 + (1 : Int32)) fun y1 =>
  k48 t0 y1
set_option maxHeartbeats 4000000 in
set_option maxRecDepth 100000 in
theorem t_X13_isRest_115 {G : GG} {p : Program} {l : Launch} {e : Env} {s : State} {m : MethodId} {args : Array Value} {below : List Frame} {meth : Method} {c : Code} {S : ST} {fu : Nat} {z : Int32} {k48 : Int32 → Int32 → Option (Int32)} {x0 : Int32} {x1 : Int32} {x2 : Int32} {x3 : Int32} {x4 : Int32} {x5 : Int32} {x6 : Int32} {x8 : Int32} {t0 : Int32} (hM : MC G p s m args c cX13_isRest w_X13_isRest RX13) (hml : c.maxLocals = 9) (hr : meth.sig.returnType = (some .boolean)) (hlk : meth.locks = false) (hk48 : ∀ (x7 : Int32) (x8 : Int32), k48 x7 x8 = some z → ∀ (H : Heap) (locs : List Loc), WB G S s H locs → ∀ (ls : Array Slot), lv_has ls 9 [(0, .int x0), (1, .int x1), (2, .int x2), (3, .int x3), (4, .int x4), (5, .int x5), (6, .int x6), (7, .int x7), (8, .int x8)] → W p l e RM_X13_isRest s m args below meth c H locs 0 0 (QR G below args s (some (.int z)) S S) (F0 m 48 ls [])) (hf : f_X13_isRest_115 fu k48  x0 x1 x2 x3 x4 x5 x6 x8 t0 = some z) : ∀ (H : Heap) (locs : List Loc), WB G S s H locs → ∀ (ls : Array Slot), lv_has ls 9 [(0, .int x0), (1, .int x1), (2, .int x2), (3, .int x3), (4, .int x4), (5, .int x5), (6, .int x6), (8, .int x8)] → W p l e RM_X13_isRest s m args below meth c H locs 0 0 (QR G below args s (some (.int z)) S S) (F0 m 115 ls [.int t0]) := by
  intro H locs hW ls hl
  have hx := hM.1
  have hb := hM.2.1
  refine lv_istore (lv' := [(7, .int t0), (0, .int x0), (1, .int x1), (2, .int x2), (3, .int x3), (4, .int x4), (5, .int x5), (6, .int x6), (8, .int x8)]) hx hb dX13_isRest_115 hl (by decide) rfl (fun ls hl => ?_)
  obtain ⟨y1, ey1⟩ : ∃ y : Int32, y = x8 + (1 : Int32) := ⟨_, rfl⟩
  have hf := nm_at ey1 hf
  refine lv_iinc (v := y1) (lv' := [(8, .int y1), (7, .int t0), (0, .int x0), (1, .int x1), (2, .int x2), (3, .int x3), (4, .int x4), (5, .int x5), (6, .int x6)]) hx hb dX13_isRest_117 hl (k := 8) rfl (by rw [ey1]; rfl) (by decide) rfl (fun ls hl => ?_)
  refine lv_goto (tgt := 48) hx hb dX13_isRest_120 (by decide) ?_
  exact hk48 _ _ hf _ _ hW _ (lv_sub hl [2, 3, 4, 5, 6, 7, 8, 1, 0] rfl)
noncomputable def f_X13_isRest_114 (fu : Nat) (k48 : Int32 → Int32 → Option (Int32)) (x0 : Int32) (x1 : Int32) (x2 : Int32) (x3 : Int32) (x4 : Int32) (x5 : Int32) (x6 : Int32) (x8 : Int32) : Option (Int32) :=
  f_X13_isRest_115 fu k48 x0 x1 x2 x3 x4 x5 x6 x8 (0 : Int32)
set_option maxHeartbeats 4000000 in
set_option maxRecDepth 100000 in
theorem t_X13_isRest_114 {G : GG} {p : Program} {l : Launch} {e : Env} {s : State} {m : MethodId} {args : Array Value} {below : List Frame} {meth : Method} {c : Code} {S : ST} {fu : Nat} {z : Int32} {k48 : Int32 → Int32 → Option (Int32)} {x0 : Int32} {x1 : Int32} {x2 : Int32} {x3 : Int32} {x4 : Int32} {x5 : Int32} {x6 : Int32} {x8 : Int32} (hM : MC G p s m args c cX13_isRest w_X13_isRest RX13) (hml : c.maxLocals = 9) (hr : meth.sig.returnType = (some .boolean)) (hlk : meth.locks = false) (hk48 : ∀ (x7 : Int32) (x8 : Int32), k48 x7 x8 = some z → ∀ (H : Heap) (locs : List Loc), WB G S s H locs → ∀ (ls : Array Slot), lv_has ls 9 [(0, .int x0), (1, .int x1), (2, .int x2), (3, .int x3), (4, .int x4), (5, .int x5), (6, .int x6), (7, .int x7), (8, .int x8)] → W p l e RM_X13_isRest s m args below meth c H locs 0 0 (QR G below args s (some (.int z)) S S) (F0 m 48 ls [])) (hf : f_X13_isRest_114 fu k48  x0 x1 x2 x3 x4 x5 x6 x8 = some z) : ∀ (H : Heap) (locs : List Loc), WB G S s H locs → ∀ (ls : Array Slot), lv_has ls 9 [(0, .int x0), (1, .int x1), (2, .int x2), (3, .int x3), (4, .int x4), (5, .int x5), (6, .int x6), (8, .int x8)] → W p l e RM_X13_isRest s m args below meth c H locs 0 0 (QR G below args s (some (.int z)) S S) (F0 m 114 ls []) := by
  intro H locs hW ls hl
  have hx := hM.1
  have hb := hM.2.1
  refine lv_iconst (v := (0 : Int32)) hx hb dX13_isRest_114 (by decide) ?_
  exact t_X13_isRest_115 (fu := fu) hM hml hr hlk hk48 hf _ _ hW _ (lv_sub hl [0, 1, 2, 3, 4, 5, 6, 7] rfl)
noncomputable def f_X13_isRest_98 (fu : Nat) (k48 : Int32 → Int32 → Option (Int32)) (x0 : Int32) (x1 : Int32) (x2 : Int32) (x3 : Int32) (x4 : Int32) (x5 : Int32) (x6 : Int32) (x8 : Int32) (t0 : Int32) (t1 : Int32) : Option (Int32) :=
  bd (f_X13_getsBy fu t0 t1 x8 x3 x2) fun r1 =>
  if x6 < r1 then
    (f_X13_isRest_114 fu k48 x0 x1 x2 x3 x4 x5 x6 x8)
  else
    (f_X13_isRest_115 fu k48 x0 x1 x2 x3 x4 x5 x6 x8 (1 : Int32))
set_option maxHeartbeats 4000000 in
set_option maxRecDepth 100000 in
theorem t_X13_isRest_98 {G : GG} {p : Program} {l : Launch} {e : Env} {s : State} {m : MethodId} {args : Array Value} {below : List Frame} {meth : Method} {c : Code} {S : ST} {fu : Nat} {z : Int32} {k48 : Int32 → Int32 → Option (Int32)} {x0 : Int32} {x1 : Int32} {x2 : Int32} {x3 : Int32} {x4 : Int32} {x5 : Int32} {x6 : Int32} {x8 : Int32} {t0 : Int32} {t1 : Int32} (hM : MC G p s m args c cX13_isRest w_X13_isRest RX13) (hml : c.maxLocals = 9) (hr : meth.sig.returnType = (some .boolean)) (hlk : meth.locks = false) (hk48 : ∀ (x7 : Int32) (x8 : Int32), k48 x7 x8 = some z → ∀ (H : Heap) (locs : List Loc), WB G S s H locs → ∀ (ls : Array Slot), lv_has ls 9 [(0, .int x0), (1, .int x1), (2, .int x2), (3, .int x3), (4, .int x4), (5, .int x5), (6, .int x6), (7, .int x7), (8, .int x8)] → W p l e RM_X13_isRest s m args below meth c H locs 0 0 (QR G below args s (some (.int z)) S S) (F0 m 48 ls [])) (hf : f_X13_isRest_98 fu k48  x0 x1 x2 x3 x4 x5 x6 x8 t0 t1 = some z) : ∀ (H : Heap) (locs : List Loc), WB G S s H locs → ∀ (ls : Array Slot), lv_has ls 9 [(0, .int x0), (1, .int x1), (2, .int x2), (3, .int x3), (4, .int x4), (5, .int x5), (6, .int x6), (8, .int x8)] → W p l e RM_X13_isRest s m args below meth c H locs 0 0 (QR G below args s (some (.int z)) S S) (F0 m 98 ls [.int t1, .int t0]) := by
  intro H locs hW ls hl
  have hx := hM.1
  have hb := hM.2.1
  refine lv_iload hx hb dX13_isRest_98 (lv_at hl 7 rfl) ?_
  refine lv_iload_n hx hb dX13_isRest_100 rfl (lv_at hl 3 rfl) ?_
  refine lv_iload_n hx hb dX13_isRest_101 rfl (lv_at hl 2 rfl) ?_
  obtain ⟨r1, hr1, hf⟩ := bd_elim hf
  refine b_callSi [.int t0, .int t1, .int x8, .int x3, .int x2] [] hM hml hl.1 hW (c_X13_getsBy l G fu _ _ _ _ _ _ hr1) (va_cwS 5 hM.2.2.2.1 (gS mk_RX13_445 sm_X13_getsBy it_RX13 cd_X13_getsBy) rfl rfl rfl (by decide +kernel) ⟨Nat.le_of_ble_eq_true rfl, Nat.le_of_ble_eq_true rfl⟩) rfl rfl (Nat.le_of_ble_eq_true rfl) ⟨Nat.zero_le _, Nat.zero_le _⟩ dX13_isRest_102 (fun H locs hW hk => ?_)
  refine lv_iload hx hb dX13_isRest_105 (lv_at hl 6 rfl) ?_
  refine lv_icmp_gt (tgt := 114) hx hb dX13_isRest_107 (by decide) (fun c2 => ?_) (fun c2 => ?_)
  · have hf := if_t c2 hf
    exact t_X13_isRest_114 (fu := fu) hM hml hr hlk hk48 hf _ _ hW _ (lv_sub hl [0, 1, 2, 3, 4, 5, 6, 7] rfl)
  · have hf := if_f c2 hf
    refine lv_iconst (v := (1 : Int32)) hx hb dX13_isRest_110 (by decide) ?_
    refine lv_goto (tgt := 115) hx hb dX13_isRest_111 (by decide) ?_
    exact t_X13_isRest_115 (fu := fu) hM hml hr hlk hk48 hf _ _ hW _ (lv_sub hl [0, 1, 2, 3, 4, 5, 6, 7] rfl)
noncomputable def f_X13_isRest_73 (fu : Nat) (k48 : Int32 → Int32 → Option (Int32)) (x0 : Int32) (x1 : Int32) (x2 : Int32) (x3 : Int32) (x4 : Int32) (x5 : Int32) (x6 : Int32) (x8 : Int32) (t0 : Int32) (t1 : Int32) : Option (Int32) :=
  bd (f_X13_getsBy fu t0 t1 x8 x4 x2) fun r1 =>
  if x5 < r1 then
    (f_X13_isRest_114 fu k48 x0 x1 x2 x3 x4 x5 x6 x8)
  else
    (if x8 ≤ x3 then
      (f_X13_isRest_98 fu k48 x0 x1 x2 x3 x4 x5 x6 x8 x1 (0 : Int32))
    else
      (f_X13_isRest_98 fu k48 x0 x1 x2 x3 x4 x5 x6 x8 x1 (1 : Int32)))
set_option maxHeartbeats 4000000 in
set_option maxRecDepth 100000 in
theorem t_X13_isRest_73 {G : GG} {p : Program} {l : Launch} {e : Env} {s : State} {m : MethodId} {args : Array Value} {below : List Frame} {meth : Method} {c : Code} {S : ST} {fu : Nat} {z : Int32} {k48 : Int32 → Int32 → Option (Int32)} {x0 : Int32} {x1 : Int32} {x2 : Int32} {x3 : Int32} {x4 : Int32} {x5 : Int32} {x6 : Int32} {x8 : Int32} {t0 : Int32} {t1 : Int32} (hM : MC G p s m args c cX13_isRest w_X13_isRest RX13) (hml : c.maxLocals = 9) (hr : meth.sig.returnType = (some .boolean)) (hlk : meth.locks = false) (hk48 : ∀ (x7 : Int32) (x8 : Int32), k48 x7 x8 = some z → ∀ (H : Heap) (locs : List Loc), WB G S s H locs → ∀ (ls : Array Slot), lv_has ls 9 [(0, .int x0), (1, .int x1), (2, .int x2), (3, .int x3), (4, .int x4), (5, .int x5), (6, .int x6), (7, .int x7), (8, .int x8)] → W p l e RM_X13_isRest s m args below meth c H locs 0 0 (QR G below args s (some (.int z)) S S) (F0 m 48 ls [])) (hf : f_X13_isRest_73 fu k48  x0 x1 x2 x3 x4 x5 x6 x8 t0 t1 = some z) : ∀ (H : Heap) (locs : List Loc), WB G S s H locs → ∀ (ls : Array Slot), lv_has ls 9 [(0, .int x0), (1, .int x1), (2, .int x2), (3, .int x3), (4, .int x4), (5, .int x5), (6, .int x6), (8, .int x8)] → W p l e RM_X13_isRest s m args below meth c H locs 0 0 (QR G below args s (some (.int z)) S S) (F0 m 73 ls [.int t1, .int t0]) := by
  intro H locs hW ls hl
  have hx := hM.1
  have hb := hM.2.1
  refine lv_iload hx hb dX13_isRest_73 (lv_at hl 7 rfl) ?_
  refine lv_iload hx hb dX13_isRest_75 (lv_at hl 4 rfl) ?_
  refine lv_iload_n hx hb dX13_isRest_77 rfl (lv_at hl 2 rfl) ?_
  obtain ⟨r1, hr1, hf⟩ := bd_elim hf
  refine b_callSi [.int t0, .int t1, .int x8, .int x4, .int x2] [] hM hml hl.1 hW (c_X13_getsBy l G fu _ _ _ _ _ _ hr1) (va_cwS 5 hM.2.2.2.1 (gS mk_RX13_445 sm_X13_getsBy it_RX13 cd_X13_getsBy) rfl rfl rfl (by decide +kernel) ⟨Nat.le_of_ble_eq_true rfl, Nat.le_of_ble_eq_true rfl⟩) rfl rfl (Nat.le_of_ble_eq_true rfl) ⟨Nat.zero_le _, Nat.zero_le _⟩ dX13_isRest_78 (fun H locs hW hk => ?_)
  refine lv_iload hx hb dX13_isRest_81 (lv_at hl 5 rfl) ?_
  refine lv_icmp_gt (tgt := 114) hx hb dX13_isRest_83 (by decide) (fun c2 => ?_) (fun c2 => ?_)
  · have hf := if_t c2 hf
    exact t_X13_isRest_114 (fu := fu) hM hml hr hlk hk48 hf _ _ hW _ (lv_sub hl [0, 1, 2, 3, 4, 5, 6, 7] rfl)
  · have hf := if_f c2 hf
    refine lv_iload_n hx hb dX13_isRest_86 rfl (lv_at hl 1 rfl) ?_
    refine lv_iload hx hb dX13_isRest_87 (lv_at hl 7 rfl) ?_
    refine lv_iload_n hx hb dX13_isRest_89 rfl (lv_at hl 3 rfl) ?_
    refine lv_icmp_le (tgt := 97) hx hb dX13_isRest_90 (by decide) (fun c3 => ?_) (fun c3 => ?_)
    · have hf := if_t c3 hf
      refine lv_iconst (v := (0 : Int32)) hx hb dX13_isRest_97 (by decide) ?_
      exact t_X13_isRest_98 (fu := fu) hM hml hr hlk hk48 hf _ _ hW _ (lv_sub hl [0, 1, 2, 3, 4, 5, 6, 7] rfl)
    · have hf := if_f c3 hf
      refine lv_iconst (v := (1 : Int32)) hx hb dX13_isRest_93 (by decide) ?_
      refine lv_goto (tgt := 98) hx hb dX13_isRest_94 (by decide) ?_
      exact t_X13_isRest_98 (fu := fu) hM hml hr hlk hk48 hf _ _ hW _ (lv_sub hl [0, 1, 2, 3, 4, 5, 6, 7] rfl)
noncomputable def f_X13_isRest_48s (fu : Nat)  (k48 : Int32 → Int32 → Option (Int32)) (x0 : Int32) (x1 : Int32) (x2 : Int32) (x3 : Int32) (x4 : Int32) (x5 : Int32) (x6 : Int32) (x7 : Int32) (x8 : Int32) : Option (Int32) :=
  if (10 : Int32) ≤ x8 then
    (ck (isB x7) <|
    some x7)
  else
    (if x7 = 0 then
      (f_X13_isRest_114 fu k48 x0 x1 x2 x3 x4 x5 x6 x8)
    else
      (if x8 < x4 then
        (f_X13_isRest_73 fu k48 x0 x1 x2 x3 x4 x5 x6 x8 x0 (0 : Int32))
      else
        (f_X13_isRest_73 fu k48 x0 x1 x2 x3 x4 x5 x6 x8 x0 (1 : Int32))))
noncomputable def f_X13_isRest_48 (fu n : Nat)  (x0 : Int32) (x1 : Int32) (x2 : Int32) (x3 : Int32) (x4 : Int32) (x5 : Int32) (x6 : Int32) : Int32 → Int32 → Option (Int32) :=
  lq_2 (fun k48 => f_X13_isRest_48s fu  k48 x0 x1 x2 x3 x4 x5 x6) n
set_option maxHeartbeats 4000000 in
set_option maxRecDepth 100000 in
theorem t_X13_isRest_48s {G : GG} {p : Program} {l : Launch} {e : Env} {s : State} {m : MethodId} {args : Array Value} {below : List Frame} {meth : Method} {c : Code} {S : ST} {fu : Nat} {z : Int32}  (hM : MC G p s m args c cX13_isRest w_X13_isRest RX13) (hml : c.maxLocals = 9) (hr : meth.sig.returnType = (some .boolean)) (hlk : meth.locks = false) {k48 : Int32 → Int32 → Option (Int32)} {x0 : Int32} {x1 : Int32} {x2 : Int32} {x3 : Int32} {x4 : Int32} {x5 : Int32} {x6 : Int32}  (hk48 : ∀ (x7 : Int32) (x8 : Int32), k48 x7 x8 = some z → ∀ (H : Heap) (locs : List Loc), WB G S s H locs → ∀ (ls : Array Slot), lv_has ls 9 [(0, .int x0), (1, .int x1), (2, .int x2), (3, .int x3), (4, .int x4), (5, .int x5), (6, .int x6), (7, .int x7), (8, .int x8)] → W p l e RM_X13_isRest s m args below meth c H locs 0 0 (QR G below args s (some (.int z)) S S) (F0 m 48 ls [])) : ∀ (x7 : Int32) (x8 : Int32), f_X13_isRest_48s fu  k48 x0 x1 x2 x3 x4 x5 x6 x7 x8 = some z → ∀ (H : Heap) (locs : List Loc), WB G S s H locs → ∀ (ls : Array Slot), lv_has ls 9 [(0, .int x0), (1, .int x1), (2, .int x2), (3, .int x3), (4, .int x4), (5, .int x5), (6, .int x6), (7, .int x7), (8, .int x8)] → W p l e RM_X13_isRest s m args below meth c H locs 0 0 (QR G below args s (some (.int z)) S S) (F0 m 48 ls []) := by
  intro x7 x8 hf H locs hW ls hl
  have hx := hM.1
  have hb := hM.2.1
  refine lv_iload hx hb dX13_isRest_48 (lv_at hl 8 rfl) ?_
  refine lv_bipush (v := (10 : Int32)) hx hb dX13_isRest_50 (by decide) ?_
  refine lv_icmp_ge (tgt := 123) hx hb dX13_isRest_52 (by decide) (fun c1 => ?_) (fun c1 => ?_)
  · have hf := if_t c1 hf
    refine lv_iload hx hb dX13_isRest_123 (lv_at hl 7 rfl) ?_
    obtain ⟨h2, hf⟩ := ck_elim hf
    cases hf
    exact W.zret (v := _) hx hb hr (isB_nar h2) (b_ret0 hW (fun _ _ => rfl) _) hW.2.2.2 dX13_isRest_125 hlk
  · have hf := if_f c1 hf
    refine lv_iload hx hb dX13_isRest_55 (lv_at hl 7 rfl) ?_
    refine lv_if_eq (tgt := 114) hx hb dX13_isRest_57 (by decide) (fun c3 => ?_) (fun c3 => ?_)
    · have hf := if_t c3 hf
      exact t_X13_isRest_114 (fu := fu) hM hml hr hlk hk48 hf _ _ hW _ (lv_sub hl [0, 1, 2, 3, 4, 5, 6, 8] rfl)
    · have hf := if_f c3 hf
      refine lv_iload_n hx hb dX13_isRest_60 rfl (lv_at hl 0 rfl) ?_
      refine lv_iload hx hb dX13_isRest_61 (lv_at hl 8 rfl) ?_
      refine lv_iload hx hb dX13_isRest_63 (lv_at hl 4 rfl) ?_
      refine lv_icmp_lt (tgt := 72) hx hb dX13_isRest_65 (by decide) (fun c4 => ?_) (fun c4 => ?_)
      · have hf := if_t c4 hf
        refine lv_iconst (v := (0 : Int32)) hx hb dX13_isRest_72 (by decide) ?_
        exact t_X13_isRest_73 (fu := fu) hM hml hr hlk hk48 hf _ _ hW _ (lv_sub hl [0, 1, 2, 3, 4, 5, 6, 8] rfl)
      · have hf := if_f c4 hf
        refine lv_iconst (v := (1 : Int32)) hx hb dX13_isRest_68 (by decide) ?_
        refine lv_goto (tgt := 73) hx hb dX13_isRest_69 (by decide) ?_
        exact t_X13_isRest_73 (fu := fu) hM hml hr hlk hk48 hf _ _ hW _ (lv_sub hl [0, 1, 2, 3, 4, 5, 6, 8] rfl)
theorem t_X13_isRest_48 {G : GG} {p : Program} {l : Launch} {e : Env} {s : State} {m : MethodId} {args : Array Value} {below : List Frame} {meth : Method} {c : Code} {S : ST} {fu : Nat} {z : Int32}  {x0 : Int32} {x1 : Int32} {x2 : Int32} {x3 : Int32} {x4 : Int32} {x5 : Int32} {x6 : Int32} (hM : MC G p s m args c cX13_isRest w_X13_isRest RX13) (hml : c.maxLocals = 9) (hr : meth.sig.returnType = (some .boolean)) (hlk : meth.locks = false)  : ∀ {n : Nat} (x7 : Int32) (x8 : Int32), f_X13_isRest_48 fu n  x0 x1 x2 x3 x4 x5 x6 x7 x8 = some z → ∀ (H : Heap) (locs : List Loc), WB G S s H locs → ∀ (ls : Array Slot), lv_has ls 9 [(0, .int x0), (1, .int x1), (2, .int x2), (3, .int x3), (4, .int x4), (5, .int x5), (6, .int x6), (7, .int x7), (8, .int x8)] → W p l e RM_X13_isRest s m args below meth c H locs 0 0 (QR G below args s (some (.int z)) S S) (F0 m 48 ls []) := by
  intro n
  induction n with
  | zero => intro x7 x8 hf; cases hf
  | succ n ih => intro x7 x8 hf; exact t_X13_isRest_48s (fu := fu) hM hml hr hlk  (k48 := f_X13_isRest_48 fu n  x0 x1 x2 x3 x4 x5 x6) ih _ _ hf
noncomputable def f_X13_isRest_33 (fu : Nat)  (x0 : Int32) (x1 : Int32) (x2 : Int32) (x3 : Int32) (x4 : Int32) (x5 : Int32) (t0 : Int32) (t1 : Int32) : Option (Int32) :=
  bd (f_X13_getsBy fu t0 t1 x4 x3 x2) fun r1 =>
  f_X13_isRest_48 fu fu x0 x1 x2 x3 x4 x5 r1 (1 : Int32) (0 : Int32)
set_option maxHeartbeats 4000000 in
set_option maxRecDepth 100000 in
theorem t_X13_isRest_33 {G : GG} {p : Program} {l : Launch} {e : Env} {s : State} {m : MethodId} {args : Array Value} {below : List Frame} {meth : Method} {c : Code} {S : ST} {fu : Nat} {z : Int32}  {x0 : Int32} {x1 : Int32} {x2 : Int32} {x3 : Int32} {x4 : Int32} {x5 : Int32} {t0 : Int32} {t1 : Int32} (hM : MC G p s m args c cX13_isRest w_X13_isRest RX13) (hml : c.maxLocals = 9) (hr : meth.sig.returnType = (some .boolean)) (hlk : meth.locks = false)  (hf : f_X13_isRest_33 fu   x0 x1 x2 x3 x4 x5 t0 t1 = some z) : ∀ (H : Heap) (locs : List Loc), WB G S s H locs → ∀ (ls : Array Slot), lv_has ls 9 [(0, .int x0), (1, .int x1), (2, .int x2), (3, .int x3), (4, .int x4), (5, .int x5)] → W p l e RM_X13_isRest s m args below meth c H locs 0 0 (QR G below args s (some (.int z)) S S) (F0 m 33 ls [.int t1, .int t0]) := by
  intro H locs hW ls hl
  have hx := hM.1
  have hb := hM.2.1
  refine lv_iload hx hb dX13_isRest_33 (lv_at hl 4 rfl) ?_
  refine lv_iload_n hx hb dX13_isRest_35 rfl (lv_at hl 3 rfl) ?_
  refine lv_iload_n hx hb dX13_isRest_36 rfl (lv_at hl 2 rfl) ?_
  obtain ⟨r1, hr1, hf⟩ := bd_elim hf
  refine b_callSi [.int t0, .int t1, .int x4, .int x3, .int x2] [] hM hml hl.1 hW (c_X13_getsBy l G fu _ _ _ _ _ _ hr1) (va_cwS 5 hM.2.2.2.1 (gS mk_RX13_445 sm_X13_getsBy it_RX13 cd_X13_getsBy) rfl rfl rfl (by decide +kernel) ⟨Nat.le_of_ble_eq_true rfl, Nat.le_of_ble_eq_true rfl⟩) rfl rfl (Nat.le_of_ble_eq_true rfl) ⟨Nat.zero_le _, Nat.zero_le _⟩ dX13_isRest_37 (fun H locs hW hk => ?_)
  refine lv_istore (lv' := [(6, .int r1), (0, .int x0), (1, .int x1), (2, .int x2), (3, .int x3), (4, .int x4), (5, .int x5)]) hx hb dX13_isRest_40 hl (by decide) rfl (fun ls hl => ?_)
  refine lv_iconst (v := (1 : Int32)) hx hb dX13_isRest_42 (by decide) ?_
  refine lv_istore (lv' := [(7, .int (1 : Int32)), (6, .int r1), (0, .int x0), (1, .int x1), (2, .int x2), (3, .int x3), (4, .int x4), (5, .int x5)]) hx hb dX13_isRest_43 hl (by decide) rfl (fun ls hl => ?_)
  refine lv_iconst (v := (0 : Int32)) hx hb dX13_isRest_45 (by decide) ?_
  refine lv_istore (lv' := [(8, .int (0 : Int32)), (7, .int (1 : Int32)), (6, .int r1), (0, .int x0), (1, .int x1), (2, .int x2), (3, .int x3), (4, .int x4), (5, .int x5)]) hx hb dX13_isRest_46 hl (by decide) rfl (fun ls hl => ?_)
  exact t_X13_isRest_48 (fu := fu) hM hml hr hlk _ _ hf _ _ hW _ (lv_sub hl [3, 4, 5, 6, 7, 8, 2, 1, 0] rfl)
noncomputable def f_X13_isRest_12 (fu : Nat)  (x0 : Int32) (x1 : Int32) (x2 : Int32) (x3 : Int32) (x4 : Int32) (t0 : Int32) (t1 : Int32) : Option (Int32) :=
  bd (f_X13_getsBy fu t0 t1 x3 x4 x2) fun r1 =>
  if x4 ≤ x3 then
    (f_X13_isRest_33 fu x0 x1 x2 x3 x4 r1 x1 (0 : Int32))
  else
    (f_X13_isRest_33 fu x0 x1 x2 x3 x4 r1 x1 (1 : Int32))
set_option maxHeartbeats 4000000 in
set_option maxRecDepth 100000 in
theorem t_X13_isRest_12 {G : GG} {p : Program} {l : Launch} {e : Env} {s : State} {m : MethodId} {args : Array Value} {below : List Frame} {meth : Method} {c : Code} {S : ST} {fu : Nat} {z : Int32}  {x0 : Int32} {x1 : Int32} {x2 : Int32} {x3 : Int32} {x4 : Int32} {t0 : Int32} {t1 : Int32} (hM : MC G p s m args c cX13_isRest w_X13_isRest RX13) (hml : c.maxLocals = 9) (hr : meth.sig.returnType = (some .boolean)) (hlk : meth.locks = false)  (hf : f_X13_isRest_12 fu   x0 x1 x2 x3 x4 t0 t1 = some z) : ∀ (H : Heap) (locs : List Loc), WB G S s H locs → ∀ (ls : Array Slot), lv_has ls 9 [(0, .int x0), (1, .int x1), (2, .int x2), (3, .int x3), (4, .int x4)] → W p l e RM_X13_isRest s m args below meth c H locs 0 0 (QR G below args s (some (.int z)) S S) (F0 m 12 ls [.int t1, .int t0]) := by
  intro H locs hW ls hl
  have hx := hM.1
  have hb := hM.2.1
  refine lv_iload_n hx hb dX13_isRest_12 rfl (lv_at hl 3 rfl) ?_
  refine lv_iload hx hb dX13_isRest_13 (lv_at hl 4 rfl) ?_
  refine lv_iload_n hx hb dX13_isRest_15 rfl (lv_at hl 2 rfl) ?_
  obtain ⟨r1, hr1, hf⟩ := bd_elim hf
  refine b_callSi [.int t0, .int t1, .int x3, .int x4, .int x2] [] hM hml hl.1 hW (c_X13_getsBy l G fu _ _ _ _ _ _ hr1) (va_cwS 5 hM.2.2.2.1 (gS mk_RX13_445 sm_X13_getsBy it_RX13 cd_X13_getsBy) rfl rfl rfl (by decide +kernel) ⟨Nat.le_of_ble_eq_true rfl, Nat.le_of_ble_eq_true rfl⟩) rfl rfl (Nat.le_of_ble_eq_true rfl) ⟨Nat.zero_le _, Nat.zero_le _⟩ dX13_isRest_16 (fun H locs hW hk => ?_)
  refine lv_istore (lv' := [(5, .int r1), (0, .int x0), (1, .int x1), (2, .int x2), (3, .int x3), (4, .int x4)]) hx hb dX13_isRest_19 hl (by decide) rfl (fun ls hl => ?_)
  refine lv_iload_n hx hb dX13_isRest_21 rfl (lv_at hl 2 rfl) ?_
  refine lv_iload hx hb dX13_isRest_22 (lv_at hl 5 rfl) ?_
  refine lv_iload_n hx hb dX13_isRest_24 rfl (lv_at hl 4 rfl) ?_
  refine lv_icmp_le (tgt := 32) hx hb dX13_isRest_25 (by decide) (fun c2 => ?_) (fun c2 => ?_)
  · have hf := if_t c2 hf
    refine lv_iconst (v := (0 : Int32)) hx hb dX13_isRest_32 (by decide) ?_
    exact t_X13_isRest_33 (fu := fu) hM hml hr hlk hf _ _ hW _ (lv_sub hl [1, 2, 3, 4, 5, 0] rfl)
  · have hf := if_f c2 hf
    refine lv_iconst (v := (1 : Int32)) hx hb dX13_isRest_28 (by decide) ?_
    refine lv_goto (tgt := 33) hx hb dX13_isRest_29 (by decide) ?_
    exact t_X13_isRest_33 (fu := fu) hM hml hr hlk hf _ _ hW _ (lv_sub hl [1, 2, 3, 4, 5, 0] rfl)
noncomputable def f_X13_isRest_0 (fu : Nat)  (x0 : Int32) (x1 : Int32) (x2 : Int32) (x3 : Int32) (x4 : Int32) : Option (Int32) :=
  if x3 < x4 then
    (f_X13_isRest_12 fu x0 x1 x2 x3 x4 x0 (0 : Int32))
  else
    (f_X13_isRest_12 fu x0 x1 x2 x3 x4 x0 (1 : Int32))
set_option maxHeartbeats 4000000 in
set_option maxRecDepth 100000 in
theorem t_X13_isRest_0 {G : GG} {p : Program} {l : Launch} {e : Env} {s : State} {m : MethodId} {args : Array Value} {below : List Frame} {meth : Method} {c : Code} {S : ST} {fu : Nat} {z : Int32}  {x0 : Int32} {x1 : Int32} {x2 : Int32} {x3 : Int32} {x4 : Int32} (hM : MC G p s m args c cX13_isRest w_X13_isRest RX13) (hml : c.maxLocals = 9) (hr : meth.sig.returnType = (some .boolean)) (hlk : meth.locks = false)  (hf : f_X13_isRest_0 fu   x0 x1 x2 x3 x4 = some z) : ∀ (H : Heap) (locs : List Loc), WB G S s H locs → ∀ (ls : Array Slot), lv_has ls 9 [(0, .int x0), (1, .int x1), (2, .int x2), (3, .int x3), (4, .int x4)] → W p l e RM_X13_isRest s m args below meth c H locs 0 0 (QR G below args s (some (.int z)) S S) (F0 m 0 ls []) := by
  intro H locs hW ls hl
  have hx := hM.1
  have hb := hM.2.1
  refine lv_iload_n hx hb dX13_isRest_0 rfl (lv_at hl 0 rfl) ?_
  refine lv_iload_n hx hb dX13_isRest_1 rfl (lv_at hl 3 rfl) ?_
  refine lv_iload hx hb dX13_isRest_2 (lv_at hl 4 rfl) ?_
  refine lv_icmp_lt (tgt := 11) hx hb dX13_isRest_4 (by decide) (fun c1 => ?_) (fun c1 => ?_)
  · have hf := if_t c1 hf
    refine lv_iconst (v := (0 : Int32)) hx hb dX13_isRest_11 (by decide) ?_
    exact t_X13_isRest_12 (fu := fu) hM hml hr hlk hf _ _ hW _ (lv_sub hl [0, 1, 2, 3, 4] rfl)
  · have hf := if_f c1 hf
    refine lv_iconst (v := (1 : Int32)) hx hb dX13_isRest_7 (by decide) ?_
    refine lv_goto (tgt := 12) hx hb dX13_isRest_8 (by decide) ?_
    exact t_X13_isRest_12 (fu := fu) hM hml hr hlk hf _ _ hW _ (lv_sub hl [0, 1, 2, 3, 4] rfl)
noncomputable def f_X13_isRest (fu : Nat) (x0 : Int32) (x1 : Int32) (x2 : Int32) (x3 : Int32) (x4 : Int32) : Option (Int32) := f_X13_isRest_0 fu x0 x1 x2 x3 x4
set_option maxHeartbeats 4000000 in
set_option maxRecDepth 100000 in
theorem c_X13_isRest (l : Launch) (G : GG) (fu : Nat) (S : ST) (x0 : Int32) (x1 : Int32) (x2 : Int32) (x3 : Int32) (x4 : Int32) {z : Int32} (hf : f_X13_isRest fu x0 x1 x2 x3 x4 = some z) : Ct l yX13_isRest w_X13_isRest RM_X13_isRest G S [.int x0, .int x1, .int x2, .int x3, .int x4] (some (.int z)) S 0 0 := by
  refine Met.ofW (cc := cX13_isRest) (maxL := 9) (ret := (some .boolean)) (by decide) rfl ?_
  intro p e s m args below meth c s₁ B hml hv
  obtain ⟨rfl, hB, hK, hz⟩ := hv
  have hM : MC G p s m _ c cX13_isRest w_X13_isRest RX13 := ⟨B.exec, B.bytes, findClass_of_methodNamed B.named, atoms_spec (ws := w_X13_isRest) B.pre, hK, hz⟩
  have hW : WB G S s s.heap [] := ⟨hB, va_S.rf⟩
  have hl := lv_entry ([.int x0, .int x1, .int x2, .int x3, .int x4]) (n := 9) (Nat.le_of_ble_eq_true rfl)
  rw [lg_entry_eq]
  generalize (lg_sl ([.int x0, .int x1, .int x2, .int x3, .int x4]) ++ List.replicate (9 - (lg_sl ([.int x0, .int x1, .int x2, .int x3, .int x4])).length) Slot.unset).toArray = ls at hl ⊢
  have hl : lv_has ls 9 [(0, .int x0), (1, .int x1), (2, .int x2), (3, .int x3), (4, .int x4)] := hl
  exact t_X13_isRest_0 hM hml B.returns B.notSynchronized hf _ _ hW _ (lv_sub hl [0, 1, 2, 3, 4] rfl)
abbrev w_X13_rests : List Cond := Cond.code yX13_rests cX13_rests 10 (some .int) :: wsL_law0
abbrev RM_X13_rests : Room := { frames := 2, cells := 0, slots := 0, locals := 52 }
noncomputable def f_X13_rests_135 (fu : Nat)  (v : GV) (x4 : Int32) (x6 : Int32) (x7 : Int32) (t1 : Int32) : Option (Int32 × GV) :=
  nm (sI v 0 t1) fun v1 =>
  if (gI v1 0) ≤ 0 then
    (if 0 ≤ x4 then
      (some (x7, v1))
    else
      (some (x6, v1)))
  else
    (some ((0 : Int32), v1))
set_option maxHeartbeats 4000000 in
set_option maxRecDepth 100000 in
theorem t_X13_rests_135 {G : GG} {p : Program} {l : Launch} {e : Env} {s : State} {m : MethodId} {args : Array Value} {below : List Frame} {meth : Method} {c : Code} {S : ST} {fu : Nat} {z : Int32 × GV} {a : Nat} {v0 : GV}  {v : GV} {x4 : Int32} {x6 : Int32} {x7 : Int32} {t1 : Int32} (hM : MC G p s m args c cX13_rests w_X13_rests RX13) (hml : c.maxLocals = 10) (hr : meth.sig.returnType = (some .int)) (hlk : meth.locks = false) (hc0 : gC v0 = 12)  (hf : f_X13_rests_135 fu  v x4 x6 x7 t1 = some z) : gC v = 12 → ∀ (H : Heap) (locs : List Loc), WB G (st S a v) s H locs → ∀ (ls : Array Slot), lv_has ls 10 [(0, .ref a), (4, .int x4), (6, .int x6), (7, .int x7)] → W p l e RM_X13_rests s m args below meth c H locs 0 0 (QR G below args s (some (.int z.1)) (st S a v0) (st S a z.2)) (F0 m 135 ls [.int t1, .ref a]) := by
  intro hc H locs hW ls hl
  have hx := hM.1
  have hb := hM.2.1
  refine b_putI hM hW 11 0 hc rfl rfl (by decide) wi_X13 tyX13 tyX13_ok nmX13 (wgm fk_RX13_1) rfl rfl rfl dX13_rests_135 (fun v1 ev1 hc H locs hW => ?_)
  have hf := nm_at ev1 hf
  refine lv_aload_n hx hb dX13_rests_138 rfl (lv_at hl 0 rfl) ?_
  refine b_get hM hW 11 0 hc rfl rfl (by decide) wi_X13 (wgm fk_RX13_1) (x := .int (gI v1 0)) rfl dX13_rests_139 ?_
  refine lv_if_le (tgt := 149) hx hb dX13_rests_142 (by decide) (fun c2 => ?_) (fun c2 => ?_)
  · have hf := if_t c2 hf
    refine lv_iload hx hb dX13_rests_149 (lv_at hl 1 rfl) ?_
    refine lv_if_ge (tgt := 159) hx hb dX13_rests_151 (by decide) (fun c3 => ?_) (fun c3 => ?_)
    · have hf := if_t c3 hf
      refine lv_iload hx hb dX13_rests_159 (lv_at hl 3 rfl) ?_
      cases hf
      exact W.iret hx hb hr (b_ret0 hW (keep_s2 hc0 hc) _) hW.2.2.2 dX13_rests_161 hlk
    · have hf := if_f c3 hf
      refine lv_iload hx hb dX13_rests_154 (lv_at hl 2 rfl) ?_
      refine lv_goto (tgt := 161) hx hb dX13_rests_156 (by decide) ?_
      cases hf
      exact W.iret hx hb hr (b_ret0 hW (keep_s2 hc0 hc) _) hW.2.2.2 dX13_rests_161 hlk
  · have hf := if_f c2 hf
    refine lv_iconst (v := (0 : Int32)) hx hb dX13_rests_145 (by decide) ?_
    refine lv_goto (tgt := 161) hx hb dX13_rests_146 (by decide) ?_
    cases hf
    exact W.iret hx hb hr (b_ret0 hW (keep_s2 hc0 hc) _) hW.2.2.2 dX13_rests_161 hlk
noncomputable def f_X13_rests_134 (fu : Nat)  (v : GV) (x4 : Int32) (x6 : Int32) (x7 : Int32) : Option (Int32 × GV) :=
  f_X13_rests_135 fu v x4 x6 x7 (1 : Int32)
set_option maxHeartbeats 4000000 in
set_option maxRecDepth 100000 in
theorem t_X13_rests_134 {G : GG} {p : Program} {l : Launch} {e : Env} {s : State} {m : MethodId} {args : Array Value} {below : List Frame} {meth : Method} {c : Code} {S : ST} {fu : Nat} {z : Int32 × GV} {a : Nat} {v0 : GV}  {v : GV} {x4 : Int32} {x6 : Int32} {x7 : Int32} (hM : MC G p s m args c cX13_rests w_X13_rests RX13) (hml : c.maxLocals = 10) (hr : meth.sig.returnType = (some .int)) (hlk : meth.locks = false) (hc0 : gC v0 = 12)  (hf : f_X13_rests_134 fu  v x4 x6 x7 = some z) : gC v = 12 → ∀ (H : Heap) (locs : List Loc), WB G (st S a v) s H locs → ∀ (ls : Array Slot), lv_has ls 10 [(0, .ref a), (4, .int x4), (6, .int x6), (7, .int x7)] → W p l e RM_X13_rests s m args below meth c H locs 0 0 (QR G below args s (some (.int z.1)) (st S a v0) (st S a z.2)) (F0 m 134 ls [.ref a]) := by
  intro hc H locs hW ls hl
  have hx := hM.1
  have hb := hM.2.1
  refine lv_iconst (v := (1 : Int32)) hx hb dX13_rests_134 (by decide) ?_
  exact t_X13_rests_135 (fu := fu) hM hml hr hlk hc0 hf hc _ _ hW _ (lv_sub hl [0, 1, 2, 3] rfl)
noncomputable def f_X13_rests_130 (fu : Nat)  (v : GV) (x4 : Int32) (x6 : Int32) (x7 : Int32) : Option (Int32 × GV) :=
  f_X13_rests_135 fu v x4 x6 x7 (0 : Int32)
set_option maxHeartbeats 4000000 in
set_option maxRecDepth 100000 in
theorem t_X13_rests_130 {G : GG} {p : Program} {l : Launch} {e : Env} {s : State} {m : MethodId} {args : Array Value} {below : List Frame} {meth : Method} {c : Code} {S : ST} {fu : Nat} {z : Int32 × GV} {a : Nat} {v0 : GV}  {v : GV} {x4 : Int32} {x6 : Int32} {x7 : Int32} (hM : MC G p s m args c cX13_rests w_X13_rests RX13) (hml : c.maxLocals = 10) (hr : meth.sig.returnType = (some .int)) (hlk : meth.locks = false) (hc0 : gC v0 = 12)  (hf : f_X13_rests_130 fu  v x4 x6 x7 = some z) : gC v = 12 → ∀ (H : Heap) (locs : List Loc), WB G (st S a v) s H locs → ∀ (ls : Array Slot), lv_has ls 10 [(0, .ref a), (4, .int x4), (6, .int x6), (7, .int x7)] → W p l e RM_X13_rests s m args below meth c H locs 0 0 (QR G below args s (some (.int z.1)) (st S a v0) (st S a z.2)) (F0 m 130 ls [.ref a]) := by
  intro hc H locs hW ls hl
  have hx := hM.1
  have hb := hM.2.1
  refine lv_iconst (v := (0 : Int32)) hx hb dX13_rests_130 (by decide) ?_
  refine lv_goto (tgt := 135) hx hb dX13_rests_131 (by decide) ?_
  exact t_X13_rests_135 (fu := fu) hM hml hr hlk hc0 hf hc _ _ hW _ (lv_sub hl [0, 1, 2, 3] rfl)
noncomputable def f_X13_rests_114 (fu : Nat)  (v : GV) (x4 : Int32) (x5 : Int32) (x6 : Int32) (x7 : Int32) : Option (Int32 × GV) :=
  if x5 = 0 then
    (f_X13_rests_134 fu v x4 x6 x7)
  else
    (if x4 < 0 then
      (f_X13_rests_130 fu v x4 x6 x7)
    else
      (if x7 < 0 then
        (f_X13_rests_134 fu v x4 x6 x7)
      else
        (f_X13_rests_130 fu v x4 x6 x7)))
set_option maxHeartbeats 4000000 in
set_option maxRecDepth 100000 in
theorem t_X13_rests_114 {G : GG} {p : Program} {l : Launch} {e : Env} {s : State} {m : MethodId} {args : Array Value} {below : List Frame} {meth : Method} {c : Code} {S : ST} {fu : Nat} {z : Int32 × GV} {a : Nat} {v0 : GV}  {v : GV} {x4 : Int32} {x5 : Int32} {x6 : Int32} {x7 : Int32} (hM : MC G p s m args c cX13_rests w_X13_rests RX13) (hml : c.maxLocals = 10) (hr : meth.sig.returnType = (some .int)) (hlk : meth.locks = false) (hc0 : gC v0 = 12)  (hf : f_X13_rests_114 fu  v x4 x5 x6 x7 = some z) : gC v = 12 → ∀ (H : Heap) (locs : List Loc), WB G (st S a v) s H locs → ∀ (ls : Array Slot), lv_has ls 10 [(0, .ref a), (4, .int x4), (5, .int x5), (6, .int x6), (7, .int x7)] → W p l e RM_X13_rests s m args below meth c H locs 0 0 (QR G below args s (some (.int z.1)) (st S a v0) (st S a z.2)) (F0 m 114 ls []) := by
  intro hc H locs hW ls hl
  have hx := hM.1
  have hb := hM.2.1
  refine lv_aload_n hx hb dX13_rests_114 rfl (lv_at hl 0 rfl) ?_
  refine lv_iload hx hb dX13_rests_115 (lv_at hl 2 rfl) ?_
  refine lv_if_eq (tgt := 134) hx hb dX13_rests_117 (by decide) (fun c1 => ?_) (fun c1 => ?_)
  · have hf := if_t c1 hf
    exact t_X13_rests_134 (fu := fu) hM hml hr hlk hc0 hf hc _ _ hW _ (lv_sub hl [0, 1, 3, 4] rfl)
  · have hf := if_f c1 hf
    refine lv_iload hx hb dX13_rests_120 (lv_at hl 1 rfl) ?_
    refine lv_if_lt (tgt := 130) hx hb dX13_rests_122 (by decide) (fun c2 => ?_) (fun c2 => ?_)
    · have hf := if_t c2 hf
      exact t_X13_rests_130 (fu := fu) hM hml hr hlk hc0 hf hc _ _ hW _ (lv_sub hl [0, 1, 3, 4] rfl)
    · have hf := if_f c2 hf
      refine lv_iload hx hb dX13_rests_125 (lv_at hl 4 rfl) ?_
      refine lv_if_lt (tgt := 134) hx hb dX13_rests_127 (by decide) (fun c3 => ?_) (fun c3 => ?_)
      · have hf := if_t c3 hf
        exact t_X13_rests_134 (fu := fu) hM hml hr hlk hc0 hf hc _ _ hW _ (lv_sub hl [0, 1, 3, 4] rfl)
      · have hf := if_f c3 hf
        exact t_X13_rests_130 (fu := fu) hM hml hr hlk hc0 hf hc _ _ hW _ (lv_sub hl [0, 1, 3, 4] rfl)
noncomputable def f_X13_rests_105 (fu : Nat) (k42 : Int32 → Int32 → Int32 → GV → Option (Int32 × GV)) (v : GV) (x1 : Int32) (x2 : Int32) (x3 : Int32) (x4 : Int32) (x5 : Int32) (x7 : Int32) (x8 : Int32) (t0 : Int32) (t1 : Int32) : Option (Int32 × GV) :=
  nm ((t0 + t1)) fun y1 =>
  nm (x8 + (1 : Int32)) fun y2 =>
  k42 y1 x7 y2 v
set_option maxHeartbeats 4000000 in
set_option maxRecDepth 100000 in
theorem t_X13_rests_105 {G : GG} {p : Program} {l : Launch} {e : Env} {s : State} {m : MethodId} {args : Array Value} {below : List Frame} {meth : Method} {c : Code} {S : ST} {fu : Nat} {z : Int32 × GV} {a : Nat} {v0 : GV} {k42 : Int32 → Int32 → Int32 → GV → Option (Int32 × GV)} {v : GV} {x1 : Int32} {x2 : Int32} {x3 : Int32} {x4 : Int32} {x5 : Int32} {x7 : Int32} {x8 : Int32} {t0 : Int32} {t1 : Int32} (hM : MC G p s m args c cX13_rests w_X13_rests RX13) (hml : c.maxLocals = 10) (hr : meth.sig.returnType = (some .int)) (hlk : meth.locks = false) (hc0 : gC v0 = 12) (hk42 : ∀ (x6 : Int32) (x7 : Int32) (x8 : Int32) (v : GV), k42 x6 x7 x8 v = some z → gC v = 12 → ∀ (H : Heap) (locs : List Loc), WB G (st S a v) s H locs → ∀ (ls : Array Slot), lv_has ls 10 [(0, .ref a), (1, .int x1), (2, .int x2), (3, .int x3), (4, .int x4), (5, .int x5), (6, .int x6), (7, .int x7), (8, .int x8)] → W p l e RM_X13_rests s m args below meth c H locs 0 0 (QR G below args s (some (.int z.1)) (st S a v0) (st S a z.2)) (F0 m 42 ls [])) (hf : f_X13_rests_105 fu k42 v x1 x2 x3 x4 x5 x7 x8 t0 t1 = some z) : gC v = 12 → ∀ (H : Heap) (locs : List Loc), WB G (st S a v) s H locs → ∀ (ls : Array Slot), lv_has ls 10 [(0, .ref a), (1, .int x1), (2, .int x2), (3, .int x3), (4, .int x4), (5, .int x5), (7, .int x7), (8, .int x8)] → W p l e RM_X13_rests s m args below meth c H locs 0 0 (QR G below args s (some (.int z.1)) (st S a v0) (st S a z.2)) (F0 m 105 ls [.int t1, .int t0]) := by
  intro hc H locs hW ls hl
  have hx := hM.1
  have hb := hM.2.1
  refine lv_iadd hx hb dX13_rests_105 ?_
  refine lv_topi (fun y1 ey1 => ?_)
  have hf := nm_at ey1 hf
  refine lv_istore (lv' := [(6, .int y1), (0, .ref a), (1, .int x1), (2, .int x2), (3, .int x3), (4, .int x4), (5, .int x5), (7, .int x7), (8, .int x8)]) hx hb dX13_rests_106 hl (by decide) rfl (fun ls hl => ?_)
  obtain ⟨y2, ey2⟩ : ∃ y : Int32, y = x8 + (1 : Int32) := ⟨_, rfl⟩
  have hf := nm_at ey2 hf
  refine lv_iinc (v := y2) (lv' := [(8, .int y2), (6, .int y1), (0, .ref a), (1, .int x1), (2, .int x2), (3, .int x3), (4, .int x4), (5, .int x5), (7, .int x7)]) hx hb dX13_rests_108 hl (k := 8) rfl (by rw [ey2]; rfl) (by decide) rfl (fun ls hl => ?_)
  refine lv_goto (tgt := 42) hx hb dX13_rests_111 (by decide) ?_
  exact hk42 _ _ _ _ hf hc _ _ hW _ (lv_sub hl [2, 3, 4, 5, 6, 7, 1, 8, 0] rfl)
noncomputable def f_X13_rests_91 (fu : Nat) (k42 : Int32 → Int32 → Int32 → GV → Option (Int32 × GV)) (v : GV) (x1 : Int32) (x2 : Int32) (x3 : Int32) (x4 : Int32) (x5 : Int32) (x6 : Int32) (x8 : Int32) (x9 : Int32) (t0 : Int32) : Option (Int32 × GV) :=
  if x9 = 0 then
    (f_X13_rests_105 fu k42 v x1 x2 x3 x4 x5 t0 x8 x6 (0 : Int32))
  else
    (f_X13_rests_105 fu k42 v x1 x2 x3 x4 x5 t0 x8 x6 (1 : Int32))
set_option maxHeartbeats 4000000 in
set_option maxRecDepth 100000 in
theorem t_X13_rests_91 {G : GG} {p : Program} {l : Launch} {e : Env} {s : State} {m : MethodId} {args : Array Value} {below : List Frame} {meth : Method} {c : Code} {S : ST} {fu : Nat} {z : Int32 × GV} {a : Nat} {v0 : GV} {k42 : Int32 → Int32 → Int32 → GV → Option (Int32 × GV)} {v : GV} {x1 : Int32} {x2 : Int32} {x3 : Int32} {x4 : Int32} {x5 : Int32} {x6 : Int32} {x8 : Int32} {x9 : Int32} {t0 : Int32} (hM : MC G p s m args c cX13_rests w_X13_rests RX13) (hml : c.maxLocals = 10) (hr : meth.sig.returnType = (some .int)) (hlk : meth.locks = false) (hc0 : gC v0 = 12) (hk42 : ∀ (x6 : Int32) (x7 : Int32) (x8 : Int32) (v : GV), k42 x6 x7 x8 v = some z → gC v = 12 → ∀ (H : Heap) (locs : List Loc), WB G (st S a v) s H locs → ∀ (ls : Array Slot), lv_has ls 10 [(0, .ref a), (1, .int x1), (2, .int x2), (3, .int x3), (4, .int x4), (5, .int x5), (6, .int x6), (7, .int x7), (8, .int x8)] → W p l e RM_X13_rests s m args below meth c H locs 0 0 (QR G below args s (some (.int z.1)) (st S a v0) (st S a z.2)) (F0 m 42 ls [])) (hf : f_X13_rests_91 fu k42 v x1 x2 x3 x4 x5 x6 x8 x9 t0 = some z) : gC v = 12 → ∀ (H : Heap) (locs : List Loc), WB G (st S a v) s H locs → ∀ (ls : Array Slot), lv_has ls 10 [(0, .ref a), (1, .int x1), (2, .int x2), (3, .int x3), (4, .int x4), (5, .int x5), (6, .int x6), (8, .int x8), (9, .int x9)] → W p l e RM_X13_rests s m args below meth c H locs 0 0 (QR G below args s (some (.int z.1)) (st S a v0) (st S a z.2)) (F0 m 91 ls [.int t0]) := by
  intro hc H locs hW ls hl
  have hx := hM.1
  have hb := hM.2.1
  refine lv_istore (lv' := [(7, .int t0), (0, .ref a), (1, .int x1), (2, .int x2), (3, .int x3), (4, .int x4), (5, .int x5), (6, .int x6), (8, .int x8), (9, .int x9)]) hx hb dX13_rests_91 hl (by decide) rfl (fun ls hl => ?_)
  refine lv_iload hx hb dX13_rests_93 (lv_at hl 7 rfl) ?_
  refine lv_iload hx hb dX13_rests_95 (lv_at hl 9 rfl) ?_
  refine lv_if_eq (tgt := 104) hx hb dX13_rests_97 (by decide) (fun c1 => ?_) (fun c1 => ?_)
  · have hf := if_t c1 hf
    refine lv_iconst (v := (0 : Int32)) hx hb dX13_rests_104 (by decide) ?_
    exact t_X13_rests_105 (fu := fu) hM hml hr hlk hc0 hk42 hf hc _ _ hW _ (lv_sub hl [1, 2, 3, 4, 5, 6, 0, 8] rfl)
  · have hf := if_f c1 hf
    refine lv_iconst (v := (1 : Int32)) hx hb dX13_rests_100 (by decide) ?_
    refine lv_goto (tgt := 105) hx hb dX13_rests_101 (by decide) ?_
    exact t_X13_rests_105 (fu := fu) hM hml hr hlk hc0 hk42 hf hc _ _ hW _ (lv_sub hl [1, 2, 3, 4, 5, 6, 0, 8] rfl)
noncomputable def f_X13_rests_89 (fu : Nat) (k42 : Int32 → Int32 → Int32 → GV → Option (Int32 × GV)) (v : GV) (x1 : Int32) (x2 : Int32) (x3 : Int32) (x4 : Int32) (x5 : Int32) (x6 : Int32) (x7 : Int32) (x8 : Int32) (x9 : Int32) : Option (Int32 × GV) :=
  f_X13_rests_91 fu k42 v x1 x2 x3 x4 x5 x6 x8 x9 x7
set_option maxHeartbeats 4000000 in
set_option maxRecDepth 100000 in
theorem t_X13_rests_89 {G : GG} {p : Program} {l : Launch} {e : Env} {s : State} {m : MethodId} {args : Array Value} {below : List Frame} {meth : Method} {c : Code} {S : ST} {fu : Nat} {z : Int32 × GV} {a : Nat} {v0 : GV} {k42 : Int32 → Int32 → Int32 → GV → Option (Int32 × GV)} {v : GV} {x1 : Int32} {x2 : Int32} {x3 : Int32} {x4 : Int32} {x5 : Int32} {x6 : Int32} {x7 : Int32} {x8 : Int32} {x9 : Int32} (hM : MC G p s m args c cX13_rests w_X13_rests RX13) (hml : c.maxLocals = 10) (hr : meth.sig.returnType = (some .int)) (hlk : meth.locks = false) (hc0 : gC v0 = 12) (hk42 : ∀ (x6 : Int32) (x7 : Int32) (x8 : Int32) (v : GV), k42 x6 x7 x8 v = some z → gC v = 12 → ∀ (H : Heap) (locs : List Loc), WB G (st S a v) s H locs → ∀ (ls : Array Slot), lv_has ls 10 [(0, .ref a), (1, .int x1), (2, .int x2), (3, .int x3), (4, .int x4), (5, .int x5), (6, .int x6), (7, .int x7), (8, .int x8)] → W p l e RM_X13_rests s m args below meth c H locs 0 0 (QR G below args s (some (.int z.1)) (st S a v0) (st S a z.2)) (F0 m 42 ls [])) (hf : f_X13_rests_89 fu k42 v x1 x2 x3 x4 x5 x6 x7 x8 x9 = some z) : gC v = 12 → ∀ (H : Heap) (locs : List Loc), WB G (st S a v) s H locs → ∀ (ls : Array Slot), lv_has ls 10 [(0, .ref a), (1, .int x1), (2, .int x2), (3, .int x3), (4, .int x4), (5, .int x5), (6, .int x6), (7, .int x7), (8, .int x8), (9, .int x9)] → W p l e RM_X13_rests s m args below meth c H locs 0 0 (QR G below args s (some (.int z.1)) (st S a v0) (st S a z.2)) (F0 m 89 ls []) := by
  intro hc H locs hW ls hl
  have hx := hM.1
  have hb := hM.2.1
  refine lv_iload hx hb dX13_rests_89 (lv_at hl 7 rfl) ?_
  exact t_X13_rests_91 (fu := fu) hM hml hr hlk hc0 hk42 hf hc _ _ hW _ (lv_sub hl [0, 1, 2, 3, 4, 5, 6, 8, 9] rfl)
noncomputable def f_X13_rests_42s (fu : Nat)  (k42 : Int32 → Int32 → Int32 → GV → Option (Int32 × GV)) (x1 : Int32) (x2 : Int32) (x3 : Int32) (x4 : Int32) (x5 : Int32) (x6 : Int32) (x7 : Int32) (x8 : Int32) (v : GV) : Option (Int32 × GV) :=
  if (100 : Int32) ≤ x8 then
    (f_X13_rests_114 fu v x4 x5 x6 x7)
  else
    (if x5 = 0 then
      (f_X13_rests_114 fu v x4 x5 x6 x7)
    else
      (bd (f_X13_isRest fu x1 x2 x3 (x8 / (10 : Int32)) (x8 - x8 / (10 : Int32) * (10 : Int32))) fun r3 =>
      if r3 = 0 then
        (f_X13_rests_89 fu k42 v x1 x2 x3 x4 x5 x6 x7 x8 r3)
      else
        (if x6 = x4 then
          (f_X13_rests_91 fu k42 v x1 x2 x3 x4 x5 x6 x8 r3 x8)
        else
          (f_X13_rests_89 fu k42 v x1 x2 x3 x4 x5 x6 x7 x8 r3))))
noncomputable def f_X13_rests_42 (fu n : Nat)  (x1 : Int32) (x2 : Int32) (x3 : Int32) (x4 : Int32) (x5 : Int32) : Int32 → Int32 → Int32 → GV → Option (Int32 × GV) :=
  lq_4 (fun k42 => f_X13_rests_42s fu  k42 x1 x2 x3 x4 x5) n
set_option maxHeartbeats 4000000 in
set_option maxRecDepth 100000 in
theorem t_X13_rests_42s {G : GG} {p : Program} {l : Launch} {e : Env} {s : State} {m : MethodId} {args : Array Value} {below : List Frame} {meth : Method} {c : Code} {S : ST} {fu : Nat} {z : Int32 × GV} {a : Nat} {v0 : GV}  (hM : MC G p s m args c cX13_rests w_X13_rests RX13) (hml : c.maxLocals = 10) (hr : meth.sig.returnType = (some .int)) (hlk : meth.locks = false) (hc0 : gC v0 = 12) {k42 : Int32 → Int32 → Int32 → GV → Option (Int32 × GV)} {x1 : Int32} {x2 : Int32} {x3 : Int32} {x4 : Int32} {x5 : Int32}  (hk42 : ∀ (x6 : Int32) (x7 : Int32) (x8 : Int32) (v : GV), k42 x6 x7 x8 v = some z → gC v = 12 → ∀ (H : Heap) (locs : List Loc), WB G (st S a v) s H locs → ∀ (ls : Array Slot), lv_has ls 10 [(0, .ref a), (1, .int x1), (2, .int x2), (3, .int x3), (4, .int x4), (5, .int x5), (6, .int x6), (7, .int x7), (8, .int x8)] → W p l e RM_X13_rests s m args below meth c H locs 0 0 (QR G below args s (some (.int z.1)) (st S a v0) (st S a z.2)) (F0 m 42 ls [])) : ∀ (x6 : Int32) (x7 : Int32) (x8 : Int32) (v : GV), f_X13_rests_42s fu  k42 x1 x2 x3 x4 x5 x6 x7 x8 v = some z → gC v = 12 → ∀ (H : Heap) (locs : List Loc), WB G (st S a v) s H locs → ∀ (ls : Array Slot), lv_has ls 10 [(0, .ref a), (1, .int x1), (2, .int x2), (3, .int x3), (4, .int x4), (5, .int x5), (6, .int x6), (7, .int x7), (8, .int x8)] → W p l e RM_X13_rests s m args below meth c H locs 0 0 (QR G below args s (some (.int z.1)) (st S a v0) (st S a z.2)) (F0 m 42 ls []) := by
  intro x6 x7 x8 v hf hc H locs hW ls hl
  have hx := hM.1
  have hb := hM.2.1
  refine lv_iload hx hb dX13_rests_42 (lv_at hl 8 rfl) ?_
  refine lv_bipush (v := (100 : Int32)) hx hb dX13_rests_44 (by decide) ?_
  refine lv_icmp_ge (tgt := 114) hx hb dX13_rests_46 (by decide) (fun c1 => ?_) (fun c1 => ?_)
  · have hf := if_t c1 hf
    exact t_X13_rests_114 (fu := fu) hM hml hr hlk hc0 hf hc _ _ hW _ (lv_sub hl [0, 4, 5, 6, 7] rfl)
  · have hf := if_f c1 hf
    refine lv_iload hx hb dX13_rests_49 (lv_at hl 5 rfl) ?_
    refine lv_if_eq (tgt := 114) hx hb dX13_rests_51 (by decide) (fun c2 => ?_) (fun c2 => ?_)
    · have hf := if_t c2 hf
      exact t_X13_rests_114 (fu := fu) hM hml hr hlk hc0 hf hc _ _ hW _ (lv_sub hl [0, 4, 5, 6, 7] rfl)
    · have hf := if_f c2 hf
      refine lv_iload_n hx hb dX13_rests_54 rfl (lv_at hl 1 rfl) ?_
      refine lv_iload_n hx hb dX13_rests_55 rfl (lv_at hl 2 rfl) ?_
      refine lv_iload_n hx hb dX13_rests_56 rfl (lv_at hl 3 rfl) ?_
      refine lv_iload hx hb dX13_rests_57 (lv_at hl 8 rfl) ?_
      refine lv_bipush (v := (10 : Int32)) hx hb dX13_rests_59 (by decide) ?_
      refine lv_idiv hx hb dX13_rests_61 (by decide) ?_
      refine lv_iload hx hb dX13_rests_62 (lv_at hl 8 rfl) ?_
      refine lv_bipush (v := (10 : Int32)) hx hb dX13_rests_64 (by decide) ?_
      refine lv_irem hx hb dX13_rests_66 (by decide) ?_
      obtain ⟨r3, hr3, hf⟩ := bd_elim hf
      refine b_callSi [.int x1, .int x2, .int x3, .int (x8 / (10 : Int32)), .int (x8 - x8 / (10 : Int32) * (10 : Int32))] [] hM hml hl.1 hW (c_X13_isRest l G fu _ _ _ _ _ _ hr3) (va_cwS 5 hM.2.2.2.1 (gS mk_RX13_449 sm_X13_isRest it_RX13 cd_X13_isRest) rfl rfl rfl (by decide +kernel) ⟨Nat.le_of_ble_eq_true rfl, Nat.le_of_ble_eq_true rfl⟩) rfl rfl (Nat.le_of_ble_eq_true rfl) ⟨Nat.zero_le _, Nat.zero_le _⟩ dX13_rests_67 (fun H locs hW hk => ?_)
      refine lv_istore (lv' := [(9, .int r3), (0, .ref a), (1, .int x1), (2, .int x2), (3, .int x3), (4, .int x4), (5, .int x5), (6, .int x6), (7, .int x7), (8, .int x8)]) hx hb dX13_rests_70 hl (by decide) rfl (fun ls hl => ?_)
      refine lv_iload hx hb dX13_rests_72 (lv_at hl 0 rfl) ?_
      refine lv_if_eq (tgt := 89) hx hb dX13_rests_74 (by decide) (fun c4 => ?_) (fun c4 => ?_)
      · have hf := if_t c4 hf
        exact t_X13_rests_89 (fu := fu) hM hml hr hlk hc0 hk42 hf hc _ _ hW _ (lv_sub hl [1, 2, 3, 4, 5, 6, 7, 8, 9, 0] rfl)
      · have hf := if_f c4 hf
        refine lv_iload hx hb dX13_rests_77 (lv_at hl 7 rfl) ?_
        refine lv_iload hx hb dX13_rests_79 (lv_at hl 5 rfl) ?_
        refine lv_icmp_ne (tgt := 89) hx hb dX13_rests_81 (by decide) (fun c5 => ?_) (fun c5 => ?_)
        · have hf := if_f c5 hf
          exact t_X13_rests_89 (fu := fu) hM hml hr hlk hc0 hk42 hf hc _ _ hW _ (lv_sub hl [1, 2, 3, 4, 5, 6, 7, 8, 9, 0] rfl)
        · have hf := if_t c5 hf
          refine lv_iload hx hb dX13_rests_84 (lv_at hl 9 rfl) ?_
          refine lv_goto (tgt := 91) hx hb dX13_rests_86 (by decide) ?_
          exact t_X13_rests_91 (fu := fu) hM hml hr hlk hc0 hk42 hf hc _ _ hW _ (lv_sub hl [1, 2, 3, 4, 5, 6, 7, 9, 0] rfl)
theorem t_X13_rests_42 {G : GG} {p : Program} {l : Launch} {e : Env} {s : State} {m : MethodId} {args : Array Value} {below : List Frame} {meth : Method} {c : Code} {S : ST} {fu : Nat} {z : Int32 × GV} {a : Nat} {v0 : GV}  {x1 : Int32} {x2 : Int32} {x3 : Int32} {x4 : Int32} {x5 : Int32} (hM : MC G p s m args c cX13_rests w_X13_rests RX13) (hml : c.maxLocals = 10) (hr : meth.sig.returnType = (some .int)) (hlk : meth.locks = false) (hc0 : gC v0 = 12)  : ∀ {n : Nat} (x6 : Int32) (x7 : Int32) (x8 : Int32) (v : GV), f_X13_rests_42 fu n  x1 x2 x3 x4 x5 x6 x7 x8 v = some z → gC v = 12 → ∀ (H : Heap) (locs : List Loc), WB G (st S a v) s H locs → ∀ (ls : Array Slot), lv_has ls 10 [(0, .ref a), (1, .int x1), (2, .int x2), (3, .int x3), (4, .int x4), (5, .int x5), (6, .int x6), (7, .int x7), (8, .int x8)] → W p l e RM_X13_rests s m args below meth c H locs 0 0 (QR G below args s (some (.int z.1)) (st S a v0) (st S a z.2)) (F0 m 42 ls []) := by
  intro n
  induction n with
  | zero => intro x6 x7 x8 v hf; cases hf
  | succ n ih => intro x6 x7 x8 v hf; exact t_X13_rests_42s (fu := fu) hM hml hr hlk hc0  (k42 := f_X13_rests_42 fu n  x1 x2 x3 x4 x5) ih _ _ _ _ hf
noncomputable def f_X13_rests_31 (fu : Nat)  (v : GV) (x1 : Int32) (x2 : Int32) (x3 : Int32) (x4 : Int32) (t0 : Int32) : Option (Int32 × GV) :=
  f_X13_rests_42 fu fu x1 x2 x3 x4 t0 (0 : Int32) (-1 : Int32) (0 : Int32) v
set_option maxHeartbeats 4000000 in
set_option maxRecDepth 100000 in
theorem t_X13_rests_31 {G : GG} {p : Program} {l : Launch} {e : Env} {s : State} {m : MethodId} {args : Array Value} {below : List Frame} {meth : Method} {c : Code} {S : ST} {fu : Nat} {z : Int32 × GV} {a : Nat} {v0 : GV}  {v : GV} {x1 : Int32} {x2 : Int32} {x3 : Int32} {x4 : Int32} {t0 : Int32} (hM : MC G p s m args c cX13_rests w_X13_rests RX13) (hml : c.maxLocals = 10) (hr : meth.sig.returnType = (some .int)) (hlk : meth.locks = false) (hc0 : gC v0 = 12)  (hf : f_X13_rests_31 fu  v x1 x2 x3 x4 t0 = some z) : gC v = 12 → ∀ (H : Heap) (locs : List Loc), WB G (st S a v) s H locs → ∀ (ls : Array Slot), lv_has ls 10 [(0, .ref a), (1, .int x1), (2, .int x2), (3, .int x3), (4, .int x4)] → W p l e RM_X13_rests s m args below meth c H locs 0 0 (QR G below args s (some (.int z.1)) (st S a v0) (st S a z.2)) (F0 m 31 ls [.int t0]) := by
  intro hc H locs hW ls hl
  have hx := hM.1
  have hb := hM.2.1
  refine lv_istore (lv' := [(5, .int t0), (0, .ref a), (1, .int x1), (2, .int x2), (3, .int x3), (4, .int x4)]) hx hb dX13_rests_31 hl (by decide) rfl (fun ls hl => ?_)
  refine lv_iconst (v := (0 : Int32)) hx hb dX13_rests_33 (by decide) ?_
  refine lv_istore (lv' := [(6, .int (0 : Int32)), (5, .int t0), (0, .ref a), (1, .int x1), (2, .int x2), (3, .int x3), (4, .int x4)]) hx hb dX13_rests_34 hl (by decide) rfl (fun ls hl => ?_)
  refine lv_iconst (v := (-1 : Int32)) hx hb dX13_rests_36 (by decide) ?_
  refine lv_istore (lv' := [(7, .int (-1 : Int32)), (6, .int (0 : Int32)), (5, .int t0), (0, .ref a), (1, .int x1), (2, .int x2), (3, .int x3), (4, .int x4)]) hx hb dX13_rests_37 hl (by decide) rfl (fun ls hl => ?_)
  refine lv_iconst (v := (0 : Int32)) hx hb dX13_rests_39 (by decide) ?_
  refine lv_istore (lv' := [(8, .int (0 : Int32)), (7, .int (-1 : Int32)), (6, .int (0 : Int32)), (5, .int t0), (0, .ref a), (1, .int x1), (2, .int x2), (3, .int x3), (4, .int x4)]) hx hb dX13_rests_40 hl (by decide) rfl (fun ls hl => ?_)
  exact t_X13_rests_42 (fu := fu) hM hml hr hlk hc0 _ _ _ _ hf hc _ _ hW _ (lv_sub hl [4, 5, 6, 7, 8, 3, 2, 1, 0] rfl)
noncomputable def f_X13_rests_30 (fu : Nat)  (v : GV) (x1 : Int32) (x2 : Int32) (x3 : Int32) (x4 : Int32) : Option (Int32 × GV) :=
  f_X13_rests_31 fu v x1 x2 x3 x4 (0 : Int32)
set_option maxHeartbeats 4000000 in
set_option maxRecDepth 100000 in
theorem t_X13_rests_30 {G : GG} {p : Program} {l : Launch} {e : Env} {s : State} {m : MethodId} {args : Array Value} {below : List Frame} {meth : Method} {c : Code} {S : ST} {fu : Nat} {z : Int32 × GV} {a : Nat} {v0 : GV}  {v : GV} {x1 : Int32} {x2 : Int32} {x3 : Int32} {x4 : Int32} (hM : MC G p s m args c cX13_rests w_X13_rests RX13) (hml : c.maxLocals = 10) (hr : meth.sig.returnType = (some .int)) (hlk : meth.locks = false) (hc0 : gC v0 = 12)  (hf : f_X13_rests_30 fu  v x1 x2 x3 x4 = some z) : gC v = 12 → ∀ (H : Heap) (locs : List Loc), WB G (st S a v) s H locs → ∀ (ls : Array Slot), lv_has ls 10 [(0, .ref a), (1, .int x1), (2, .int x2), (3, .int x3), (4, .int x4)] → W p l e RM_X13_rests s m args below meth c H locs 0 0 (QR G below args s (some (.int z.1)) (st S a v0) (st S a z.2)) (F0 m 30 ls []) := by
  intro hc H locs hW ls hl
  have hx := hM.1
  have hb := hM.2.1
  refine lv_iconst (v := (0 : Int32)) hx hb dX13_rests_30 (by decide) ?_
  exact t_X13_rests_31 (fu := fu) hM hml hr hlk hc0 hf hc _ _ hW _ (lv_sub hl [0, 1, 2, 3, 4] rfl)
noncomputable def f_X13_rests_0 (fu : Nat)  (v : GV) (x1 : Int32) (x2 : Int32) (x3 : Int32) (x4 : Int32) : Option (Int32 × GV) :=
  bd (f_X13_within fu x1 (0 : Int32) (9 : Int32)) fun r1 =>
  if r1 = 0 then
    (f_X13_rests_30 fu v x1 x2 x3 x4)
  else
    (bd (f_X13_within fu x2 (0 : Int32) (9 : Int32)) fun r3 =>
    if r3 = 0 then
      (f_X13_rests_30 fu v x1 x2 x3 x4)
    else
      (if x4 < (-1 : Int32) then
        (f_X13_rests_30 fu v x1 x2 x3 x4)
      else
        (f_X13_rests_31 fu v x1 x2 x3 x4 (1 : Int32))))
set_option maxHeartbeats 4000000 in
set_option maxRecDepth 100000 in
theorem t_X13_rests_0 {G : GG} {p : Program} {l : Launch} {e : Env} {s : State} {m : MethodId} {args : Array Value} {below : List Frame} {meth : Method} {c : Code} {S : ST} {fu : Nat} {z : Int32 × GV} {a : Nat} {v0 : GV}  {v : GV} {x1 : Int32} {x2 : Int32} {x3 : Int32} {x4 : Int32} (hM : MC G p s m args c cX13_rests w_X13_rests RX13) (hml : c.maxLocals = 10) (hr : meth.sig.returnType = (some .int)) (hlk : meth.locks = false) (hc0 : gC v0 = 12)  (hf : f_X13_rests_0 fu  v x1 x2 x3 x4 = some z) : gC v = 12 → ∀ (H : Heap) (locs : List Loc), WB G (st S a v) s H locs → ∀ (ls : Array Slot), lv_has ls 10 [(0, .ref a), (1, .int x1), (2, .int x2), (3, .int x3), (4, .int x4)] → W p l e RM_X13_rests s m args below meth c H locs 0 0 (QR G below args s (some (.int z.1)) (st S a v0) (st S a z.2)) (F0 m 0 ls []) := by
  intro hc H locs hW ls hl
  have hx := hM.1
  have hb := hM.2.1
  refine lv_iload_n hx hb dX13_rests_0 rfl (lv_at hl 1 rfl) ?_
  refine lv_iconst (v := (0 : Int32)) hx hb dX13_rests_1 (by decide) ?_
  refine lv_bipush (v := (9 : Int32)) hx hb dX13_rests_2 (by decide) ?_
  obtain ⟨r1, hr1, hf⟩ := bd_elim hf
  refine b_callSi [.int x1, .int (0 : Int32), .int (9 : Int32)] [] hM hml hl.1 hW (c_X13_within l G fu _ _ _ _ hr1) (va_cwS 3 hM.2.2.2.1 (gS mk_RX13_231 sm_X13_within it_RX13 cd_X13_within) rfl rfl rfl (by decide +kernel) ⟨Nat.le_of_ble_eq_true rfl, Nat.le_of_ble_eq_true rfl⟩) rfl rfl (Nat.le_of_ble_eq_true rfl) ⟨Nat.zero_le _, Nat.zero_le _⟩ dX13_rests_4 (fun H locs hW hk => ?_)
  refine lv_if_eq (tgt := 30) hx hb dX13_rests_7 (by decide) (fun c2 => ?_) (fun c2 => ?_)
  · have hf := if_t c2 hf
    exact t_X13_rests_30 (fu := fu) hM hml hr hlk hc0 hf hc _ _ hW _ (lv_sub hl [0, 1, 2, 3, 4] rfl)
  · have hf := if_f c2 hf
    refine lv_iload_n hx hb dX13_rests_10 rfl (lv_at hl 2 rfl) ?_
    refine lv_iconst (v := (0 : Int32)) hx hb dX13_rests_11 (by decide) ?_
    refine lv_bipush (v := (9 : Int32)) hx hb dX13_rests_12 (by decide) ?_
    obtain ⟨r3, hr3, hf⟩ := bd_elim hf
    refine b_callSi [.int x2, .int (0 : Int32), .int (9 : Int32)] [] hM hml hl.1 hW (c_X13_within l G fu _ _ _ _ hr3) (va_cwS 3 hM.2.2.2.1 (gS mk_RX13_231 sm_X13_within it_RX13 cd_X13_within) rfl rfl rfl (by decide +kernel) ⟨Nat.le_of_ble_eq_true rfl, Nat.le_of_ble_eq_true rfl⟩) rfl rfl (Nat.le_of_ble_eq_true rfl) ⟨Nat.zero_le _, Nat.zero_le _⟩ dX13_rests_14 (fun H locs hW hk => ?_)
    refine lv_if_eq (tgt := 30) hx hb dX13_rests_17 (by decide) (fun c4 => ?_) (fun c4 => ?_)
    · have hf := if_t c4 hf
      exact t_X13_rests_30 (fu := fu) hM hml hr hlk hc0 hf hc _ _ hW _ (lv_sub hl [0, 1, 2, 3, 4] rfl)
    · have hf := if_f c4 hf
      refine lv_iload hx hb dX13_rests_20 (lv_at hl 4 rfl) ?_
      refine lv_iconst (v := (-1 : Int32)) hx hb dX13_rests_22 (by decide) ?_
      refine lv_icmp_lt (tgt := 30) hx hb dX13_rests_23 (by decide) (fun c5 => ?_) (fun c5 => ?_)
      · have hf := if_t c5 hf
        exact t_X13_rests_30 (fu := fu) hM hml hr hlk hc0 hf hc _ _ hW _ (lv_sub hl [0, 1, 2, 3, 4] rfl)
      · have hf := if_f c5 hf
        refine lv_iconst (v := (1 : Int32)) hx hb dX13_rests_26 (by decide) ?_
        refine lv_goto (tgt := 31) hx hb dX13_rests_27 (by decide) ?_
        exact t_X13_rests_31 (fu := fu) hM hml hr hlk hc0 hf hc _ _ hW _ (lv_sub hl [0, 1, 2, 3, 4] rfl)
noncomputable def f_X13_rests (fu : Nat) (v : GV) (x1 : Int32) (x2 : Int32) (x3 : Int32) (x4 : Int32) : Option (Int32 × GV) := f_X13_rests_0 fu v x1 x2 x3 x4
set_option maxHeartbeats 4000000 in
set_option maxRecDepth 100000 in
theorem c_X13_rests (l : Launch) (G : GG) (fu : Nat) (S : ST) (a : Nat) (v : GV) (x1 : Int32) (x2 : Int32) (x3 : Int32) (x4 : Int32) {z : Int32} {w : GV} (hc : gC v = 12) (hf : f_X13_rests fu v x1 x2 x3 x4 = some (z, w)) : Ct l yX13_rests w_X13_rests RM_X13_rests G (st S a v) [.ref a, .int x1, .int x2, .int x3, .int x4] (some (.int z)) (st S a w) 0 0 := by
  refine Met.ofW (cc := cX13_rests) (maxL := 10) (ret := (some .int)) (by decide) rfl ?_
  intro p e s m args below meth c s₁ B hml hv
  obtain ⟨rfl, hB, hK, hz⟩ := hv
  have hM : MC G p s m _ c cX13_rests w_X13_rests RX13 := ⟨B.exec, B.bytes, findClass_of_methodNamed B.named, atoms_spec (ws := w_X13_rests) B.pre, hK, hz⟩
  have hW : WB G (st S a v) s s.heap [] := ⟨hB, va_S.rf⟩
  have hl := lv_entry ([.ref a, .int x1, .int x2, .int x3, .int x4]) (n := 10) (Nat.le_of_ble_eq_true rfl)
  rw [lg_entry_eq]
  generalize (lg_sl ([.ref a, .int x1, .int x2, .int x3, .int x4]) ++ List.replicate (10 - (lg_sl ([.ref a, .int x1, .int x2, .int x3, .int x4])).length) Slot.unset).toArray = ls at hl ⊢
  have hl : lv_has ls 10 [(0, .ref a), (1, .int x1), (2, .int x2), (3, .int x3), (4, .int x4)] := hl
  exact t_X13_rests_0 hM hml B.returns B.notSynchronized hc hf hc _ _ hW _ (lv_sub hl [0, 1, 2, 3, 4] rfl)
abbrev w_X13_watches : List Cond := Cond.code yX13_watches cX13_watches 6 none :: wsL_law0
abbrev RM_X13_watches (d : Nat) : Room := { frames := 1 * d + 1, cells := 0, slots := 0, locals := 25 * d + 22 }
noncomputable def f_X13_watches_152 (fu : Nat) (rec : GV → Int32 → Int32 → Int32 → Option (GV)) (k120 : Int32 → GV → Option (GV)) (v : GV) (x1 : Int32) (x2 : Int32) (x3 : Int32) (x4 : Int32) (x5 : Int32) : Option (GV) :=
  nm (x5 + (1 : Int32)) fun y1 =>
  k120 y1 v
set_option maxHeartbeats 4000000 in
set_option maxRecDepth 100000 in
theorem t_X13_watches_152 {G : GG} {p : Program} {l : Launch} {e : Env} {s : State} {m : MethodId} {args : Array Value} {below : List Frame} {meth : Method} {c : Code} {S : ST} {fu : Nat} {z : GV} {a : Nat} {v0 : GV} {d : Nat} {rec : GV → Int32 → Int32 → Int32 → Option (GV)} {k120 : Int32 → GV → Option (GV)} {v : GV} {x1 : Int32} {x2 : Int32} {x3 : Int32} {x4 : Int32} {x5 : Int32} (hM : MC G p s m args c cX13_watches w_X13_watches RX13) (hml : c.maxLocals = 6) (hr : meth.sig.returnType = none) (hlk : meth.locks = false) (hrec : ∀ (S : ST) (v : GV) (x1 : Int32) (x2 : Int32) (x3 : Int32) (z : GV), gC v = 12 → rec v x1 x2 x3 = some z → Ct l yX13_watches w_X13_watches (RM_X13_watches d) G (st S a v) [.ref a, .int x1, .int x2, .int x3] none (st S a z) 0 0) (hc0 : gC v0 = 12) (hk120 : ∀ (x5 : Int32) (v : GV), k120 x5 v = some z → gC v = 12 → ∀ (H : Heap) (locs : List Loc), WB G (st S a v) s H locs → ∀ (ls : Array Slot), lv_has ls 6 [(0, .ref a), (1, .int x1), (2, .int x2), (3, .int x3), (4, .int x4), (5, .int x5)] → W p l e (RM_X13_watches (d + 1)) s m args below meth c H locs 0 0 (QR G below args s none (st S a v0) (st S a z)) (F0 m 120 ls [])) (hf : f_X13_watches_152 fu rec k120 v x1 x2 x3 x4 x5 = some z) : gC v = 12 → ∀ (H : Heap) (locs : List Loc), WB G (st S a v) s H locs → ∀ (ls : Array Slot), lv_has ls 6 [(0, .ref a), (1, .int x1), (2, .int x2), (3, .int x3), (4, .int x4), (5, .int x5)] → W p l e (RM_X13_watches (d + 1)) s m args below meth c H locs 0 0 (QR G below args s none (st S a v0) (st S a z)) (F0 m 152 ls []) := by
  intro hc H locs hW ls hl
  have hx := hM.1
  have hb := hM.2.1
  obtain ⟨y1, ey1⟩ : ∃ y : Int32, y = x5 + (1 : Int32) := ⟨_, rfl⟩
  have hf := nm_at ey1 hf
  refine lv_iinc (v := y1) (lv' := [(5, .int y1), (0, .ref a), (1, .int x1), (2, .int x2), (3, .int x3), (4, .int x4)]) hx hb dX13_watches_152 hl (k := 5) rfl (by rw [ey1]; rfl) (by decide) rfl (fun ls hl => ?_)
  refine lv_goto (tgt := 120) hx hb dX13_watches_155 (by decide) ?_
  exact hk120 _ _ hf hc _ _ hW _ (lv_sub hl [1, 2, 3, 4, 5, 0] rfl)
noncomputable def f_X13_watches_120s (fu : Nat) (rec : GV → Int32 → Int32 → Int32 → Option (GV))  (k120 : Int32 → GV → Option (GV)) (x1 : Int32) (x2 : Int32) (x3 : Int32) (x4 : Int32) (x5 : Int32) (v : GV) : Option (GV) :=
  if (24 : Int32) ≤ x5 then
    (some v)
  else
    (if ((x4 >>> (x5 &&& 31)) &&& (1 : Int32)) = (1 : Int32) then
      (bd (rec v (x1 + (1 : Int32)) (x2 ||| ((1 : Int32) <<< (x5 &&& 31))) x3) fun v4 =>
      f_X13_watches_152 fu rec k120 v4 x1 x2 x3 x4 x5)
    else
      (f_X13_watches_152 fu rec k120 v x1 x2 x3 x4 x5))
noncomputable def f_X13_watches_120 (fu n : Nat) (rec : GV → Int32 → Int32 → Int32 → Option (GV))  (x1 : Int32) (x2 : Int32) (x3 : Int32) (x4 : Int32) : Int32 → GV → Option (GV) :=
  lq_2 (fun k120 => f_X13_watches_120s fu rec  k120 x1 x2 x3 x4) n
set_option maxHeartbeats 4000000 in
set_option maxRecDepth 100000 in
theorem t_X13_watches_120s {G : GG} {p : Program} {l : Launch} {e : Env} {s : State} {m : MethodId} {args : Array Value} {below : List Frame} {meth : Method} {c : Code} {S : ST} {fu : Nat} {z : GV} {a : Nat} {v0 : GV} {d : Nat} {rec : GV → Int32 → Int32 → Int32 → Option (GV)}  (hM : MC G p s m args c cX13_watches w_X13_watches RX13) (hml : c.maxLocals = 6) (hr : meth.sig.returnType = none) (hlk : meth.locks = false) (hrec : ∀ (S : ST) (v : GV) (x1 : Int32) (x2 : Int32) (x3 : Int32) (z : GV), gC v = 12 → rec v x1 x2 x3 = some z → Ct l yX13_watches w_X13_watches (RM_X13_watches d) G (st S a v) [.ref a, .int x1, .int x2, .int x3] none (st S a z) 0 0) (hc0 : gC v0 = 12) {k120 : Int32 → GV → Option (GV)} {x1 : Int32} {x2 : Int32} {x3 : Int32} {x4 : Int32}  (hk120 : ∀ (x5 : Int32) (v : GV), k120 x5 v = some z → gC v = 12 → ∀ (H : Heap) (locs : List Loc), WB G (st S a v) s H locs → ∀ (ls : Array Slot), lv_has ls 6 [(0, .ref a), (1, .int x1), (2, .int x2), (3, .int x3), (4, .int x4), (5, .int x5)] → W p l e (RM_X13_watches (d + 1)) s m args below meth c H locs 0 0 (QR G below args s none (st S a v0) (st S a z)) (F0 m 120 ls [])) : ∀ (x5 : Int32) (v : GV), f_X13_watches_120s fu rec  k120 x1 x2 x3 x4 x5 v = some z → gC v = 12 → ∀ (H : Heap) (locs : List Loc), WB G (st S a v) s H locs → ∀ (ls : Array Slot), lv_has ls 6 [(0, .ref a), (1, .int x1), (2, .int x2), (3, .int x3), (4, .int x4), (5, .int x5)] → W p l e (RM_X13_watches (d + 1)) s m args below meth c H locs 0 0 (QR G below args s none (st S a v0) (st S a z)) (F0 m 120 ls []) := by
  intro x5 v hf hc H locs hW ls hl
  have hx := hM.1
  have hb := hM.2.1
  refine lv_iload hx hb dX13_watches_120 (lv_at hl 5 rfl) ?_
  refine lv_bipush (v := (24 : Int32)) hx hb dX13_watches_122 (by decide) ?_
  refine lv_icmp_ge (tgt := 158) hx hb dX13_watches_124 (by decide) (fun c1 => ?_) (fun c1 => ?_)
  · have hf := if_t c1 hf
    cases hf
    exact W.vret hx hb hr (b_ret0 hW (keep_s2 hc0 hc) _) hW.2.2.2 dX13_watches_158 hlk
  · have hf := if_f c1 hf
    refine lv_iload hx hb dX13_watches_127 (lv_at hl 4 rfl) ?_
    refine lv_iload hx hb dX13_watches_129 (lv_at hl 5 rfl) ?_
    refine lv_ishr hx hb dX13_watches_131 ?_
    refine lv_iconst (v := (1 : Int32)) hx hb dX13_watches_132 (by decide) ?_
    refine lv_iand hx hb dX13_watches_133 ?_
    refine lv_iconst (v := (1 : Int32)) hx hb dX13_watches_134 (by decide) ?_
    refine lv_icmp_ne (tgt := 152) hx hb dX13_watches_135 (by decide) (fun c2 => ?_) (fun c2 => ?_)
    · have hf := if_f c2 hf
      exact t_X13_watches_152 (fu := fu) hM hml hr hlk hrec hc0 hk120 hf hc _ _ hW _ (lv_sub hl [0, 1, 2, 3, 4, 5] rfl)
    · have hf := if_t c2 hf
      refine lv_aload_n hx hb dX13_watches_138 rfl (lv_at hl 0 rfl) ?_
      refine lv_iload_n hx hb dX13_watches_139 rfl (lv_at hl 1 rfl) ?_
      refine lv_iconst (v := (1 : Int32)) hx hb dX13_watches_140 (by decide) ?_
      refine lv_iadd hx hb dX13_watches_141 ?_
      refine lv_iload_n hx hb dX13_watches_142 rfl (lv_at hl 2 rfl) ?_
      refine lv_iconst (v := (1 : Int32)) hx hb dX13_watches_143 (by decide) ?_
      refine lv_iload hx hb dX13_watches_144 (lv_at hl 5 rfl) ?_
      refine lv_ishl hx hb dX13_watches_146 ?_
      refine lv_ior hx hb dX13_watches_147 ?_
      refine lv_iload_n hx hb dX13_watches_148 rfl (lv_at hl 3 rfl) ?_
      obtain ⟨v4, hr3, hf⟩ := bd_elim hf
      refine b_callVv [.int (x1 + (1 : Int32)), .int (x2 ||| ((1 : Int32) <<< (x5 &&& 31))), .int x3] [] hM hml hl.1 hW hc rfl (by decide) (hrec _ v _ _ _ _ hc hr3) (cwV 3 hM.2.2.2.1 (gV mk_RX13_456 im_X13_watches se_X13_watches it_RX13 cd_X13_watches) rfl rfl rfl (by decide +kernel) ⟨by show (1 * d + 1) + 1 ≤ 1 * (d + 1) + 1; omega, by show 8 + (6 + 11) + (25 * d + 22) ≤ 25 * (d + 1) + 22; omega⟩) rfl rfl (Nat.le_of_ble_eq_true rfl) ⟨Nat.zero_le _, Nat.zero_le _⟩ dX13_watches_149 (fun H locs hW hk => ?_)
      have hc := keep_at hc hk
      exact t_X13_watches_152 (fu := fu) hM hml hr hlk hrec hc0 hk120 hf hc _ _ hW _ (lv_sub hl [0, 1, 2, 3, 4, 5] rfl)
theorem t_X13_watches_120 {G : GG} {p : Program} {l : Launch} {e : Env} {s : State} {m : MethodId} {args : Array Value} {below : List Frame} {meth : Method} {c : Code} {S : ST} {fu : Nat} {z : GV} {a : Nat} {v0 : GV} {d : Nat} {rec : GV → Int32 → Int32 → Int32 → Option (GV)}  {x1 : Int32} {x2 : Int32} {x3 : Int32} {x4 : Int32} (hM : MC G p s m args c cX13_watches w_X13_watches RX13) (hml : c.maxLocals = 6) (hr : meth.sig.returnType = none) (hlk : meth.locks = false) (hrec : ∀ (S : ST) (v : GV) (x1 : Int32) (x2 : Int32) (x3 : Int32) (z : GV), gC v = 12 → rec v x1 x2 x3 = some z → Ct l yX13_watches w_X13_watches (RM_X13_watches d) G (st S a v) [.ref a, .int x1, .int x2, .int x3] none (st S a z) 0 0) (hc0 : gC v0 = 12)  : ∀ {n : Nat} (x5 : Int32) (v : GV), f_X13_watches_120 fu n rec  x1 x2 x3 x4 x5 v = some z → gC v = 12 → ∀ (H : Heap) (locs : List Loc), WB G (st S a v) s H locs → ∀ (ls : Array Slot), lv_has ls 6 [(0, .ref a), (1, .int x1), (2, .int x2), (3, .int x3), (4, .int x4), (5, .int x5)] → W p l e (RM_X13_watches (d + 1)) s m args below meth c H locs 0 0 (QR G below args s none (st S a v0) (st S a z)) (F0 m 120 ls []) := by
  intro n
  induction n with
  | zero => intro x5 v hf; cases hf
  | succ n ih => intro x5 v hf; exact t_X13_watches_120s (fu := fu) hM hml hr hlk hrec hc0  (k120 := f_X13_watches_120 fu n rec  x1 x2 x3 x4) ih _ _ hf
noncomputable def f_X13_watches_117 (fu : Nat) (rec : GV → Int32 → Int32 → Int32 → Option (GV))  (v : GV) (x1 : Int32) (x2 : Int32) (x3 : Int32) (x4 : Int32) : Option (GV) :=
  f_X13_watches_120 fu fu rec x1 x2 x3 x4 (0 : Int32) v
set_option maxHeartbeats 4000000 in
set_option maxRecDepth 100000 in
theorem t_X13_watches_117 {G : GG} {p : Program} {l : Launch} {e : Env} {s : State} {m : MethodId} {args : Array Value} {below : List Frame} {meth : Method} {c : Code} {S : ST} {fu : Nat} {z : GV} {a : Nat} {v0 : GV} {d : Nat} {rec : GV → Int32 → Int32 → Int32 → Option (GV)}  {v : GV} {x1 : Int32} {x2 : Int32} {x3 : Int32} {x4 : Int32} (hM : MC G p s m args c cX13_watches w_X13_watches RX13) (hml : c.maxLocals = 6) (hr : meth.sig.returnType = none) (hlk : meth.locks = false) (hrec : ∀ (S : ST) (v : GV) (x1 : Int32) (x2 : Int32) (x3 : Int32) (z : GV), gC v = 12 → rec v x1 x2 x3 = some z → Ct l yX13_watches w_X13_watches (RM_X13_watches d) G (st S a v) [.ref a, .int x1, .int x2, .int x3] none (st S a z) 0 0) (hc0 : gC v0 = 12)  (hf : f_X13_watches_117 fu rec  v x1 x2 x3 x4 = some z) : gC v = 12 → ∀ (H : Heap) (locs : List Loc), WB G (st S a v) s H locs → ∀ (ls : Array Slot), lv_has ls 6 [(0, .ref a), (1, .int x1), (2, .int x2), (3, .int x3), (4, .int x4)] → W p l e (RM_X13_watches (d + 1)) s m args below meth c H locs 0 0 (QR G below args s none (st S a v0) (st S a z)) (F0 m 117 ls []) := by
  intro hc H locs hW ls hl
  have hx := hM.1
  have hb := hM.2.1
  refine lv_iconst (v := (0 : Int32)) hx hb dX13_watches_117 (by decide) ?_
  refine lv_istore (lv' := [(5, .int (0 : Int32)), (0, .ref a), (1, .int x1), (2, .int x2), (3, .int x3), (4, .int x4)]) hx hb dX13_watches_118 hl (by decide) rfl (fun ls hl => ?_)
  exact t_X13_watches_120 (fu := fu) hM hml hr hlk hrec hc0 _ _ hf hc _ _ hW _ (lv_sub hl [1, 2, 3, 4, 5, 0] rfl)
noncomputable def f_X13_watches_114 (fu : Nat) (rec : GV → Int32 → Int32 → Int32 → Option (GV))  (v : GV) (x1 : Int32) (x2 : Int32) (x3 : Int32) (x4 : Int32) (t1 : Int32) (t2 : Int32) (t3 : Int32) : Option (GV) :=
  bd (rec v t1 t2 t3) fun v2 =>
  f_X13_watches_117 fu rec v2 x1 x2 x3 x4
set_option maxHeartbeats 4000000 in
set_option maxRecDepth 100000 in
theorem t_X13_watches_114 {G : GG} {p : Program} {l : Launch} {e : Env} {s : State} {m : MethodId} {args : Array Value} {below : List Frame} {meth : Method} {c : Code} {S : ST} {fu : Nat} {z : GV} {a : Nat} {v0 : GV} {d : Nat} {rec : GV → Int32 → Int32 → Int32 → Option (GV)}  {v : GV} {x1 : Int32} {x2 : Int32} {x3 : Int32} {x4 : Int32} {t1 : Int32} {t2 : Int32} {t3 : Int32} (hM : MC G p s m args c cX13_watches w_X13_watches RX13) (hml : c.maxLocals = 6) (hr : meth.sig.returnType = none) (hlk : meth.locks = false) (hrec : ∀ (S : ST) (v : GV) (x1 : Int32) (x2 : Int32) (x3 : Int32) (z : GV), gC v = 12 → rec v x1 x2 x3 = some z → Ct l yX13_watches w_X13_watches (RM_X13_watches d) G (st S a v) [.ref a, .int x1, .int x2, .int x3] none (st S a z) 0 0) (hc0 : gC v0 = 12)  (hf : f_X13_watches_114 fu rec  v x1 x2 x3 x4 t1 t2 t3 = some z) : gC v = 12 → ∀ (H : Heap) (locs : List Loc), WB G (st S a v) s H locs → ∀ (ls : Array Slot), lv_has ls 6 [(0, .ref a), (1, .int x1), (2, .int x2), (3, .int x3), (4, .int x4)] → W p l e (RM_X13_watches (d + 1)) s m args below meth c H locs 0 0 (QR G below args s none (st S a v0) (st S a z)) (F0 m 114 ls [.int t3, .int t2, .int t1, .ref a]) := by
  intro hc H locs hW ls hl
  have hx := hM.1
  have hb := hM.2.1
  obtain ⟨v2, hr1, hf⟩ := bd_elim hf
  refine b_callVv [.int t1, .int t2, .int t3] [] hM hml hl.1 hW hc rfl (by decide) (hrec _ v _ _ _ _ hc hr1) (cwV 3 hM.2.2.2.1 (gV mk_RX13_456 im_X13_watches se_X13_watches it_RX13 cd_X13_watches) rfl rfl rfl (by decide +kernel) ⟨by show (1 * d + 1) + 1 ≤ 1 * (d + 1) + 1; omega, by show 8 + (6 + 11) + (25 * d + 22) ≤ 25 * (d + 1) + 22; omega⟩) rfl rfl (Nat.le_of_ble_eq_true rfl) ⟨Nat.zero_le _, Nat.zero_le _⟩ dX13_watches_114 (fun H locs hW hk => ?_)
  have hc := keep_at hc hk
  exact t_X13_watches_117 (fu := fu) hM hml hr hlk hrec hc0 hf hc _ _ hW _ (lv_sub hl [0, 1, 2, 3, 4] rfl)
noncomputable def f_X13_watches_95 (fu : Nat) (rec : GV → Int32 → Int32 → Int32 → Option (GV))  (v : GV) (x1 : Int32) (x2 : Int32) (x3 : Int32) (x4 : Int32) : Option (GV) :=
  if (x4 &&& x2) = 0 then
    (f_X13_watches_114 fu rec v x1 x2 x3 x4 (x1 + (1 : Int32)) x2 (x3 - (1 : Int32)))
  else
    (f_X13_watches_114 fu rec v x1 x2 x3 x4 (x1 + (1 : Int32)) x2 x3)
set_option maxHeartbeats 4000000 in
set_option maxRecDepth 100000 in
theorem t_X13_watches_95 {G : GG} {p : Program} {l : Launch} {e : Env} {s : State} {m : MethodId} {args : Array Value} {below : List Frame} {meth : Method} {c : Code} {S : ST} {fu : Nat} {z : GV} {a : Nat} {v0 : GV} {d : Nat} {rec : GV → Int32 → Int32 → Int32 → Option (GV)}  {v : GV} {x1 : Int32} {x2 : Int32} {x3 : Int32} {x4 : Int32} (hM : MC G p s m args c cX13_watches w_X13_watches RX13) (hml : c.maxLocals = 6) (hr : meth.sig.returnType = none) (hlk : meth.locks = false) (hrec : ∀ (S : ST) (v : GV) (x1 : Int32) (x2 : Int32) (x3 : Int32) (z : GV), gC v = 12 → rec v x1 x2 x3 = some z → Ct l yX13_watches w_X13_watches (RM_X13_watches d) G (st S a v) [.ref a, .int x1, .int x2, .int x3] none (st S a z) 0 0) (hc0 : gC v0 = 12)  (hf : f_X13_watches_95 fu rec  v x1 x2 x3 x4 = some z) : gC v = 12 → ∀ (H : Heap) (locs : List Loc), WB G (st S a v) s H locs → ∀ (ls : Array Slot), lv_has ls 6 [(0, .ref a), (1, .int x1), (2, .int x2), (3, .int x3), (4, .int x4)] → W p l e (RM_X13_watches (d + 1)) s m args below meth c H locs 0 0 (QR G below args s none (st S a v0) (st S a z)) (F0 m 95 ls []) := by
  intro hc H locs hW ls hl
  have hx := hM.1
  have hb := hM.2.1
  refine lv_aload_n hx hb dX13_watches_95 rfl (lv_at hl 0 rfl) ?_
  refine lv_iload_n hx hb dX13_watches_96 rfl (lv_at hl 1 rfl) ?_
  refine lv_iconst (v := (1 : Int32)) hx hb dX13_watches_97 (by decide) ?_
  refine lv_iadd hx hb dX13_watches_98 ?_
  refine lv_iload_n hx hb dX13_watches_99 rfl (lv_at hl 2 rfl) ?_
  refine lv_iload hx hb dX13_watches_100 (lv_at hl 4 rfl) ?_
  refine lv_iload_n hx hb dX13_watches_102 rfl (lv_at hl 2 rfl) ?_
  refine lv_iand hx hb dX13_watches_103 ?_
  refine lv_if_eq (tgt := 111) hx hb dX13_watches_104 (by decide) (fun c1 => ?_) (fun c1 => ?_)
  · have hf := if_t c1 hf
    refine lv_iload_n hx hb dX13_watches_111 rfl (lv_at hl 3 rfl) ?_
    refine lv_iconst (v := (1 : Int32)) hx hb dX13_watches_112 (by decide) ?_
    refine lv_isub hx hb dX13_watches_113 ?_
    exact t_X13_watches_114 (fu := fu) hM hml hr hlk hrec hc0 hf hc _ _ hW _ (lv_sub hl [0, 1, 2, 3, 4] rfl)
  · have hf := if_f c1 hf
    refine lv_iload_n hx hb dX13_watches_107 rfl (lv_at hl 3 rfl) ?_
    refine lv_goto (tgt := 114) hx hb dX13_watches_108 (by decide) ?_
    exact t_X13_watches_114 (fu := fu) hM hml hr hlk hrec hc0 hf hc _ _ hW _ (lv_sub hl [0, 1, 2, 3, 4] rfl)
noncomputable def f_X13_watches_72 (fu : Nat) (rec : GV → Int32 → Int32 → Int32 → Option (GV))  (v : GV) (t1 : Int32) : Option (GV) :=
  nm (sI v 37 t1) fun v1 =>
  some v1
set_option maxHeartbeats 4000000 in
set_option maxRecDepth 100000 in
theorem t_X13_watches_72 {G : GG} {p : Program} {l : Launch} {e : Env} {s : State} {m : MethodId} {args : Array Value} {below : List Frame} {meth : Method} {c : Code} {S : ST} {fu : Nat} {z : GV} {a : Nat} {v0 : GV} {d : Nat} {rec : GV → Int32 → Int32 → Int32 → Option (GV)}  {v : GV} {t1 : Int32} (hM : MC G p s m args c cX13_watches w_X13_watches RX13) (hml : c.maxLocals = 6) (hr : meth.sig.returnType = none) (hlk : meth.locks = false) (hrec : ∀ (S : ST) (v : GV) (x1 : Int32) (x2 : Int32) (x3 : Int32) (z : GV), gC v = 12 → rec v x1 x2 x3 = some z → Ct l yX13_watches w_X13_watches (RM_X13_watches d) G (st S a v) [.ref a, .int x1, .int x2, .int x3] none (st S a z) 0 0) (hc0 : gC v0 = 12)  (hf : f_X13_watches_72 fu rec  v t1 = some z) : gC v = 12 → ∀ (H : Heap) (locs : List Loc), WB G (st S a v) s H locs → ∀ (ls : Array Slot), lv_has ls 6 [] → W p l e (RM_X13_watches (d + 1)) s m args below meth c H locs 0 0 (QR G below args s none (st S a v0) (st S a z)) (F0 m 72 ls [.int t1, .ref a]) := by
  intro hc H locs hW ls hl
  have hx := hM.1
  have hb := hM.2.1
  refine b_putI hM hW 11 37 hc rfl rfl (by decide) wi_X13 tyX13 tyX13_ok nmX13 (wgm fk_RX13_453) rfl rfl rfl dX13_watches_72 (fun v1 ev1 hc H locs hW => ?_)
  have hf := nm_at ev1 hf
  cases hf
  exact W.vret hx hb hr (b_ret0 hW (keep_s2 hc0 hc) _) hW.2.2.2 dX13_watches_75 hlk
noncomputable def f_X13_watches_56 (fu : Nat) (rec : GV → Int32 → Int32 → Int32 → Option (GV))  (v : GV) (x2 : Int32) (t0 : Int32) : Option (GV) :=
  if t0 = 0 then
    (f_X13_watches_72 fu rec v (gI v 37))
  else
    (f_X13_watches_72 fu rec v x2)
set_option maxHeartbeats 4000000 in
set_option maxRecDepth 100000 in
theorem t_X13_watches_56 {G : GG} {p : Program} {l : Launch} {e : Env} {s : State} {m : MethodId} {args : Array Value} {below : List Frame} {meth : Method} {c : Code} {S : ST} {fu : Nat} {z : GV} {a : Nat} {v0 : GV} {d : Nat} {rec : GV → Int32 → Int32 → Int32 → Option (GV)}  {v : GV} {x2 : Int32} {t0 : Int32} (hM : MC G p s m args c cX13_watches w_X13_watches RX13) (hml : c.maxLocals = 6) (hr : meth.sig.returnType = none) (hlk : meth.locks = false) (hrec : ∀ (S : ST) (v : GV) (x1 : Int32) (x2 : Int32) (x3 : Int32) (z : GV), gC v = 12 → rec v x1 x2 x3 = some z → Ct l yX13_watches w_X13_watches (RM_X13_watches d) G (st S a v) [.ref a, .int x1, .int x2, .int x3] none (st S a z) 0 0) (hc0 : gC v0 = 12)  (hf : f_X13_watches_56 fu rec  v x2 t0 = some z) : gC v = 12 → ∀ (H : Heap) (locs : List Loc), WB G (st S a v) s H locs → ∀ (ls : Array Slot), lv_has ls 6 [(0, .ref a), (2, .int x2)] → W p l e (RM_X13_watches (d + 1)) s m args below meth c H locs 0 0 (QR G below args s none (st S a v0) (st S a z)) (F0 m 56 ls [.int t0]) := by
  intro hc H locs hW ls hl
  have hx := hM.1
  have hb := hM.2.1
  refine lv_istore (lv' := [(4, .int t0), (0, .ref a), (2, .int x2)]) hx hb dX13_watches_56 hl (by decide) rfl (fun ls hl => ?_)
  refine lv_aload_n hx hb dX13_watches_58 rfl (lv_at hl 1 rfl) ?_
  refine lv_iload hx hb dX13_watches_59 (lv_at hl 0 rfl) ?_
  refine lv_if_eq (tgt := 68) hx hb dX13_watches_61 (by decide) (fun c1 => ?_) (fun c1 => ?_)
  · have hf := if_t c1 hf
    refine lv_aload_n hx hb dX13_watches_68 rfl (lv_at hl 1 rfl) ?_
    refine b_get hM hW 11 37 hc rfl rfl (by decide) wi_X13 (wgm fk_RX13_453) (x := .int (gI v 37)) rfl dX13_watches_69 ?_
    exact t_X13_watches_72 (fu := fu) hM hml hr hlk hrec hc0 hf hc _ _ hW _ (lv_sub hl [] rfl)
  · have hf := if_f c1 hf
    refine lv_iload_n hx hb dX13_watches_64 rfl (lv_at hl 2 rfl) ?_
    refine lv_goto (tgt := 72) hx hb dX13_watches_65 (by decide) ?_
    exact t_X13_watches_72 (fu := fu) hM hml hr hlk hrec hc0 hf hc _ _ hW _ (lv_sub hl [] rfl)
noncomputable def f_X13_watches_55 (fu : Nat) (rec : GV → Int32 → Int32 → Int32 → Option (GV))  (v : GV) (x2 : Int32) : Option (GV) :=
  f_X13_watches_56 fu rec v x2 (0 : Int32)
set_option maxHeartbeats 4000000 in
set_option maxRecDepth 100000 in
theorem t_X13_watches_55 {G : GG} {p : Program} {l : Launch} {e : Env} {s : State} {m : MethodId} {args : Array Value} {below : List Frame} {meth : Method} {c : Code} {S : ST} {fu : Nat} {z : GV} {a : Nat} {v0 : GV} {d : Nat} {rec : GV → Int32 → Int32 → Int32 → Option (GV)}  {v : GV} {x2 : Int32} (hM : MC G p s m args c cX13_watches w_X13_watches RX13) (hml : c.maxLocals = 6) (hr : meth.sig.returnType = none) (hlk : meth.locks = false) (hrec : ∀ (S : ST) (v : GV) (x1 : Int32) (x2 : Int32) (x3 : Int32) (z : GV), gC v = 12 → rec v x1 x2 x3 = some z → Ct l yX13_watches w_X13_watches (RM_X13_watches d) G (st S a v) [.ref a, .int x1, .int x2, .int x3] none (st S a z) 0 0) (hc0 : gC v0 = 12)  (hf : f_X13_watches_55 fu rec  v x2 = some z) : gC v = 12 → ∀ (H : Heap) (locs : List Loc), WB G (st S a v) s H locs → ∀ (ls : Array Slot), lv_has ls 6 [(0, .ref a), (2, .int x2)] → W p l e (RM_X13_watches (d + 1)) s m args below meth c H locs 0 0 (QR G below args s none (st S a v0) (st S a z)) (F0 m 55 ls []) := by
  intro hc H locs hW ls hl
  have hx := hM.1
  have hb := hM.2.1
  refine lv_iconst (v := (0 : Int32)) hx hb dX13_watches_55 (by decide) ?_
  exact t_X13_watches_56 (fu := fu) hM hml hr hlk hrec hc0 hf hc _ _ hW _ (lv_sub hl [0, 1] rfl)
noncomputable def f_X13_watches_51 (fu : Nat) (rec : GV → Int32 → Int32 → Int32 → Option (GV))  (v : GV) (x2 : Int32) : Option (GV) :=
  f_X13_watches_56 fu rec v x2 (1 : Int32)
set_option maxHeartbeats 4000000 in
set_option maxRecDepth 100000 in
theorem t_X13_watches_51 {G : GG} {p : Program} {l : Launch} {e : Env} {s : State} {m : MethodId} {args : Array Value} {below : List Frame} {meth : Method} {c : Code} {S : ST} {fu : Nat} {z : GV} {a : Nat} {v0 : GV} {d : Nat} {rec : GV → Int32 → Int32 → Int32 → Option (GV)}  {v : GV} {x2 : Int32} (hM : MC G p s m args c cX13_watches w_X13_watches RX13) (hml : c.maxLocals = 6) (hr : meth.sig.returnType = none) (hlk : meth.locks = false) (hrec : ∀ (S : ST) (v : GV) (x1 : Int32) (x2 : Int32) (x3 : Int32) (z : GV), gC v = 12 → rec v x1 x2 x3 = some z → Ct l yX13_watches w_X13_watches (RM_X13_watches d) G (st S a v) [.ref a, .int x1, .int x2, .int x3] none (st S a z) 0 0) (hc0 : gC v0 = 12)  (hf : f_X13_watches_51 fu rec  v x2 = some z) : gC v = 12 → ∀ (H : Heap) (locs : List Loc), WB G (st S a v) s H locs → ∀ (ls : Array Slot), lv_has ls 6 [(0, .ref a), (2, .int x2)] → W p l e (RM_X13_watches (d + 1)) s m args below meth c H locs 0 0 (QR G below args s none (st S a v0) (st S a z)) (F0 m 51 ls []) := by
  intro hc H locs hW ls hl
  have hx := hM.1
  have hb := hM.2.1
  refine lv_iconst (v := (1 : Int32)) hx hb dX13_watches_51 (by decide) ?_
  refine lv_goto (tgt := 56) hx hb dX13_watches_52 (by decide) ?_
  exact t_X13_watches_56 (fu := fu) hM hml hr hlk hrec hc0 hf hc _ _ hW _ (lv_sub hl [0, 1] rfl)
noncomputable def f_X13_watches_0 (fu : Nat) (rec : GV → Int32 → Int32 → Int32 → Option (GV))  (v : GV) (x1 : Int32) (x2 : Int32) (x3 : Int32) : Option (GV) :=
  bd (f_X13_thieves fu v) fun r1 =>
  if x1 = r1 then
    (if (gI v 37) < 0 then
      (f_X13_watches_51 fu rec v x2)
    else
      (bd (f_X13_bits fu x2) fun r7 =>
      bd (f_X13_bits fu (gI v 37)) fun r8 =>
      if r7 < r8 then
        (f_X13_watches_51 fu rec v x2)
      else
        (bd (f_X13_bits fu x2) fun r10 =>
        bd (f_X13_bits fu (gI v 37)) fun r11 =>
        if r10 = r11 then
          (if (gI v 37) ≤ x2 then
            (f_X13_watches_55 fu rec v x2)
          else
            (f_X13_watches_51 fu rec v x2))
        else
          (f_X13_watches_55 fu rec v x2))))
  else
    (bd (f_X13_thiefOf fu v x1 (3 : Int32)) fun r3 =>
    if 0 < x3 then
      (f_X13_watches_95 fu rec v x1 x2 x3 r3)
    else
      (if (r3 &&& x2) = 0 then
        (f_X13_watches_117 fu rec v x1 x2 x3 r3)
      else
        (f_X13_watches_95 fu rec v x1 x2 x3 r3)))
set_option maxHeartbeats 4000000 in
set_option maxRecDepth 100000 in
theorem t_X13_watches_0 {G : GG} {p : Program} {l : Launch} {e : Env} {s : State} {m : MethodId} {args : Array Value} {below : List Frame} {meth : Method} {c : Code} {S : ST} {fu : Nat} {z : GV} {a : Nat} {v0 : GV} {d : Nat} {rec : GV → Int32 → Int32 → Int32 → Option (GV)}  {v : GV} {x1 : Int32} {x2 : Int32} {x3 : Int32} (hM : MC G p s m args c cX13_watches w_X13_watches RX13) (hml : c.maxLocals = 6) (hr : meth.sig.returnType = none) (hlk : meth.locks = false) (hrec : ∀ (S : ST) (v : GV) (x1 : Int32) (x2 : Int32) (x3 : Int32) (z : GV), gC v = 12 → rec v x1 x2 x3 = some z → Ct l yX13_watches w_X13_watches (RM_X13_watches d) G (st S a v) [.ref a, .int x1, .int x2, .int x3] none (st S a z) 0 0) (hc0 : gC v0 = 12)  (hf : f_X13_watches_0 fu rec  v x1 x2 x3 = some z) : gC v = 12 → ∀ (H : Heap) (locs : List Loc), WB G (st S a v) s H locs → ∀ (ls : Array Slot), lv_has ls 6 [(0, .ref a), (1, .int x1), (2, .int x2), (3, .int x3)] → W p l e (RM_X13_watches (d + 1)) s m args below meth c H locs 0 0 (QR G below args s none (st S a v0) (st S a z)) (F0 m 0 ls []) := by
  intro hc H locs hW ls hl
  have hx := hM.1
  have hb := hM.2.1
  refine lv_iload_n hx hb dX13_watches_0 rfl (lv_at hl 1 rfl) ?_
  refine lv_aload_n hx hb dX13_watches_1 rfl (lv_at hl 0 rfl) ?_
  obtain ⟨r1, hr1, hf⟩ := bd_elim hf
  refine b_callVi [] [.int x1] hM hml hl.1 hW hc rfl (by decide) (c_X13_thieves l G fu _ a v hc hr1) (cwV 0 hM.2.2.2.1 (gV mk_RX13_320 im_X13_thieves se_X13_thieves it_RX13 cd_X13_thieves) rfl rfl rfl (by decide +kernel) ⟨by show 0 + 1 ≤ 1 * (d + 1) + 1; omega, by show 8 + (1 + 11) + 0 ≤ 25 * (d + 1) + 22; omega⟩) rfl rfl (Nat.le_of_ble_eq_true rfl) ⟨Nat.zero_le _, Nat.zero_le _⟩ dX13_watches_2 (fun H locs hW hk => ?_)
  refine lv_icmp_ne (tgt := 76) hx hb dX13_watches_5 (by decide) (fun c2 => ?_) (fun c2 => ?_)
  · have hf := if_f c2 hf
    refine lv_aload_n hx hb dX13_watches_76 rfl (lv_at hl 0 rfl) ?_
    refine lv_iload_n hx hb dX13_watches_77 rfl (lv_at hl 1 rfl) ?_
    refine lv_iconst (v := (3 : Int32)) hx hb dX13_watches_78 (by decide) ?_
    obtain ⟨r3, hr3, hf⟩ := bd_elim hf
    refine b_callVi [.int x1, .int (3 : Int32)] [] hM hml hl.1 hW hc rfl (by decide) (c_X13_thiefOf l G fu _ a v _ _ hc hr3) (cwV 2 hM.2.2.2.1 (gV mk_RX13_323 im_X13_thiefOf se_X13_thiefOf it_RX13 cd_X13_thiefOf) rfl rfl rfl (by decide +kernel) ⟨by show 0 + 1 ≤ 1 * (d + 1) + 1; omega, by show 8 + (3 + 11) + 0 ≤ 25 * (d + 1) + 22; omega⟩) rfl rfl (Nat.le_of_ble_eq_true rfl) ⟨Nat.zero_le _, Nat.zero_le _⟩ dX13_watches_79 (fun H locs hW hk => ?_)
    refine lv_istore (lv' := [(4, .int r3), (0, .ref a), (1, .int x1), (2, .int x2), (3, .int x3)]) hx hb dX13_watches_82 hl (by decide) rfl (fun ls hl => ?_)
    refine lv_iload_n hx hb dX13_watches_84 rfl (lv_at hl 4 rfl) ?_
    refine lv_if_gt (tgt := 95) hx hb dX13_watches_85 (by decide) (fun c4 => ?_) (fun c4 => ?_)
    · have hf := if_t c4 hf
      exact t_X13_watches_95 (fu := fu) hM hml hr hlk hrec hc0 hf hc _ _ hW _ (lv_sub hl [1, 2, 3, 4, 0] rfl)
    · have hf := if_f c4 hf
      refine lv_iload hx hb dX13_watches_88 (lv_at hl 0 rfl) ?_
      refine lv_iload_n hx hb dX13_watches_90 rfl (lv_at hl 3 rfl) ?_
      refine lv_iand hx hb dX13_watches_91 ?_
      refine lv_if_eq (tgt := 117) hx hb dX13_watches_92 (by decide) (fun c5 => ?_) (fun c5 => ?_)
      · have hf := if_t c5 hf
        exact t_X13_watches_117 (fu := fu) hM hml hr hlk hrec hc0 hf hc _ _ hW _ (lv_sub hl [1, 2, 3, 4, 0] rfl)
      · have hf := if_f c5 hf
        exact t_X13_watches_95 (fu := fu) hM hml hr hlk hrec hc0 hf hc _ _ hW _ (lv_sub hl [1, 2, 3, 4, 0] rfl)
  · have hf := if_t c2 hf
    refine lv_aload_n hx hb dX13_watches_8 rfl (lv_at hl 0 rfl) ?_
    refine b_get hM hW 11 37 hc rfl rfl (by decide) wi_X13 (wgm fk_RX13_453) (x := .int (gI v 37)) rfl dX13_watches_9 ?_
    refine lv_if_lt (tgt := 51) hx hb dX13_watches_12 (by decide) (fun c6 => ?_) (fun c6 => ?_)
    · have hf := if_t c6 hf
      exact t_X13_watches_51 (fu := fu) hM hml hr hlk hrec hc0 hf hc _ _ hW _ (lv_sub hl [0, 2] rfl)
    · have hf := if_f c6 hf
      refine lv_iload_n hx hb dX13_watches_15 rfl (lv_at hl 2 rfl) ?_
      obtain ⟨r7, hr7, hf⟩ := bd_elim hf
      refine b_callSi [.int x2] [] hM hml hl.1 hW (c_X13_bits l G fu _ _ hr7) (va_cwS 1 hM.2.2.2.1 (gS mk_RX13_339 sm_X13_bits it_RX13 cd_X13_bits) rfl rfl rfl (by decide +kernel) ⟨by show 0 + 1 ≤ 1 * (d + 1) + 1; omega, by show 8 + (3 + 11) + 0 ≤ 25 * (d + 1) + 22; omega⟩) rfl rfl (Nat.le_of_ble_eq_true rfl) ⟨Nat.zero_le _, Nat.zero_le _⟩ dX13_watches_16 (fun H locs hW hk => ?_)
      refine lv_aload_n hx hb dX13_watches_19 rfl (lv_at hl 0 rfl) ?_
      refine b_get hM hW 11 37 hc rfl rfl (by decide) wi_X13 (wgm fk_RX13_453) (x := .int (gI v 37)) rfl dX13_watches_20 ?_
      obtain ⟨r8, hr8, hf⟩ := bd_elim hf
      refine b_callSi [.int (gI v 37)] [.int r7] hM hml hl.1 hW (c_X13_bits l G fu _ _ hr8) (va_cwS 1 hM.2.2.2.1 (gS mk_RX13_339 sm_X13_bits it_RX13 cd_X13_bits) rfl rfl rfl (by decide +kernel) ⟨by show 0 + 1 ≤ 1 * (d + 1) + 1; omega, by show 8 + (3 + 11) + 0 ≤ 25 * (d + 1) + 22; omega⟩) rfl rfl (Nat.le_of_ble_eq_true rfl) ⟨Nat.zero_le _, Nat.zero_le _⟩ dX13_watches_23 (fun H locs hW hk => ?_)
      refine lv_icmp_lt (tgt := 51) hx hb dX13_watches_26 (by decide) (fun c9 => ?_) (fun c9 => ?_)
      · have hf := if_t c9 hf
        exact t_X13_watches_51 (fu := fu) hM hml hr hlk hrec hc0 hf hc _ _ hW _ (lv_sub hl [0, 2] rfl)
      · have hf := if_f c9 hf
        refine lv_iload_n hx hb dX13_watches_29 rfl (lv_at hl 2 rfl) ?_
        obtain ⟨r10, hr10, hf⟩ := bd_elim hf
        refine b_callSi [.int x2] [] hM hml hl.1 hW (c_X13_bits l G fu _ _ hr10) (va_cwS 1 hM.2.2.2.1 (gS mk_RX13_339 sm_X13_bits it_RX13 cd_X13_bits) rfl rfl rfl (by decide +kernel) ⟨by show 0 + 1 ≤ 1 * (d + 1) + 1; omega, by show 8 + (3 + 11) + 0 ≤ 25 * (d + 1) + 22; omega⟩) rfl rfl (Nat.le_of_ble_eq_true rfl) ⟨Nat.zero_le _, Nat.zero_le _⟩ dX13_watches_30 (fun H locs hW hk => ?_)
        refine lv_aload_n hx hb dX13_watches_33 rfl (lv_at hl 0 rfl) ?_
        refine b_get hM hW 11 37 hc rfl rfl (by decide) wi_X13 (wgm fk_RX13_453) (x := .int (gI v 37)) rfl dX13_watches_34 ?_
        obtain ⟨r11, hr11, hf⟩ := bd_elim hf
        refine b_callSi [.int (gI v 37)] [.int r10] hM hml hl.1 hW (c_X13_bits l G fu _ _ hr11) (va_cwS 1 hM.2.2.2.1 (gS mk_RX13_339 sm_X13_bits it_RX13 cd_X13_bits) rfl rfl rfl (by decide +kernel) ⟨by show 0 + 1 ≤ 1 * (d + 1) + 1; omega, by show 8 + (3 + 11) + 0 ≤ 25 * (d + 1) + 22; omega⟩) rfl rfl (Nat.le_of_ble_eq_true rfl) ⟨Nat.zero_le _, Nat.zero_le _⟩ dX13_watches_37 (fun H locs hW hk => ?_)
        refine lv_icmp_ne (tgt := 55) hx hb dX13_watches_40 (by decide) (fun c12 => ?_) (fun c12 => ?_)
        · have hf := if_f c12 hf
          exact t_X13_watches_55 (fu := fu) hM hml hr hlk hrec hc0 hf hc _ _ hW _ (lv_sub hl [0, 2] rfl)
        · have hf := if_t c12 hf
          refine lv_iload_n hx hb dX13_watches_43 rfl (lv_at hl 2 rfl) ?_
          refine lv_aload_n hx hb dX13_watches_44 rfl (lv_at hl 0 rfl) ?_
          refine b_get hM hW 11 37 hc rfl rfl (by decide) wi_X13 (wgm fk_RX13_453) (x := .int (gI v 37)) rfl dX13_watches_45 ?_
          refine lv_icmp_ge (tgt := 55) hx hb dX13_watches_48 (by decide) (fun c13 => ?_) (fun c13 => ?_)
          · have hf := if_t c13 hf
            exact t_X13_watches_55 (fu := fu) hM hml hr hlk hrec hc0 hf hc _ _ hW _ (lv_sub hl [0, 2] rfl)
          · have hf := if_f c13 hf
            exact t_X13_watches_51 (fu := fu) hM hml hr hlk hrec hc0 hf hc _ _ hW _ (lv_sub hl [0, 2] rfl)
noncomputable def f_X13_watches (fu : Nat) (rec : GV → Int32 → Int32 → Int32 → Option (GV)) (v : GV) (x1 : Int32) (x2 : Int32) (x3 : Int32) : Option (GV) := f_X13_watches_0 fu rec v x1 x2 x3
set_option maxHeartbeats 4000000 in
set_option maxRecDepth 100000 in
theorem c_X13_watches (l : Launch) (G : GG) (fu : Nat) {a d : Nat} {rec : GV → Int32 → Int32 → Int32 → Option (GV)} (hrec : ∀ (S : ST) (v : GV) (x1 : Int32) (x2 : Int32) (x3 : Int32) (z : GV), gC v = 12 → rec v x1 x2 x3 = some z → Ct l yX13_watches w_X13_watches (RM_X13_watches d) G (st S a v) [.ref a, .int x1, .int x2, .int x3] none (st S a z) 0 0) (S : ST) (v : GV) (x1 : Int32) (x2 : Int32) (x3 : Int32) {z : GV} (hc : gC v = 12) (hf : f_X13_watches fu rec v x1 x2 x3 = some z) : Ct l yX13_watches w_X13_watches (RM_X13_watches (d + 1)) G (st S a v) [.ref a, .int x1, .int x2, .int x3] none (st S a z) 0 0 := by
  refine Met.ofW (cc := cX13_watches) (maxL := 6) (ret := none) (by decide) rfl ?_
  intro p e s m args below meth c s₁ B hml hv
  obtain ⟨rfl, hB, hK, hz⟩ := hv
  have hM : MC G p s m _ c cX13_watches w_X13_watches RX13 := ⟨B.exec, B.bytes, findClass_of_methodNamed B.named, atoms_spec (ws := w_X13_watches) B.pre, hK, hz⟩
  have hW : WB G (st S a v) s s.heap [] := ⟨hB, va_S.rf⟩
  have hl := lv_entry ([.ref a, .int x1, .int x2, .int x3]) (n := 6) (Nat.le_of_ble_eq_true rfl)
  rw [lg_entry_eq]
  generalize (lg_sl ([.ref a, .int x1, .int x2, .int x3]) ++ List.replicate (6 - (lg_sl ([.ref a, .int x1, .int x2, .int x3])).length) Slot.unset).toArray = ls at hl ⊢
  have hl : lv_has ls 6 [(0, .ref a), (1, .int x1), (2, .int x2), (3, .int x3)] := hl
  exact t_X13_watches_0 hM hml B.returns B.notSynchronized hrec hc hf hc _ _ hW _ (lv_sub hl [0, 1, 2, 3] rfl)
noncomputable def f_X13_watchesD (fu d : Nat) : GV → Int32 → Int32 → Int32 → Option (GV) := Nat.rec (fun _ _ _ _ => none) (fun _ ih => f_X13_watches fu ih) d
theorem c_X13_watchesD (l : Launch) (G : GG) (fu d : Nat) : ∀ (S : ST) (a : Nat) (v : GV) (x1 : Int32) (x2 : Int32) (x3 : Int32) (z : GV), gC v = 12 → f_X13_watchesD fu d v x1 x2 x3 = some z → Ct l yX13_watches w_X13_watches (RM_X13_watches d) G (st S a v) [.ref a, .int x1, .int x2, .int x3] none (st S a z) 0 0 := by
  induction d with
  | zero => intro S a v _ _ _ _ hc hf; cases hf
  | succ d ih => intro S a v _ _ _ _ hc hf; exact c_X13_watches l G fu (fun S => ih S a) S v _ _ _ hc hf
abbrev w_X13_watch : List Cond := Cond.code yX13_watch cX13_watch 2 (some .int) :: wsL_law0
abbrev RM_X13_watch : Room := { frames := 10, cells := 0, slots := 0, locals := 247 }
noncomputable def f_X13_watch_0 (fu : Nat)  (v : GV) (x1 : Int32) : Option (Int32 × GV) :=
  nm (sI v 0 (0 : Int32)) fun v1 =>
  bd (f_X13_within fu x1 (0 : Int32) (5 : Int32)) fun r2 =>
  if r2 = 0 then
    (some ((-1 : Int32), v1))
  else
    (nm (sI v1 37 (-1 : Int32)) fun v4 =>
    bd (f_X13_watchesD fu 8 v4 (0 : Int32) (0 : Int32) x1) fun v6 =>
    some ((gI v6 37), v6))
set_option maxHeartbeats 4000000 in
set_option maxRecDepth 100000 in
theorem t_X13_watch_0 {G : GG} {p : Program} {l : Launch} {e : Env} {s : State} {m : MethodId} {args : Array Value} {below : List Frame} {meth : Method} {c : Code} {S : ST} {fu : Nat} {z : Int32 × GV} {a : Nat} {v0 : GV}  {v : GV} {x1 : Int32} (hM : MC G p s m args c cX13_watch w_X13_watch RX13) (hml : c.maxLocals = 2) (hr : meth.sig.returnType = (some .int)) (hlk : meth.locks = false) (hc0 : gC v0 = 12)  (hf : f_X13_watch_0 fu  v x1 = some z) : gC v = 12 → ∀ (H : Heap) (locs : List Loc), WB G (st S a v) s H locs → ∀ (ls : Array Slot), lv_has ls 2 [(0, .ref a), (1, .int x1)] → W p l e RM_X13_watch s m args below meth c H locs 0 0 (QR G below args s (some (.int z.1)) (st S a v0) (st S a z.2)) (F0 m 0 ls []) := by
  intro hc H locs hW ls hl
  have hx := hM.1
  have hb := hM.2.1
  refine lv_aload_n hx hb dX13_watch_0 rfl (lv_at hl 0 rfl) ?_
  refine lv_iconst (v := (0 : Int32)) hx hb dX13_watch_1 (by decide) ?_
  refine b_putI hM hW 11 0 hc rfl rfl (by decide) wi_X13 tyX13 tyX13_ok nmX13 (wgm fk_RX13_1) rfl rfl rfl dX13_watch_2 (fun v1 ev1 hc H locs hW => ?_)
  have hf := nm_at ev1 hf
  refine lv_iload_n hx hb dX13_watch_5 rfl (lv_at hl 1 rfl) ?_
  refine lv_iconst (v := (0 : Int32)) hx hb dX13_watch_6 (by decide) ?_
  refine lv_iconst (v := (5 : Int32)) hx hb dX13_watch_7 (by decide) ?_
  obtain ⟨r2, hr2, hf⟩ := bd_elim hf
  refine b_callSi [.int x1, .int (0 : Int32), .int (5 : Int32)] [] hM hml hl.1 hW (c_X13_within l G fu _ _ _ _ hr2) (va_cwS 3 hM.2.2.2.1 (gS mk_RX13_231 sm_X13_within it_RX13 cd_X13_within) rfl rfl rfl (by decide +kernel) ⟨Nat.le_of_ble_eq_true rfl, Nat.le_of_ble_eq_true rfl⟩) rfl rfl (Nat.le_of_ble_eq_true rfl) ⟨Nat.zero_le _, Nat.zero_le _⟩ dX13_watch_8 (fun H locs hW hk => ?_)
  refine lv_if_ne (tgt := 16) hx hb dX13_watch_11 (by decide) (fun c3 => ?_) (fun c3 => ?_)
  · have hf := if_f c3 hf
    refine lv_aload_n hx hb dX13_watch_16 rfl (lv_at hl 0 rfl) ?_
    refine lv_iconst (v := (-1 : Int32)) hx hb dX13_watch_17 (by decide) ?_
    refine b_putI hM hW 11 37 hc rfl rfl (by decide) wi_X13 tyX13 tyX13_ok nmX13 (wgm fk_RX13_453) rfl rfl rfl dX13_watch_18 (fun v4 ev4 hc H locs hW => ?_)
    have hf := nm_at ev4 hf
    refine lv_aload_n hx hb dX13_watch_21 rfl (lv_at hl 0 rfl) ?_
    refine lv_iconst (v := (0 : Int32)) hx hb dX13_watch_22 (by decide) ?_
    refine lv_iconst (v := (0 : Int32)) hx hb dX13_watch_23 (by decide) ?_
    refine lv_iload_n hx hb dX13_watch_24 rfl (lv_at hl 1 rfl) ?_
    obtain ⟨v6, hr5, hf⟩ := bd_elim hf
    refine b_callVv [.int (0 : Int32), .int (0 : Int32), .int x1] [] hM hml hl.1 hW hc rfl (by decide) (c_X13_watchesD l G fu 8 _ a v4 _ _ _ _ hc hr5) (cwV 3 hM.2.2.2.1 (gV mk_RX13_456 im_X13_watches se_X13_watches it_RX13 cd_X13_watches) rfl rfl rfl (by decide +kernel) ⟨Nat.le_of_ble_eq_true rfl, Nat.le_of_ble_eq_true rfl⟩) rfl rfl (Nat.le_of_ble_eq_true rfl) ⟨Nat.zero_le _, Nat.zero_le _⟩ dX13_watch_25 (fun H locs hW hk => ?_)
    have hc := keep_at hc hk
    refine lv_aload_n hx hb dX13_watch_28 rfl (lv_at hl 0 rfl) ?_
    refine b_get hM hW 11 37 hc rfl rfl (by decide) wi_X13 (wgm fk_RX13_453) (x := .int (gI v6 37)) rfl dX13_watch_29 ?_
    cases hf
    exact W.iret hx hb hr (b_ret0 hW (keep_s2 hc0 hc) _) hW.2.2.2 dX13_watch_32 hlk
  · have hf := if_t c3 hf
    refine lv_iconst (v := (-1 : Int32)) hx hb dX13_watch_14 (by decide) ?_
    cases hf
    exact W.iret hx hb hr (b_ret0 hW (keep_s2 hc0 hc) _) hW.2.2.2 dX13_watch_15 hlk
noncomputable def f_X13_watch (fu : Nat) (v : GV) (x1 : Int32) : Option (Int32 × GV) := f_X13_watch_0 fu v x1
set_option maxHeartbeats 4000000 in
set_option maxRecDepth 100000 in
theorem c_X13_watch (l : Launch) (G : GG) (fu : Nat) (S : ST) (a : Nat) (v : GV) (x1 : Int32) {z : Int32} {w : GV} (hc : gC v = 12) (hf : f_X13_watch fu v x1 = some (z, w)) : Ct l yX13_watch w_X13_watch RM_X13_watch G (st S a v) [.ref a, .int x1] (some (.int z)) (st S a w) 0 0 := by
  refine Met.ofW (cc := cX13_watch) (maxL := 2) (ret := (some .int)) (by decide) rfl ?_
  intro p e s m args below meth c s₁ B hml hv
  obtain ⟨rfl, hB, hK, hz⟩ := hv
  have hM : MC G p s m _ c cX13_watch w_X13_watch RX13 := ⟨B.exec, B.bytes, findClass_of_methodNamed B.named, atoms_spec (ws := w_X13_watch) B.pre, hK, hz⟩
  have hW : WB G (st S a v) s s.heap [] := ⟨hB, va_S.rf⟩
  have hl := lv_entry ([.ref a, .int x1]) (n := 2) (Nat.le_of_ble_eq_true rfl)
  rw [lg_entry_eq]
  generalize (lg_sl ([.ref a, .int x1]) ++ List.replicate (2 - (lg_sl ([.ref a, .int x1])).length) Slot.unset).toArray = ls at hl ⊢
  have hl : lv_has ls 2 [(0, .ref a), (1, .int x1)] := hl
  exact t_X13_watch_0 hM hml B.returns B.notSynchronized hc hf hc _ _ hW _ (lv_sub hl [0, 1] rfl)
abbrev w_X13_slips : List Cond := Cond.code yX13_slips cX13_slips 7 (some .int) :: wsL_law0
abbrev RM_X13_slips : Room := { frames := 1, cells := 0, slots := 0, locals := 22 }
noncomputable def f_X13_slips_163s (fu : Nat) (k74 : Int32 → GV → Option (Int32 × GV)) (k163 : Int32 → GV → Option (Int32 × GV)) (x1 : Int32) (x2 : Int32) (x3 : Int32) (x4 : Int32) (x5 : Int32) (v : GV) : Option (Int32 × GV) :=
  if x2 < x5 then
    (nm (x4 + (1 : Int32)) fun y2 =>
    k74 y2 v)
  else
    (ck (inb x5 10) <|
    nm ((gA v 39 x5.toNatClampNeg)) fun y4 =>
    ck (inb x5 10) <|
    nm (sA v 38 x5.toNatClampNeg y4) fun v6 =>
    nm (x5 + (1 : Int32)) fun y7 =>
    k163 y7 v6)
noncomputable def f_X13_slips_163 (fu n : Nat) (k74 : Int32 → GV → Option (Int32 × GV)) (x1 : Int32) (x2 : Int32) (x3 : Int32) (x4 : Int32) : Int32 → GV → Option (Int32 × GV) :=
  lq_2 (fun k163 => f_X13_slips_163s fu k74 k163 x1 x2 x3 x4) n
set_option maxHeartbeats 4000000 in
set_option maxRecDepth 100000 in
theorem t_X13_slips_163s {G : GG} {p : Program} {l : Launch} {e : Env} {s : State} {m : MethodId} {args : Array Value} {below : List Frame} {meth : Method} {c : Code} {S : ST} {fu : Nat} {z : Int32 × GV} {a : Nat} {v0 : GV} {k74 : Int32 → GV → Option (Int32 × GV)} (hM : MC G p s m args c cX13_slips w_X13_slips RX13) (hml : c.maxLocals = 7) (hr : meth.sig.returnType = (some .int)) (hlk : meth.locks = false) (hc0 : gC v0 = 12) {k163 : Int32 → GV → Option (Int32 × GV)} {x1 : Int32} {x2 : Int32} {x3 : Int32} {x4 : Int32} (hk74 : ∀ (x4 : Int32) (v : GV), k74 x4 v = some z → gC v = 12 → ∀ (H : Heap) (locs : List Loc), WB G (st S a v) s H locs → ∀ (ls : Array Slot), lv_has ls 7 [(0, .ref a), (1, .int x1), (2, .int x2), (3, .int x3), (4, .int x4)] → W p l e RM_X13_slips s m args below meth c H locs 0 0 (QR G below args s (some (.int z.1)) (st S a v0) (st S a z.2)) (F0 m 74 ls [])) (hk163 : ∀ (x5 : Int32) (v : GV), k163 x5 v = some z → gC v = 12 → ∀ (H : Heap) (locs : List Loc), WB G (st S a v) s H locs → ∀ (ls : Array Slot), lv_has ls 7 [(0, .ref a), (1, .int x1), (2, .int x2), (3, .int x3), (4, .int x4), (5, .int x5)] → W p l e RM_X13_slips s m args below meth c H locs 0 0 (QR G below args s (some (.int z.1)) (st S a v0) (st S a z.2)) (F0 m 163 ls [])) : ∀ (x5 : Int32) (v : GV), f_X13_slips_163s fu k74 k163 x1 x2 x3 x4 x5 v = some z → gC v = 12 → ∀ (H : Heap) (locs : List Loc), WB G (st S a v) s H locs → ∀ (ls : Array Slot), lv_has ls 7 [(0, .ref a), (1, .int x1), (2, .int x2), (3, .int x3), (4, .int x4), (5, .int x5)] → W p l e RM_X13_slips s m args below meth c H locs 0 0 (QR G below args s (some (.int z.1)) (st S a v0) (st S a z.2)) (F0 m 163 ls []) := by
  intro x5 v hf hc H locs hW ls hl
  have hx := hM.1
  have hb := hM.2.1
  refine lv_iload hx hb dX13_slips_163 (lv_at hl 5 rfl) ?_
  refine lv_iload_n hx hb dX13_slips_165 rfl (lv_at hl 2 rfl) ?_
  refine lv_icmp_gt (tgt := 189) hx hb dX13_slips_166 (by decide) (fun c1 => ?_) (fun c1 => ?_)
  · have hf := if_t c1 hf
    obtain ⟨y2, ey2⟩ : ∃ y : Int32, y = x4 + (1 : Int32) := ⟨_, rfl⟩
    have hf := nm_at ey2 hf
    refine lv_iinc (v := y2) (lv' := [(4, .int y2), (0, .ref a), (1, .int x1), (2, .int x2), (3, .int x3), (5, .int x5)]) hx hb dX13_slips_189 hl (k := 4) rfl (by rw [ey2]; rfl) (by decide) rfl (fun ls hl => ?_)
    refine lv_goto (tgt := 74) hx hb dX13_slips_192 (by decide) ?_
    exact hk74 _ _ hf hc _ _ hW _ (lv_sub hl [1, 2, 3, 4, 0] rfl)
  · have hf := if_f c1 hf
    refine lv_aload_n hx hb dX13_slips_169 rfl (lv_at hl 0 rfl) ?_
    refine b_get hM hW 11 38 hc rfl rfl (by decide) wi_X13 (wgm fk_RX13_153) (x := .ref (a + 25)) rfl dX13_slips_170 ?_
    refine lv_iload hx hb dX13_slips_173 (lv_at hl 5 rfl) ?_
    refine lv_aload_n hx hb dX13_slips_175 rfl (lv_at hl 0 rfl) ?_
    refine b_get hM hW 11 39 hc rfl rfl (by decide) wi_X13 (wgm fk_RX13_156) (x := .ref (a + 26)) rfl dX13_slips_176 ?_
    refine lv_iload hx hb dX13_slips_179 (lv_at hl 5 rfl) ?_
    obtain ⟨h3, hf⟩ := ck_elim hf
    refine b_iald (n := 10) hM hW 11 39 hc (by decide) rfl rfl rfl rfl h3 dX13_slips_181 ?_
    refine lv_topi (fun y4 ey4 => ?_)
    have hf := nm_at ey4 hf
    obtain ⟨h5, hf⟩ := ck_elim hf
    refine b_iast (n := 10) hM hW 11 38 hc (by decide) rfl rfl rfl rfl h5 dX13_slips_182 (fun v6 ev6 hc H locs hW => ?_)
    have hf := nm_at ev6 hf
    obtain ⟨y7, ey7⟩ : ∃ y : Int32, y = x5 + (1 : Int32) := ⟨_, rfl⟩
    have hf := nm_at ey7 hf
    refine lv_iinc (v := y7) (lv' := [(5, .int y7), (0, .ref a), (1, .int x1), (2, .int x2), (3, .int x3), (4, .int x4)]) hx hb dX13_slips_183 hl (k := 5) rfl (by rw [ey7]; rfl) (by decide) rfl (fun ls hl => ?_)
    refine lv_goto (tgt := 163) hx hb dX13_slips_186 (by decide) ?_
    exact hk163 _ _ hf hc _ _ hW _ (lv_sub hl [1, 2, 3, 4, 5, 0] rfl)
theorem t_X13_slips_163 {G : GG} {p : Program} {l : Launch} {e : Env} {s : State} {m : MethodId} {args : Array Value} {below : List Frame} {meth : Method} {c : Code} {S : ST} {fu : Nat} {z : Int32 × GV} {a : Nat} {v0 : GV} {k74 : Int32 → GV → Option (Int32 × GV)} {x1 : Int32} {x2 : Int32} {x3 : Int32} {x4 : Int32} (hM : MC G p s m args c cX13_slips w_X13_slips RX13) (hml : c.maxLocals = 7) (hr : meth.sig.returnType = (some .int)) (hlk : meth.locks = false) (hc0 : gC v0 = 12) (hk74 : ∀ (x4 : Int32) (v : GV), k74 x4 v = some z → gC v = 12 → ∀ (H : Heap) (locs : List Loc), WB G (st S a v) s H locs → ∀ (ls : Array Slot), lv_has ls 7 [(0, .ref a), (1, .int x1), (2, .int x2), (3, .int x3), (4, .int x4)] → W p l e RM_X13_slips s m args below meth c H locs 0 0 (QR G below args s (some (.int z.1)) (st S a v0) (st S a z.2)) (F0 m 74 ls [])) : ∀ {n : Nat} (x5 : Int32) (v : GV), f_X13_slips_163 fu n k74 x1 x2 x3 x4 x5 v = some z → gC v = 12 → ∀ (H : Heap) (locs : List Loc), WB G (st S a v) s H locs → ∀ (ls : Array Slot), lv_has ls 7 [(0, .ref a), (1, .int x1), (2, .int x2), (3, .int x3), (4, .int x4), (5, .int x5)] → W p l e RM_X13_slips s m args below meth c H locs 0 0 (QR G below args s (some (.int z.1)) (st S a v0) (st S a z.2)) (F0 m 163 ls []) := by
  intro n
  induction n with
  | zero => intro x5 v hf; cases hf
  | succ n ih => intro x5 v hf; exact t_X13_slips_163s (fu := fu) hM hml hr hlk hc0 hk74 (k163 := f_X13_slips_163 fu n k74 x1 x2 x3 x4) ih _ _ hf
noncomputable def f_X13_slips_152 (fu : Nat) (k74 : Int32 → GV → Option (Int32 × GV)) (k83 : Int32 → GV → Option (Int32 × GV)) (v : GV) (x1 : Int32) (x2 : Int32) (x3 : Int32) (x4 : Int32) (x5 : Int32) (t1 : Int32) (t2 : Int32) (t3 : Int32) : Option (Int32 × GV) :=
  nm ((t2 + t3)) fun y1 =>
  ck (inb t1 10) <|
  nm (sA v 39 t1.toNatClampNeg y1) fun v3 =>
  nm (x5 + (1 : Int32)) fun y4 =>
  k83 y4 v3
set_option maxHeartbeats 4000000 in
set_option maxRecDepth 100000 in
theorem t_X13_slips_152 {G : GG} {p : Program} {l : Launch} {e : Env} {s : State} {m : MethodId} {args : Array Value} {below : List Frame} {meth : Method} {c : Code} {S : ST} {fu : Nat} {z : Int32 × GV} {a : Nat} {v0 : GV} {k74 : Int32 → GV → Option (Int32 × GV)} {k83 : Int32 → GV → Option (Int32 × GV)} {v : GV} {x1 : Int32} {x2 : Int32} {x3 : Int32} {x4 : Int32} {x5 : Int32} {t1 : Int32} {t2 : Int32} {t3 : Int32} (hM : MC G p s m args c cX13_slips w_X13_slips RX13) (hml : c.maxLocals = 7) (hr : meth.sig.returnType = (some .int)) (hlk : meth.locks = false) (hc0 : gC v0 = 12) (hk74 : ∀ (x4 : Int32) (v : GV), k74 x4 v = some z → gC v = 12 → ∀ (H : Heap) (locs : List Loc), WB G (st S a v) s H locs → ∀ (ls : Array Slot), lv_has ls 7 [(0, .ref a), (1, .int x1), (2, .int x2), (3, .int x3), (4, .int x4)] → W p l e RM_X13_slips s m args below meth c H locs 0 0 (QR G below args s (some (.int z.1)) (st S a v0) (st S a z.2)) (F0 m 74 ls [])) (hk83 : ∀ (x5 : Int32) (v : GV), k83 x5 v = some z → gC v = 12 → ∀ (H : Heap) (locs : List Loc), WB G (st S a v) s H locs → ∀ (ls : Array Slot), lv_has ls 7 [(0, .ref a), (1, .int x1), (2, .int x2), (3, .int x3), (4, .int x4), (5, .int x5)] → W p l e RM_X13_slips s m args below meth c H locs 0 0 (QR G below args s (some (.int z.1)) (st S a v0) (st S a z.2)) (F0 m 83 ls [])) (hf : f_X13_slips_152 fu k74 k83 v x1 x2 x3 x4 x5 t1 t2 t3 = some z) : gC v = 12 → ∀ (H : Heap) (locs : List Loc), WB G (st S a v) s H locs → ∀ (ls : Array Slot), lv_has ls 7 [(0, .ref a), (1, .int x1), (2, .int x2), (3, .int x3), (4, .int x4), (5, .int x5)] → W p l e RM_X13_slips s m args below meth c H locs 0 0 (QR G below args s (some (.int z.1)) (st S a v0) (st S a z.2)) (F0 m 152 ls [.int t3, .int t2, .int t1, .ref (a + 26)]) := by
  intro hc H locs hW ls hl
  have hx := hM.1
  have hb := hM.2.1
  refine lv_iadd hx hb dX13_slips_152 ?_
  refine lv_topi (fun y1 ey1 => ?_)
  have hf := nm_at ey1 hf
  obtain ⟨h2, hf⟩ := ck_elim hf
  refine b_iast (n := 10) hM hW 11 39 hc (by decide) rfl rfl rfl rfl h2 dX13_slips_153 (fun v3 ev3 hc H locs hW => ?_)
  have hf := nm_at ev3 hf
  obtain ⟨y4, ey4⟩ : ∃ y : Int32, y = x5 + (1 : Int32) := ⟨_, rfl⟩
  have hf := nm_at ey4 hf
  refine lv_iinc (v := y4) (lv' := [(5, .int y4), (0, .ref a), (1, .int x1), (2, .int x2), (3, .int x3), (4, .int x4)]) hx hb dX13_slips_154 hl (k := 5) rfl (by rw [ey4]; rfl) (by decide) rfl (fun ls hl => ?_)
  refine lv_goto (tgt := 83) hx hb dX13_slips_157 (by decide) ?_
  exact hk83 _ _ hf hc _ _ hW _ (lv_sub hl [1, 2, 3, 4, 5, 0] rfl)
noncomputable def f_X13_slips_116 (fu : Nat) (k74 : Int32 → GV → Option (Int32 × GV)) (k83 : Int32 → GV → Option (Int32 × GV)) (v : GV) (x1 : Int32) (x2 : Int32) (x3 : Int32) (x4 : Int32) (x5 : Int32) (t0 : Int32) : Option (Int32 × GV) :=
  if x5 = x2 then
    (f_X13_slips_152 fu k74 k83 v x1 x2 x3 x4 x5 x5 t0 (0 : Int32))
  else
    (nm ((x5 + (1 : Int32))) fun y2 =>
    ck (inb y2 10) <|
    ck (decide (¬ x2 = 0)) <|
    f_X13_slips_152 fu k74 k83 v x1 x2 x3 x4 x5 x5 t0 (((gA v 38 y2.toNatClampNeg) * (x5 + (1 : Int32))) / x2))
set_option maxHeartbeats 4000000 in
set_option maxRecDepth 100000 in
theorem t_X13_slips_116 {G : GG} {p : Program} {l : Launch} {e : Env} {s : State} {m : MethodId} {args : Array Value} {below : List Frame} {meth : Method} {c : Code} {S : ST} {fu : Nat} {z : Int32 × GV} {a : Nat} {v0 : GV} {k74 : Int32 → GV → Option (Int32 × GV)} {k83 : Int32 → GV → Option (Int32 × GV)} {v : GV} {x1 : Int32} {x2 : Int32} {x3 : Int32} {x4 : Int32} {x5 : Int32} {t0 : Int32} (hM : MC G p s m args c cX13_slips w_X13_slips RX13) (hml : c.maxLocals = 7) (hr : meth.sig.returnType = (some .int)) (hlk : meth.locks = false) (hc0 : gC v0 = 12) (hk74 : ∀ (x4 : Int32) (v : GV), k74 x4 v = some z → gC v = 12 → ∀ (H : Heap) (locs : List Loc), WB G (st S a v) s H locs → ∀ (ls : Array Slot), lv_has ls 7 [(0, .ref a), (1, .int x1), (2, .int x2), (3, .int x3), (4, .int x4)] → W p l e RM_X13_slips s m args below meth c H locs 0 0 (QR G below args s (some (.int z.1)) (st S a v0) (st S a z.2)) (F0 m 74 ls [])) (hk83 : ∀ (x5 : Int32) (v : GV), k83 x5 v = some z → gC v = 12 → ∀ (H : Heap) (locs : List Loc), WB G (st S a v) s H locs → ∀ (ls : Array Slot), lv_has ls 7 [(0, .ref a), (1, .int x1), (2, .int x2), (3, .int x3), (4, .int x4), (5, .int x5)] → W p l e RM_X13_slips s m args below meth c H locs 0 0 (QR G below args s (some (.int z.1)) (st S a v0) (st S a z.2)) (F0 m 83 ls [])) (hf : f_X13_slips_116 fu k74 k83 v x1 x2 x3 x4 x5 t0 = some z) : gC v = 12 → ∀ (H : Heap) (locs : List Loc), WB G (st S a v) s H locs → ∀ (ls : Array Slot), lv_has ls 7 [(0, .ref a), (1, .int x1), (2, .int x2), (3, .int x3), (4, .int x4), (5, .int x5)] → W p l e RM_X13_slips s m args below meth c H locs 0 0 (QR G below args s (some (.int z.1)) (st S a v0) (st S a z.2)) (F0 m 116 ls [.int t0]) := by
  intro hc H locs hW ls hl
  have hx := hM.1
  have hb := hM.2.1
  refine lv_istore (lv' := [(6, .int t0), (0, .ref a), (1, .int x1), (2, .int x2), (3, .int x3), (4, .int x4), (5, .int x5)]) hx hb dX13_slips_116 hl (by decide) rfl (fun ls hl => ?_)
  refine lv_aload_n hx hb dX13_slips_118 rfl (lv_at hl 1 rfl) ?_
  refine b_get hM hW 11 39 hc rfl rfl (by decide) wi_X13 (wgm fk_RX13_156) (x := .ref (a + 26)) rfl dX13_slips_119 ?_
  refine lv_iload hx hb dX13_slips_122 (lv_at hl 6 rfl) ?_
  refine lv_iload hx hb dX13_slips_124 (lv_at hl 0 rfl) ?_
  refine lv_iload hx hb dX13_slips_126 (lv_at hl 6 rfl) ?_
  refine lv_iload_n hx hb dX13_slips_128 rfl (lv_at hl 3 rfl) ?_
  refine lv_icmp_ne (tgt := 136) hx hb dX13_slips_129 (by decide) (fun c1 => ?_) (fun c1 => ?_)
  · have hf := if_f c1 hf
    refine lv_aload_n hx hb dX13_slips_136 rfl (lv_at hl 1 rfl) ?_
    refine b_get hM hW 11 38 hc rfl rfl (by decide) wi_X13 (wgm fk_RX13_153) (x := .ref (a + 25)) rfl dX13_slips_137 ?_
    refine lv_iload hx hb dX13_slips_140 (lv_at hl 6 rfl) ?_
    refine lv_iconst (v := (1 : Int32)) hx hb dX13_slips_142 (by decide) ?_
    refine lv_iadd hx hb dX13_slips_143 ?_
    refine lv_topi (fun y2 ey2 => ?_)
    have hf := nm_at ey2 hf
    obtain ⟨h3, hf⟩ := ck_elim hf
    refine b_iald (n := 10) hM hW 11 38 hc (by decide) rfl rfl rfl rfl h3 dX13_slips_144 ?_
    refine lv_iload hx hb dX13_slips_145 (lv_at hl 6 rfl) ?_
    refine lv_iconst (v := (1 : Int32)) hx hb dX13_slips_147 (by decide) ?_
    refine lv_iadd hx hb dX13_slips_148 ?_
    refine lv_imul hx hb dX13_slips_149 ?_
    refine lv_iload_n hx hb dX13_slips_150 rfl (lv_at hl 3 rfl) ?_
    obtain ⟨h4, hf⟩ := ck_elim hf
    refine lv_idiv hx hb dX13_slips_151 (of_decide_eq_true h4) ?_
    exact t_X13_slips_152 (fu := fu) hM hml hr hlk hc0 hk74 hk83 hf hc _ _ hW _ (lv_sub hl [1, 2, 3, 4, 5, 6] rfl)
  · have hf := if_t c1 hf
    refine lv_iconst (v := (0 : Int32)) hx hb dX13_slips_132 (by decide) ?_
    refine lv_goto (tgt := 152) hx hb dX13_slips_133 (by decide) ?_
    exact t_X13_slips_152 (fu := fu) hM hml hr hlk hc0 hk74 hk83 hf hc _ _ hW _ (lv_sub hl [1, 2, 3, 4, 5, 6] rfl)
noncomputable def f_X13_slips_83s (fu : Nat) (k74 : Int32 → GV → Option (Int32 × GV)) (k83 : Int32 → GV → Option (Int32 × GV)) (x1 : Int32) (x2 : Int32) (x3 : Int32) (x4 : Int32) (x5 : Int32) (v : GV) : Option (Int32 × GV) :=
  if x2 < x5 then
    (f_X13_slips_163 fu fu k74 x1 x2 x3 x4 (0 : Int32) v)
  else
    (if x5 = 0 then
      (f_X13_slips_116 fu k74 k83 v x1 x2 x3 x4 x5 (0 : Int32))
    else
      (nm ((x5 - (1 : Int32))) fun y3 =>
      ck (inb y3 10) <|
      ck (decide (¬ x2 = 0)) <|
      f_X13_slips_116 fu k74 k83 v x1 x2 x3 x4 x5 (((gA v 38 y3.toNatClampNeg) * ((x2 - x5) + (1 : Int32))) / x2)))
noncomputable def f_X13_slips_83 (fu n : Nat) (k74 : Int32 → GV → Option (Int32 × GV)) (x1 : Int32) (x2 : Int32) (x3 : Int32) (x4 : Int32) : Int32 → GV → Option (Int32 × GV) :=
  lq_2 (fun k83 => f_X13_slips_83s fu k74 k83 x1 x2 x3 x4) n
set_option maxHeartbeats 4000000 in
set_option maxRecDepth 100000 in
theorem t_X13_slips_83s {G : GG} {p : Program} {l : Launch} {e : Env} {s : State} {m : MethodId} {args : Array Value} {below : List Frame} {meth : Method} {c : Code} {S : ST} {fu : Nat} {z : Int32 × GV} {a : Nat} {v0 : GV} {k74 : Int32 → GV → Option (Int32 × GV)} (hM : MC G p s m args c cX13_slips w_X13_slips RX13) (hml : c.maxLocals = 7) (hr : meth.sig.returnType = (some .int)) (hlk : meth.locks = false) (hc0 : gC v0 = 12) {k83 : Int32 → GV → Option (Int32 × GV)} {x1 : Int32} {x2 : Int32} {x3 : Int32} {x4 : Int32} (hk74 : ∀ (x4 : Int32) (v : GV), k74 x4 v = some z → gC v = 12 → ∀ (H : Heap) (locs : List Loc), WB G (st S a v) s H locs → ∀ (ls : Array Slot), lv_has ls 7 [(0, .ref a), (1, .int x1), (2, .int x2), (3, .int x3), (4, .int x4)] → W p l e RM_X13_slips s m args below meth c H locs 0 0 (QR G below args s (some (.int z.1)) (st S a v0) (st S a z.2)) (F0 m 74 ls [])) (hk83 : ∀ (x5 : Int32) (v : GV), k83 x5 v = some z → gC v = 12 → ∀ (H : Heap) (locs : List Loc), WB G (st S a v) s H locs → ∀ (ls : Array Slot), lv_has ls 7 [(0, .ref a), (1, .int x1), (2, .int x2), (3, .int x3), (4, .int x4), (5, .int x5)] → W p l e RM_X13_slips s m args below meth c H locs 0 0 (QR G below args s (some (.int z.1)) (st S a v0) (st S a z.2)) (F0 m 83 ls [])) : ∀ (x5 : Int32) (v : GV), f_X13_slips_83s fu k74 k83 x1 x2 x3 x4 x5 v = some z → gC v = 12 → ∀ (H : Heap) (locs : List Loc), WB G (st S a v) s H locs → ∀ (ls : Array Slot), lv_has ls 7 [(0, .ref a), (1, .int x1), (2, .int x2), (3, .int x3), (4, .int x4), (5, .int x5)] → W p l e RM_X13_slips s m args below meth c H locs 0 0 (QR G below args s (some (.int z.1)) (st S a v0) (st S a z.2)) (F0 m 83 ls []) := by
  intro x5 v hf hc H locs hW ls hl
  have hx := hM.1
  have hb := hM.2.1
  refine lv_iload hx hb dX13_slips_83 (lv_at hl 5 rfl) ?_
  refine lv_iload_n hx hb dX13_slips_85 rfl (lv_at hl 2 rfl) ?_
  refine lv_icmp_gt (tgt := 160) hx hb dX13_slips_86 (by decide) (fun c1 => ?_) (fun c1 => ?_)
  · have hf := if_t c1 hf
    refine lv_iconst (v := (0 : Int32)) hx hb dX13_slips_160 (by decide) ?_
    refine lv_istore (lv' := [(5, .int (0 : Int32)), (0, .ref a), (1, .int x1), (2, .int x2), (3, .int x3), (4, .int x4)]) hx hb dX13_slips_161 hl (by decide) rfl (fun ls hl => ?_)
    exact t_X13_slips_163 (fu := fu) hM hml hr hlk hc0 hk74 _ _ hf hc _ _ hW _ (lv_sub hl [1, 2, 3, 4, 5, 0] rfl)
  · have hf := if_f c1 hf
    refine lv_iload hx hb dX13_slips_89 (lv_at hl 5 rfl) ?_
    refine lv_if_ne (tgt := 98) hx hb dX13_slips_91 (by decide) (fun c2 => ?_) (fun c2 => ?_)
    · have hf := if_f c2 hf
      refine lv_aload_n hx hb dX13_slips_98 rfl (lv_at hl 0 rfl) ?_
      refine b_get hM hW 11 38 hc rfl rfl (by decide) wi_X13 (wgm fk_RX13_153) (x := .ref (a + 25)) rfl dX13_slips_99 ?_
      refine lv_iload hx hb dX13_slips_102 (lv_at hl 5 rfl) ?_
      refine lv_iconst (v := (1 : Int32)) hx hb dX13_slips_104 (by decide) ?_
      refine lv_isub hx hb dX13_slips_105 ?_
      refine lv_topi (fun y3 ey3 => ?_)
      have hf := nm_at ey3 hf
      obtain ⟨h4, hf⟩ := ck_elim hf
      refine b_iald (n := 10) hM hW 11 38 hc (by decide) rfl rfl rfl rfl h4 dX13_slips_106 ?_
      refine lv_iload_n hx hb dX13_slips_107 rfl (lv_at hl 2 rfl) ?_
      refine lv_iload hx hb dX13_slips_108 (lv_at hl 5 rfl) ?_
      refine lv_isub hx hb dX13_slips_110 ?_
      refine lv_iconst (v := (1 : Int32)) hx hb dX13_slips_111 (by decide) ?_
      refine lv_iadd hx hb dX13_slips_112 ?_
      refine lv_imul hx hb dX13_slips_113 ?_
      refine lv_iload_n hx hb dX13_slips_114 rfl (lv_at hl 2 rfl) ?_
      obtain ⟨h5, hf⟩ := ck_elim hf
      refine lv_idiv hx hb dX13_slips_115 (of_decide_eq_true h5) ?_
      exact t_X13_slips_116 (fu := fu) hM hml hr hlk hc0 hk74 hk83 hf hc _ _ hW _ (lv_sub hl [0, 1, 2, 3, 4, 5] rfl)
    · have hf := if_t c2 hf
      refine lv_iconst (v := (0 : Int32)) hx hb dX13_slips_94 (by decide) ?_
      refine lv_goto (tgt := 116) hx hb dX13_slips_95 (by decide) ?_
      exact t_X13_slips_116 (fu := fu) hM hml hr hlk hc0 hk74 hk83 hf hc _ _ hW _ (lv_sub hl [0, 1, 2, 3, 4, 5] rfl)
theorem t_X13_slips_83 {G : GG} {p : Program} {l : Launch} {e : Env} {s : State} {m : MethodId} {args : Array Value} {below : List Frame} {meth : Method} {c : Code} {S : ST} {fu : Nat} {z : Int32 × GV} {a : Nat} {v0 : GV} {k74 : Int32 → GV → Option (Int32 × GV)} {x1 : Int32} {x2 : Int32} {x3 : Int32} {x4 : Int32} (hM : MC G p s m args c cX13_slips w_X13_slips RX13) (hml : c.maxLocals = 7) (hr : meth.sig.returnType = (some .int)) (hlk : meth.locks = false) (hc0 : gC v0 = 12) (hk74 : ∀ (x4 : Int32) (v : GV), k74 x4 v = some z → gC v = 12 → ∀ (H : Heap) (locs : List Loc), WB G (st S a v) s H locs → ∀ (ls : Array Slot), lv_has ls 7 [(0, .ref a), (1, .int x1), (2, .int x2), (3, .int x3), (4, .int x4)] → W p l e RM_X13_slips s m args below meth c H locs 0 0 (QR G below args s (some (.int z.1)) (st S a v0) (st S a z.2)) (F0 m 74 ls [])) : ∀ {n : Nat} (x5 : Int32) (v : GV), f_X13_slips_83 fu n k74 x1 x2 x3 x4 x5 v = some z → gC v = 12 → ∀ (H : Heap) (locs : List Loc), WB G (st S a v) s H locs → ∀ (ls : Array Slot), lv_has ls 7 [(0, .ref a), (1, .int x1), (2, .int x2), (3, .int x3), (4, .int x4), (5, .int x5)] → W p l e RM_X13_slips s m args below meth c H locs 0 0 (QR G below args s (some (.int z.1)) (st S a v0) (st S a z.2)) (F0 m 83 ls []) := by
  intro n
  induction n with
  | zero => intro x5 v hf; cases hf
  | succ n ih => intro x5 v hf; exact t_X13_slips_83s (fu := fu) hM hml hr hlk hc0 hk74 (k83 := f_X13_slips_83 fu n k74 x1 x2 x3 x4) ih _ _ hf
noncomputable def f_X13_slips_74s (fu : Nat)  (k74 : Int32 → GV → Option (Int32 × GV)) (x1 : Int32) (x2 : Int32) (x3 : Int32) (x4 : Int32) (v : GV) : Option (Int32 × GV) :=
  if x1 ≤ x4 then
    (ck (inb x3 10) <|
    some ((gA v 38 x3.toNatClampNeg), v))
  else
    (f_X13_slips_83 fu fu k74 x1 x2 x3 x4 (0 : Int32) v)
noncomputable def f_X13_slips_74 (fu n : Nat)  (x1 : Int32) (x2 : Int32) (x3 : Int32) : Int32 → GV → Option (Int32 × GV) :=
  lq_2 (fun k74 => f_X13_slips_74s fu  k74 x1 x2 x3) n
set_option maxHeartbeats 4000000 in
set_option maxRecDepth 100000 in
theorem t_X13_slips_74s {G : GG} {p : Program} {l : Launch} {e : Env} {s : State} {m : MethodId} {args : Array Value} {below : List Frame} {meth : Method} {c : Code} {S : ST} {fu : Nat} {z : Int32 × GV} {a : Nat} {v0 : GV}  (hM : MC G p s m args c cX13_slips w_X13_slips RX13) (hml : c.maxLocals = 7) (hr : meth.sig.returnType = (some .int)) (hlk : meth.locks = false) (hc0 : gC v0 = 12) {k74 : Int32 → GV → Option (Int32 × GV)} {x1 : Int32} {x2 : Int32} {x3 : Int32}  (hk74 : ∀ (x4 : Int32) (v : GV), k74 x4 v = some z → gC v = 12 → ∀ (H : Heap) (locs : List Loc), WB G (st S a v) s H locs → ∀ (ls : Array Slot), lv_has ls 7 [(0, .ref a), (1, .int x1), (2, .int x2), (3, .int x3), (4, .int x4)] → W p l e RM_X13_slips s m args below meth c H locs 0 0 (QR G below args s (some (.int z.1)) (st S a v0) (st S a z.2)) (F0 m 74 ls [])) : ∀ (x4 : Int32) (v : GV), f_X13_slips_74s fu  k74 x1 x2 x3 x4 v = some z → gC v = 12 → ∀ (H : Heap) (locs : List Loc), WB G (st S a v) s H locs → ∀ (ls : Array Slot), lv_has ls 7 [(0, .ref a), (1, .int x1), (2, .int x2), (3, .int x3), (4, .int x4)] → W p l e RM_X13_slips s m args below meth c H locs 0 0 (QR G below args s (some (.int z.1)) (st S a v0) (st S a z.2)) (F0 m 74 ls []) := by
  intro x4 v hf hc H locs hW ls hl
  have hx := hM.1
  have hb := hM.2.1
  refine lv_iload hx hb dX13_slips_74 (lv_at hl 4 rfl) ?_
  refine lv_iload_n hx hb dX13_slips_76 rfl (lv_at hl 1 rfl) ?_
  refine lv_icmp_ge (tgt := 195) hx hb dX13_slips_77 (by decide) (fun c1 => ?_) (fun c1 => ?_)
  · have hf := if_t c1 hf
    refine lv_aload_n hx hb dX13_slips_195 rfl (lv_at hl 0 rfl) ?_
    refine b_get hM hW 11 38 hc rfl rfl (by decide) wi_X13 (wgm fk_RX13_153) (x := .ref (a + 25)) rfl dX13_slips_196 ?_
    refine lv_iload_n hx hb dX13_slips_199 rfl (lv_at hl 3 rfl) ?_
    obtain ⟨h2, hf⟩ := ck_elim hf
    refine b_iald (n := 10) hM hW 11 38 hc (by decide) rfl rfl rfl rfl h2 dX13_slips_200 ?_
    cases hf
    exact W.iret hx hb hr (b_ret0 hW (keep_s2 hc0 hc) _) hW.2.2.2 dX13_slips_201 hlk
  · have hf := if_f c1 hf
    refine lv_iconst (v := (0 : Int32)) hx hb dX13_slips_80 (by decide) ?_
    refine lv_istore (lv' := [(5, .int (0 : Int32)), (0, .ref a), (1, .int x1), (2, .int x2), (3, .int x3), (4, .int x4)]) hx hb dX13_slips_81 hl (by decide) rfl (fun ls hl => ?_)
    exact t_X13_slips_83 (fu := fu) hM hml hr hlk hc0 hk74 _ _ hf hc _ _ hW _ (lv_sub hl [1, 2, 3, 4, 5, 0] rfl)
theorem t_X13_slips_74 {G : GG} {p : Program} {l : Launch} {e : Env} {s : State} {m : MethodId} {args : Array Value} {below : List Frame} {meth : Method} {c : Code} {S : ST} {fu : Nat} {z : Int32 × GV} {a : Nat} {v0 : GV}  {x1 : Int32} {x2 : Int32} {x3 : Int32} (hM : MC G p s m args c cX13_slips w_X13_slips RX13) (hml : c.maxLocals = 7) (hr : meth.sig.returnType = (some .int)) (hlk : meth.locks = false) (hc0 : gC v0 = 12)  : ∀ {n : Nat} (x4 : Int32) (v : GV), f_X13_slips_74 fu n  x1 x2 x3 x4 v = some z → gC v = 12 → ∀ (H : Heap) (locs : List Loc), WB G (st S a v) s H locs → ∀ (ls : Array Slot), lv_has ls 7 [(0, .ref a), (1, .int x1), (2, .int x2), (3, .int x3), (4, .int x4)] → W p l e RM_X13_slips s m args below meth c H locs 0 0 (QR G below args s (some (.int z.1)) (st S a v0) (st S a z.2)) (F0 m 74 ls []) := by
  intro n
  induction n with
  | zero => intro x4 v hf; cases hf
  | succ n ih => intro x4 v hf; exact t_X13_slips_74s (fu := fu) hM hml hr hlk hc0  (k74 := f_X13_slips_74 fu n  x1 x2 x3) ih _ _ hf
noncomputable def f_X13_slips_64 (fu : Nat) (k39 : Int32 → GV → Option (Int32 × GV)) (v : GV) (x1 : Int32) (x2 : Int32) (x3 : Int32) (x4 : Int32) (t1 : Int32) (t2 : Int32) : Option (Int32 × GV) :=
  ck (inb t1 10) <|
  nm (sA v 38 t1.toNatClampNeg t2) fun v2 =>
  nm (x4 + (1 : Int32)) fun y3 =>
  k39 y3 v2
set_option maxHeartbeats 4000000 in
set_option maxRecDepth 100000 in
theorem t_X13_slips_64 {G : GG} {p : Program} {l : Launch} {e : Env} {s : State} {m : MethodId} {args : Array Value} {below : List Frame} {meth : Method} {c : Code} {S : ST} {fu : Nat} {z : Int32 × GV} {a : Nat} {v0 : GV} {k39 : Int32 → GV → Option (Int32 × GV)} {v : GV} {x1 : Int32} {x2 : Int32} {x3 : Int32} {x4 : Int32} {t1 : Int32} {t2 : Int32} (hM : MC G p s m args c cX13_slips w_X13_slips RX13) (hml : c.maxLocals = 7) (hr : meth.sig.returnType = (some .int)) (hlk : meth.locks = false) (hc0 : gC v0 = 12) (hk39 : ∀ (x4 : Int32) (v : GV), k39 x4 v = some z → gC v = 12 → ∀ (H : Heap) (locs : List Loc), WB G (st S a v) s H locs → ∀ (ls : Array Slot), lv_has ls 7 [(0, .ref a), (1, .int x1), (2, .int x2), (3, .int x3), (4, .int x4)] → W p l e RM_X13_slips s m args below meth c H locs 0 0 (QR G below args s (some (.int z.1)) (st S a v0) (st S a z.2)) (F0 m 39 ls [])) (hf : f_X13_slips_64 fu k39 v x1 x2 x3 x4 t1 t2 = some z) : gC v = 12 → ∀ (H : Heap) (locs : List Loc), WB G (st S a v) s H locs → ∀ (ls : Array Slot), lv_has ls 7 [(0, .ref a), (1, .int x1), (2, .int x2), (3, .int x3), (4, .int x4)] → W p l e RM_X13_slips s m args below meth c H locs 0 0 (QR G below args s (some (.int z.1)) (st S a v0) (st S a z.2)) (F0 m 64 ls [.int t2, .int t1, .ref (a + 25)]) := by
  intro hc H locs hW ls hl
  have hx := hM.1
  have hb := hM.2.1
  obtain ⟨h1, hf⟩ := ck_elim hf
  refine b_iast (n := 10) hM hW 11 38 hc (by decide) rfl rfl rfl rfl h1 dX13_slips_64 (fun v2 ev2 hc H locs hW => ?_)
  have hf := nm_at ev2 hf
  obtain ⟨y3, ey3⟩ : ∃ y : Int32, y = x4 + (1 : Int32) := ⟨_, rfl⟩
  have hf := nm_at ey3 hf
  refine lv_iinc (v := y3) (lv' := [(4, .int y3), (0, .ref a), (1, .int x1), (2, .int x2), (3, .int x3)]) hx hb dX13_slips_65 hl (k := 4) rfl (by rw [ey3]; rfl) (by decide) rfl (fun ls hl => ?_)
  refine lv_goto (tgt := 39) hx hb dX13_slips_68 (by decide) ?_
  exact hk39 _ _ hf hc _ _ hW _ (lv_sub hl [1, 2, 3, 4, 0] rfl)
noncomputable def f_X13_slips_39s (fu : Nat)  (k39 : Int32 → GV → Option (Int32 × GV)) (x1 : Int32) (x2 : Int32) (x3 : Int32) (x4 : Int32) (v : GV) : Option (Int32 × GV) :=
  if (10 : Int32) ≤ x4 then
    (f_X13_slips_74 fu fu x1 x2 x3 (0 : Int32) v)
  else
    (if x4 = 0 then
      (f_X13_slips_64 fu k39 v x1 x2 x3 x4 x4 (1000000 : Int32))
    else
      (f_X13_slips_64 fu k39 v x1 x2 x3 x4 x4 (0 : Int32)))
noncomputable def f_X13_slips_39 (fu n : Nat)  (x1 : Int32) (x2 : Int32) (x3 : Int32) : Int32 → GV → Option (Int32 × GV) :=
  lq_2 (fun k39 => f_X13_slips_39s fu  k39 x1 x2 x3) n
set_option maxHeartbeats 4000000 in
set_option maxRecDepth 100000 in
theorem t_X13_slips_39s {G : GG} {p : Program} {l : Launch} {e : Env} {s : State} {m : MethodId} {args : Array Value} {below : List Frame} {meth : Method} {c : Code} {S : ST} {fu : Nat} {z : Int32 × GV} {a : Nat} {v0 : GV}  (hM : MC G p s m args c cX13_slips w_X13_slips RX13) (hml : c.maxLocals = 7) (hr : meth.sig.returnType = (some .int)) (hlk : meth.locks = false) (hc0 : gC v0 = 12) {k39 : Int32 → GV → Option (Int32 × GV)} {x1 : Int32} {x2 : Int32} {x3 : Int32}  (hk39 : ∀ (x4 : Int32) (v : GV), k39 x4 v = some z → gC v = 12 → ∀ (H : Heap) (locs : List Loc), WB G (st S a v) s H locs → ∀ (ls : Array Slot), lv_has ls 7 [(0, .ref a), (1, .int x1), (2, .int x2), (3, .int x3), (4, .int x4)] → W p l e RM_X13_slips s m args below meth c H locs 0 0 (QR G below args s (some (.int z.1)) (st S a v0) (st S a z.2)) (F0 m 39 ls [])) : ∀ (x4 : Int32) (v : GV), f_X13_slips_39s fu  k39 x1 x2 x3 x4 v = some z → gC v = 12 → ∀ (H : Heap) (locs : List Loc), WB G (st S a v) s H locs → ∀ (ls : Array Slot), lv_has ls 7 [(0, .ref a), (1, .int x1), (2, .int x2), (3, .int x3), (4, .int x4)] → W p l e RM_X13_slips s m args below meth c H locs 0 0 (QR G below args s (some (.int z.1)) (st S a v0) (st S a z.2)) (F0 m 39 ls []) := by
  intro x4 v hf hc H locs hW ls hl
  have hx := hM.1
  have hb := hM.2.1
  refine lv_iload hx hb dX13_slips_39 (lv_at hl 4 rfl) ?_
  refine lv_bipush (v := (10 : Int32)) hx hb dX13_slips_41 (by decide) ?_
  refine lv_icmp_ge (tgt := 71) hx hb dX13_slips_43 (by decide) (fun c1 => ?_) (fun c1 => ?_)
  · have hf := if_t c1 hf
    refine lv_iconst (v := (0 : Int32)) hx hb dX13_slips_71 (by decide) ?_
    refine lv_istore (lv' := [(4, .int (0 : Int32)), (0, .ref a), (1, .int x1), (2, .int x2), (3, .int x3)]) hx hb dX13_slips_72 hl (by decide) rfl (fun ls hl => ?_)
    exact t_X13_slips_74 (fu := fu) hM hml hr hlk hc0 _ _ hf hc _ _ hW _ (lv_sub hl [1, 2, 3, 4, 0] rfl)
  · have hf := if_f c1 hf
    refine lv_aload_n hx hb dX13_slips_46 rfl (lv_at hl 0 rfl) ?_
    refine b_get hM hW 11 38 hc rfl rfl (by decide) wi_X13 (wgm fk_RX13_153) (x := .ref (a + 25)) rfl dX13_slips_47 ?_
    refine lv_iload hx hb dX13_slips_50 (lv_at hl 4 rfl) ?_
    refine lv_iload hx hb dX13_slips_52 (lv_at hl 4 rfl) ?_
    refine lv_if_ne (tgt := 63) hx hb dX13_slips_54 (by decide) (fun c2 => ?_) (fun c2 => ?_)
    · have hf := if_f c2 hf
      refine lv_iconst (v := (0 : Int32)) hx hb dX13_slips_63 (by decide) ?_
      exact t_X13_slips_64 (fu := fu) hM hml hr hlk hc0 hk39 hf hc _ _ hW _ (lv_sub hl [0, 1, 2, 3, 4] rfl)
    · have hf := if_t c2 hf
      refine lv_ldcw (v := (1000000 : Int32)) hx hb hM.2.2.1 (hM.2.2.2.1 _ (wgm ki_RX13_459)) dX13_slips_57 ?_
      refine lv_goto (tgt := 64) hx hb dX13_slips_60 (by decide) ?_
      exact t_X13_slips_64 (fu := fu) hM hml hr hlk hc0 hk39 hf hc _ _ hW _ (lv_sub hl [0, 1, 2, 3, 4] rfl)
theorem t_X13_slips_39 {G : GG} {p : Program} {l : Launch} {e : Env} {s : State} {m : MethodId} {args : Array Value} {below : List Frame} {meth : Method} {c : Code} {S : ST} {fu : Nat} {z : Int32 × GV} {a : Nat} {v0 : GV}  {x1 : Int32} {x2 : Int32} {x3 : Int32} (hM : MC G p s m args c cX13_slips w_X13_slips RX13) (hml : c.maxLocals = 7) (hr : meth.sig.returnType = (some .int)) (hlk : meth.locks = false) (hc0 : gC v0 = 12)  : ∀ {n : Nat} (x4 : Int32) (v : GV), f_X13_slips_39 fu n  x1 x2 x3 x4 v = some z → gC v = 12 → ∀ (H : Heap) (locs : List Loc), WB G (st S a v) s H locs → ∀ (ls : Array Slot), lv_has ls 7 [(0, .ref a), (1, .int x1), (2, .int x2), (3, .int x3), (4, .int x4)] → W p l e RM_X13_slips s m args below meth c H locs 0 0 (QR G below args s (some (.int z.1)) (st S a v0) (st S a z.2)) (F0 m 39 ls []) := by
  intro n
  induction n with
  | zero => intro x4 v hf; cases hf
  | succ n ih => intro x4 v hf; exact t_X13_slips_39s (fu := fu) hM hml hr hlk hc0  (k39 := f_X13_slips_39 fu n  x1 x2 x3) ih _ _ hf
noncomputable def f_X13_slips_34 (fu : Nat)  (v : GV) : Option (Int32 × GV) :=
  some ((-1 : Int32), v)
set_option maxHeartbeats 4000000 in
set_option maxRecDepth 100000 in
theorem t_X13_slips_34 {G : GG} {p : Program} {l : Launch} {e : Env} {s : State} {m : MethodId} {args : Array Value} {below : List Frame} {meth : Method} {c : Code} {S : ST} {fu : Nat} {z : Int32 × GV} {a : Nat} {v0 : GV}  {v : GV} (hM : MC G p s m args c cX13_slips w_X13_slips RX13) (hml : c.maxLocals = 7) (hr : meth.sig.returnType = (some .int)) (hlk : meth.locks = false) (hc0 : gC v0 = 12)  (hf : f_X13_slips_34 fu  v  = some z) : gC v = 12 → ∀ (H : Heap) (locs : List Loc), WB G (st S a v) s H locs → ∀ (ls : Array Slot), lv_has ls 7 [] → W p l e RM_X13_slips s m args below meth c H locs 0 0 (QR G below args s (some (.int z.1)) (st S a v0) (st S a z.2)) (F0 m 34 ls []) := by
  intro hc H locs hW ls hl
  have hx := hM.1
  have hb := hM.2.1
  refine lv_iconst (v := (-1 : Int32)) hx hb dX13_slips_34 (by decide) ?_
  cases hf
  exact W.iret hx hb hr (b_ret0 hW (keep_s2 hc0 hc) _) hW.2.2.2 dX13_slips_35 hlk
noncomputable def f_X13_slips_0 (fu : Nat)  (v : GV) (x1 : Int32) (x2 : Int32) (x3 : Int32) : Option (Int32 × GV) :=
  nm (sI v 0 (0 : Int32)) fun v1 =>
  bd (f_X13_within fu x1 (0 : Int32) (30 : Int32)) fun r2 =>
  if r2 = 0 then
    (f_X13_slips_34 fu v1)
  else
    (bd (f_X13_within fu x2 (1 : Int32) (8 : Int32)) fun r4 =>
    if r4 = 0 then
      (f_X13_slips_34 fu v1)
    else
      (bd (f_X13_within fu x3 (0 : Int32) x2) fun r6 =>
      if r6 = 0 then
        (f_X13_slips_34 fu v1)
      else
        (f_X13_slips_39 fu fu x1 x2 x3 (0 : Int32) v1)))
set_option maxHeartbeats 4000000 in
set_option maxRecDepth 100000 in
theorem t_X13_slips_0 {G : GG} {p : Program} {l : Launch} {e : Env} {s : State} {m : MethodId} {args : Array Value} {below : List Frame} {meth : Method} {c : Code} {S : ST} {fu : Nat} {z : Int32 × GV} {a : Nat} {v0 : GV}  {v : GV} {x1 : Int32} {x2 : Int32} {x3 : Int32} (hM : MC G p s m args c cX13_slips w_X13_slips RX13) (hml : c.maxLocals = 7) (hr : meth.sig.returnType = (some .int)) (hlk : meth.locks = false) (hc0 : gC v0 = 12)  (hf : f_X13_slips_0 fu  v x1 x2 x3 = some z) : gC v = 12 → ∀ (H : Heap) (locs : List Loc), WB G (st S a v) s H locs → ∀ (ls : Array Slot), lv_has ls 7 [(0, .ref a), (1, .int x1), (2, .int x2), (3, .int x3)] → W p l e RM_X13_slips s m args below meth c H locs 0 0 (QR G below args s (some (.int z.1)) (st S a v0) (st S a z.2)) (F0 m 0 ls []) := by
  intro hc H locs hW ls hl
  have hx := hM.1
  have hb := hM.2.1
  refine lv_aload_n hx hb dX13_slips_0 rfl (lv_at hl 0 rfl) ?_
  refine lv_iconst (v := (0 : Int32)) hx hb dX13_slips_1 (by decide) ?_
  refine b_putI hM hW 11 0 hc rfl rfl (by decide) wi_X13 tyX13 tyX13_ok nmX13 (wgm fk_RX13_1) rfl rfl rfl dX13_slips_2 (fun v1 ev1 hc H locs hW => ?_)
  have hf := nm_at ev1 hf
  refine lv_iload_n hx hb dX13_slips_5 rfl (lv_at hl 1 rfl) ?_
  refine lv_iconst (v := (0 : Int32)) hx hb dX13_slips_6 (by decide) ?_
  refine lv_bipush (v := (30 : Int32)) hx hb dX13_slips_7 (by decide) ?_
  obtain ⟨r2, hr2, hf⟩ := bd_elim hf
  refine b_callSi [.int x1, .int (0 : Int32), .int (30 : Int32)] [] hM hml hl.1 hW (c_X13_within l G fu _ _ _ _ hr2) (va_cwS 3 hM.2.2.2.1 (gS mk_RX13_231 sm_X13_within it_RX13 cd_X13_within) rfl rfl rfl (by decide +kernel) ⟨Nat.le_of_ble_eq_true rfl, Nat.le_of_ble_eq_true rfl⟩) rfl rfl (Nat.le_of_ble_eq_true rfl) ⟨Nat.zero_le _, Nat.zero_le _⟩ dX13_slips_9 (fun H locs hW hk => ?_)
  refine lv_if_eq (tgt := 34) hx hb dX13_slips_12 (by decide) (fun c3 => ?_) (fun c3 => ?_)
  · have hf := if_t c3 hf
    exact t_X13_slips_34 (fu := fu) hM hml hr hlk hc0 hf hc _ _ hW _ (lv_sub hl [] rfl)
  · have hf := if_f c3 hf
    refine lv_iload_n hx hb dX13_slips_15 rfl (lv_at hl 2 rfl) ?_
    refine lv_iconst (v := (1 : Int32)) hx hb dX13_slips_16 (by decide) ?_
    refine lv_bipush (v := (8 : Int32)) hx hb dX13_slips_17 (by decide) ?_
    obtain ⟨r4, hr4, hf⟩ := bd_elim hf
    refine b_callSi [.int x2, .int (1 : Int32), .int (8 : Int32)] [] hM hml hl.1 hW (c_X13_within l G fu _ _ _ _ hr4) (va_cwS 3 hM.2.2.2.1 (gS mk_RX13_231 sm_X13_within it_RX13 cd_X13_within) rfl rfl rfl (by decide +kernel) ⟨Nat.le_of_ble_eq_true rfl, Nat.le_of_ble_eq_true rfl⟩) rfl rfl (Nat.le_of_ble_eq_true rfl) ⟨Nat.zero_le _, Nat.zero_le _⟩ dX13_slips_19 (fun H locs hW hk => ?_)
    refine lv_if_eq (tgt := 34) hx hb dX13_slips_22 (by decide) (fun c5 => ?_) (fun c5 => ?_)
    · have hf := if_t c5 hf
      exact t_X13_slips_34 (fu := fu) hM hml hr hlk hc0 hf hc _ _ hW _ (lv_sub hl [] rfl)
    · have hf := if_f c5 hf
      refine lv_iload_n hx hb dX13_slips_25 rfl (lv_at hl 3 rfl) ?_
      refine lv_iconst (v := (0 : Int32)) hx hb dX13_slips_26 (by decide) ?_
      refine lv_iload_n hx hb dX13_slips_27 rfl (lv_at hl 2 rfl) ?_
      obtain ⟨r6, hr6, hf⟩ := bd_elim hf
      refine b_callSi [.int x3, .int (0 : Int32), .int x2] [] hM hml hl.1 hW (c_X13_within l G fu _ _ _ _ hr6) (va_cwS 3 hM.2.2.2.1 (gS mk_RX13_231 sm_X13_within it_RX13 cd_X13_within) rfl rfl rfl (by decide +kernel) ⟨Nat.le_of_ble_eq_true rfl, Nat.le_of_ble_eq_true rfl⟩) rfl rfl (Nat.le_of_ble_eq_true rfl) ⟨Nat.zero_le _, Nat.zero_le _⟩ dX13_slips_28 (fun H locs hW hk => ?_)
      refine lv_if_ne (tgt := 36) hx hb dX13_slips_31 (by decide) (fun c7 => ?_) (fun c7 => ?_)
      · have hf := if_f c7 hf
        refine lv_iconst (v := (0 : Int32)) hx hb dX13_slips_36 (by decide) ?_
        refine lv_istore (lv' := [(4, .int (0 : Int32)), (0, .ref a), (1, .int x1), (2, .int x2), (3, .int x3)]) hx hb dX13_slips_37 hl (by decide) rfl (fun ls hl => ?_)
        exact t_X13_slips_39 (fu := fu) hM hml hr hlk hc0 _ _ hf hc _ _ hW _ (lv_sub hl [1, 2, 3, 4, 0] rfl)
      · have hf := if_t c7 hf
        exact t_X13_slips_34 (fu := fu) hM hml hr hlk hc0 hf hc _ _ hW _ (lv_sub hl [] rfl)
noncomputable def f_X13_slips (fu : Nat) (v : GV) (x1 : Int32) (x2 : Int32) (x3 : Int32) : Option (Int32 × GV) := f_X13_slips_0 fu v x1 x2 x3
set_option maxHeartbeats 4000000 in
set_option maxRecDepth 100000 in
theorem c_X13_slips (l : Launch) (G : GG) (fu : Nat) (S : ST) (a : Nat) (v : GV) (x1 : Int32) (x2 : Int32) (x3 : Int32) {z : Int32} {w : GV} (hc : gC v = 12) (hf : f_X13_slips fu v x1 x2 x3 = some (z, w)) : Ct l yX13_slips w_X13_slips RM_X13_slips G (st S a v) [.ref a, .int x1, .int x2, .int x3] (some (.int z)) (st S a w) 0 0 := by
  refine Met.ofW (cc := cX13_slips) (maxL := 7) (ret := (some .int)) (by decide) rfl ?_
  intro p e s m args below meth c s₁ B hml hv
  obtain ⟨rfl, hB, hK, hz⟩ := hv
  have hM : MC G p s m _ c cX13_slips w_X13_slips RX13 := ⟨B.exec, B.bytes, findClass_of_methodNamed B.named, atoms_spec (ws := w_X13_slips) B.pre, hK, hz⟩
  have hW : WB G (st S a v) s s.heap [] := ⟨hB, va_S.rf⟩
  have hl := lv_entry ([.ref a, .int x1, .int x2, .int x3]) (n := 7) (Nat.le_of_ble_eq_true rfl)
  rw [lg_entry_eq]
  generalize (lg_sl ([.ref a, .int x1, .int x2, .int x3]) ++ List.replicate (7 - (lg_sl ([.ref a, .int x1, .int x2, .int x3])).length) Slot.unset).toArray = ls at hl ⊢
  have hl : lv_has ls 7 [(0, .ref a), (1, .int x1), (2, .int x2), (3, .int x3)] := hl
  exact t_X13_slips_0 hM hml B.returns B.notSynchronized hc hf hc _ _ hW _ (lv_sub hl [0, 1, 2, 3] rfl)
abbrev w_X13_draw : List Cond := Cond.code yX13_draw cX13_draw 2 (some .int) :: wsL_law0
abbrev RM_X13_draw : Room := { frames := 0, cells := 0, slots := 0, locals := 0 }
noncomputable def f_X13_draw_0 (fu : Nat)  (v : GV) (x1 : Int32) : Option (Int32 × GV) :=
  nm (sJ v 40 ((((gJ v 40) * (1103515245 : Int64)) + (12345 : Int64)) - (((gJ v 40) * (1103515245 : Int64)) + (12345 : Int64)) / (2147483648 : Int64) * (2147483648 : Int64))) fun v1 =>
  nm ((x1).toInt64) fun y2 =>
  ck (decide (¬ y2 = 0)) <|
  some (((((gJ v1 40) / (65536 : Int64)) - ((gJ v1 40) / (65536 : Int64)) / y2 * y2)).toInt32, v1)
set_option maxHeartbeats 4000000 in
set_option maxRecDepth 100000 in
theorem t_X13_draw_0 {G : GG} {p : Program} {l : Launch} {e : Env} {s : State} {m : MethodId} {args : Array Value} {below : List Frame} {meth : Method} {c : Code} {S : ST} {fu : Nat} {z : Int32 × GV} {a : Nat} {v0 : GV}  {v : GV} {x1 : Int32} (hM : MC G p s m args c cX13_draw w_X13_draw RX13) (hml : c.maxLocals = 2) (hr : meth.sig.returnType = (some .int)) (hlk : meth.locks = false) (hc0 : gC v0 = 12)  (hf : f_X13_draw_0 fu  v x1 = some z) : gC v = 12 → ∀ (H : Heap) (locs : List Loc), WB G (st S a v) s H locs → ∀ (ls : Array Slot), lv_has ls 2 [(0, .ref a), (1, .int x1)] → W p l e RM_X13_draw s m args below meth c H locs 0 0 (QR G below args s (some (.int z.1)) (st S a v0) (st S a z.2)) (F0 m 0 ls []) := by
  intro hc H locs hW ls hl
  have hx := hM.1
  have hb := hM.2.1
  refine lv_aload_n hx hb dX13_draw_0 rfl (lv_at hl 0 rfl) ?_
  refine lv_aload_n hx hb dX13_draw_1 rfl (lv_at hl 0 rfl) ?_
  refine b_get hM hW 11 40 hc rfl rfl (by decide) wi_X13 (wgm fk_RX13_460) (x := .long (gJ v 40)) rfl dX13_draw_2 ?_
  refine lv_ldc2 (v := (1103515245 : Int64)) hx hb hM.2.2.1 (hM.2.2.2.1 _ (wgm kj_RX13_464)) dX13_draw_5 ?_
  refine lv_lmul hx hb dX13_draw_8 ?_
  refine lv_ldc2 (v := (12345 : Int64)) hx hb hM.2.2.1 (hM.2.2.2.1 _ (wgm kj_RX13_466)) dX13_draw_9 ?_
  refine lv_ladd hx hb dX13_draw_12 ?_
  refine lv_ldc2 (v := (2147483648 : Int64)) hx hb hM.2.2.1 (hM.2.2.2.1 _ (wgm kj_RX13_468)) dX13_draw_13 ?_
  refine lv_lrem hx hb dX13_draw_16 (by decide) ?_
  refine b_putJ hM hW 11 40 hc rfl rfl (by decide) wi_X13 tyX13 tyX13_ok nmX13 (wgm fk_RX13_460) rfl rfl rfl dX13_draw_17 (fun v1 ev1 hc H locs hW => ?_)
  have hf := nm_at ev1 hf
  refine lv_aload_n hx hb dX13_draw_20 rfl (lv_at hl 0 rfl) ?_
  refine b_get hM hW 11 40 hc rfl rfl (by decide) wi_X13 (wgm fk_RX13_460) (x := .long (gJ v1 40)) rfl dX13_draw_21 ?_
  refine lv_ldc2 (v := (65536 : Int64)) hx hb hM.2.2.1 (hM.2.2.2.1 _ (wgm kj_RX13_470)) dX13_draw_24 ?_
  refine lv_ldiv hx hb dX13_draw_27 (by decide) ?_
  refine lv_iload_n hx hb dX13_draw_28 rfl (lv_at hl 1 rfl) ?_
  refine lv_i2l hx hb dX13_draw_29 rfl ?_
  refine lv_topl (fun y2 ey2 => ?_)
  have hf := nm_at ey2 hf
  obtain ⟨h3, hf⟩ := ck_elim hf
  refine lv_lrem hx hb dX13_draw_30 (of_decide_eq_true h3) ?_
  refine lv_l2i hx hb dX13_draw_31 rfl ?_
  cases hf
  exact W.iret hx hb hr (b_ret0 hW (keep_s2 hc0 hc) _) hW.2.2.2 dX13_draw_32 hlk
noncomputable def f_X13_draw (fu : Nat) (v : GV) (x1 : Int32) : Option (Int32 × GV) := f_X13_draw_0 fu v x1
set_option maxHeartbeats 4000000 in
set_option maxRecDepth 100000 in
theorem c_X13_draw (l : Launch) (G : GG) (fu : Nat) (S : ST) (a : Nat) (v : GV) (x1 : Int32) {z : Int32} {w : GV} (hc : gC v = 12) (hf : f_X13_draw fu v x1 = some (z, w)) : Ct l yX13_draw w_X13_draw RM_X13_draw G (st S a v) [.ref a, .int x1] (some (.int z)) (st S a w) 0 0 := by
  refine Met.ofW (cc := cX13_draw) (maxL := 2) (ret := (some .int)) (by decide) rfl ?_
  intro p e s m args below meth c s₁ B hml hv
  obtain ⟨rfl, hB, hK, hz⟩ := hv
  have hM : MC G p s m _ c cX13_draw w_X13_draw RX13 := ⟨B.exec, B.bytes, findClass_of_methodNamed B.named, atoms_spec (ws := w_X13_draw) B.pre, hK, hz⟩
  have hW : WB G (st S a v) s s.heap [] := ⟨hB, va_S.rf⟩
  have hl := lv_entry ([.ref a, .int x1]) (n := 2) (Nat.le_of_ble_eq_true rfl)
  rw [lg_entry_eq]
  generalize (lg_sl ([.ref a, .int x1]) ++ List.replicate (2 - (lg_sl ([.ref a, .int x1])).length) Slot.unset).toArray = ls at hl ⊢
  have hl : lv_has ls 2 [(0, .ref a), (1, .int x1)] := hl
  exact t_X13_draw_0 hM hml B.returns B.notSynchronized hc hf hc _ _ hW _ (lv_sub hl [0, 1] rfl)
abbrev w_X13_drawsNight : List Cond := Cond.code yX13_drawsNight cX13_drawsNight 7 (some .boolean) :: wsL_law0
abbrev RM_X13_drawsNight : Room := { frames := 4, cells := 0, slots := 0, locals := 94 }
noncomputable def f_X13_drawsNight_187 (fu : Nat)  (v : GV) : Option (Int32 × GV) :=
  some ((0 : Int32), v)
set_option maxHeartbeats 4000000 in
set_option maxRecDepth 100000 in
theorem t_X13_drawsNight_187 {G : GG} {p : Program} {l : Launch} {e : Env} {s : State} {m : MethodId} {args : Array Value} {below : List Frame} {meth : Method} {c : Code} {S : ST} {fu : Nat} {z : Int32 × GV} {a : Nat} {v0 : GV}  {v : GV} (hM : MC G p s m args c cX13_drawsNight w_X13_drawsNight RX13) (hml : c.maxLocals = 7) (hr : meth.sig.returnType = (some .boolean)) (hlk : meth.locks = false) (hc0 : gC v0 = 12)  (hf : f_X13_drawsNight_187 fu  v  = some z) : gC v = 12 → ∀ (H : Heap) (locs : List Loc), WB G (st S a v) s H locs → ∀ (ls : Array Slot), lv_has ls 7 [] → W p l e RM_X13_drawsNight s m args below meth c H locs 0 0 (QR G below args s (some (.int z.1)) (st S a v0) (st S a z.2)) (F0 m 187 ls []) := by
  intro hc H locs hW ls hl
  have hx := hM.1
  have hb := hM.2.1
  refine lv_iconst (v := (0 : Int32)) hx hb dX13_drawsNight_187 (by decide) ?_
  cases hf
  exact W.zret (v := (0 : Int32)) hx hb hr (by decide) (b_ret0 hW (keep_s2 hc0 hc) _) hW.2.2.2 dX13_drawsNight_188 hlk
noncomputable def f_X13_drawsNight_156 (fu : Nat)  (v : GV) (x1 : Int32) (x2 : Int32) (x4 : Int32) : Option (Int32 × GV) :=
  if x2 ≤ (1 : Int32) then
    (f_X13_drawsNight_187 fu v)
  else
    (bd (f_X13_maySteal fu v (1452 : Int32) x1 x4) fun r2 =>
    if r2 = 0 then
      (f_X13_drawsNight_187 fu v)
    else
      (bd2 (f_X13_steals fu v (1452 : Int32) x1 x4) fun r4 v5 =>
      some ((1 : Int32), v5)))
set_option maxHeartbeats 4000000 in
set_option maxRecDepth 100000 in
theorem t_X13_drawsNight_156 {G : GG} {p : Program} {l : Launch} {e : Env} {s : State} {m : MethodId} {args : Array Value} {below : List Frame} {meth : Method} {c : Code} {S : ST} {fu : Nat} {z : Int32 × GV} {a : Nat} {v0 : GV}  {v : GV} {x1 : Int32} {x2 : Int32} {x4 : Int32} (hM : MC G p s m args c cX13_drawsNight w_X13_drawsNight RX13) (hml : c.maxLocals = 7) (hr : meth.sig.returnType = (some .boolean)) (hlk : meth.locks = false) (hc0 : gC v0 = 12)  (hf : f_X13_drawsNight_156 fu  v x1 x2 x4 = some z) : gC v = 12 → ∀ (H : Heap) (locs : List Loc), WB G (st S a v) s H locs → ∀ (ls : Array Slot), lv_has ls 7 [(0, .ref a), (1, .int x1), (2, .int x2), (4, .int x4)] → W p l e RM_X13_drawsNight s m args below meth c H locs 0 0 (QR G below args s (some (.int z.1)) (st S a v0) (st S a z.2)) (F0 m 156 ls []) := by
  intro hc H locs hW ls hl
  have hx := hM.1
  have hb := hM.2.1
  refine lv_iload_n hx hb dX13_drawsNight_156 rfl (lv_at hl 2 rfl) ?_
  refine lv_iconst (v := (1 : Int32)) hx hb dX13_drawsNight_157 (by decide) ?_
  refine lv_icmp_le (tgt := 187) hx hb dX13_drawsNight_158 (by decide) (fun c1 => ?_) (fun c1 => ?_)
  · have hf := if_t c1 hf
    exact t_X13_drawsNight_187 (fu := fu) hM hml hr hlk hc0 hf hc _ _ hW _ (lv_sub hl [] rfl)
  · have hf := if_f c1 hf
    refine lv_aload_n hx hb dX13_drawsNight_161 rfl (lv_at hl 0 rfl) ?_
    refine lv_sipush (v := (1452 : Int32)) hx hb dX13_drawsNight_162 (by decide) ?_
    refine lv_iload_n hx hb dX13_drawsNight_165 rfl (lv_at hl 1 rfl) ?_
    refine lv_iload hx hb dX13_drawsNight_166 (lv_at hl 3 rfl) ?_
    obtain ⟨r2, hr2, hf⟩ := bd_elim hf
    refine b_callVi [.int (1452 : Int32), .int x1, .int x4] [] hM hml hl.1 hW hc rfl (by decide) (c_X13_maySteal l G fu _ a v _ _ _ hc hr2) (cwV 3 hM.2.2.2.1 (gV mk_RX13_367 im_X13_maySteal se_X13_maySteal it_RX13 cd_X13_maySteal) rfl rfl rfl (by decide +kernel) ⟨Nat.le_of_ble_eq_true rfl, Nat.le_of_ble_eq_true rfl⟩) rfl rfl (Nat.le_of_ble_eq_true rfl) ⟨Nat.zero_le _, Nat.zero_le _⟩ dX13_drawsNight_168 (fun H locs hW hk => ?_)
    refine lv_if_eq (tgt := 187) hx hb dX13_drawsNight_171 (by decide) (fun c3 => ?_) (fun c3 => ?_)
    · have hf := if_t c3 hf
      exact t_X13_drawsNight_187 (fu := fu) hM hml hr hlk hc0 hf hc _ _ hW _ (lv_sub hl [] rfl)
    · have hf := if_f c3 hf
      refine lv_aload_n hx hb dX13_drawsNight_174 rfl (lv_at hl 0 rfl) ?_
      refine lv_sipush (v := (1452 : Int32)) hx hb dX13_drawsNight_175 (by decide) ?_
      refine lv_iload_n hx hb dX13_drawsNight_178 rfl (lv_at hl 1 rfl) ?_
      refine lv_iload hx hb dX13_drawsNight_179 (lv_at hl 3 rfl) ?_
      obtain ⟨r4, v5, hr4, hf⟩ := bd2_elim hf
      refine b_callVi [.int (1452 : Int32), .int x1, .int x4] [] hM hml hl.1 hW hc rfl (by decide) (c_X13_steals l G fu _ a v _ _ _ hc hr4) (cwV 3 hM.2.2.2.1 (gV mk_RX13_373 im_X13_steals se_X13_steals it_RX13 cd_X13_steals) rfl rfl rfl (by decide +kernel) ⟨Nat.le_of_ble_eq_true rfl, Nat.le_of_ble_eq_true rfl⟩) rfl rfl (Nat.le_of_ble_eq_true rfl) ⟨Nat.zero_le _, Nat.zero_le _⟩ dX13_drawsNight_181 (fun H locs hW hk => ?_)
      have hc := keep_at hc hk
      refine lv_pop hx hb dX13_drawsNight_184 rfl ?_
      refine lv_iconst (v := (1 : Int32)) hx hb dX13_drawsNight_185 (by decide) ?_
      cases hf
      exact W.zret (v := (1 : Int32)) hx hb hr (by decide) (b_ret0 hW (keep_s2 hc0 hc) _) hW.2.2.2 dX13_drawsNight_186 hlk
noncomputable def f_X13_drawsNight_127s (fu : Nat)  (k127 : Int32 → GV → Option (Int32 × GV)) (x1 : Int32) (x3 : Int32) (x5 : Int32) (v : GV) : Option (Int32 × GV) :=
  if ((x3 >>> (x5 &&& 31)) &&& (1 : Int32)) = 0 then
    (nm (x5 + (-1 : Int32)) fun y4 =>
    k127 y4 v)
  else
    (bd2 (f_X13_sells fu v (1452 : Int32) x1 x5) fun r2 v3 =>
    f_X13_drawsNight_187 fu v3)
noncomputable def f_X13_drawsNight_127 (fu n : Nat)  (x1 : Int32) (x3 : Int32) : Int32 → GV → Option (Int32 × GV) :=
  lq_2 (fun k127 => f_X13_drawsNight_127s fu  k127 x1 x3) n
set_option maxHeartbeats 4000000 in
set_option maxRecDepth 100000 in
theorem t_X13_drawsNight_127s {G : GG} {p : Program} {l : Launch} {e : Env} {s : State} {m : MethodId} {args : Array Value} {below : List Frame} {meth : Method} {c : Code} {S : ST} {fu : Nat} {z : Int32 × GV} {a : Nat} {v0 : GV}  (hM : MC G p s m args c cX13_drawsNight w_X13_drawsNight RX13) (hml : c.maxLocals = 7) (hr : meth.sig.returnType = (some .boolean)) (hlk : meth.locks = false) (hc0 : gC v0 = 12) {k127 : Int32 → GV → Option (Int32 × GV)} {x1 : Int32} {x3 : Int32}  (hk127 : ∀ (x5 : Int32) (v : GV), k127 x5 v = some z → gC v = 12 → ∀ (H : Heap) (locs : List Loc), WB G (st S a v) s H locs → ∀ (ls : Array Slot), lv_has ls 7 [(0, .ref a), (1, .int x1), (3, .int x3), (5, .int x5)] → W p l e RM_X13_drawsNight s m args below meth c H locs 0 0 (QR G below args s (some (.int z.1)) (st S a v0) (st S a z.2)) (F0 m 127 ls [])) : ∀ (x5 : Int32) (v : GV), f_X13_drawsNight_127s fu  k127 x1 x3 x5 v = some z → gC v = 12 → ∀ (H : Heap) (locs : List Loc), WB G (st S a v) s H locs → ∀ (ls : Array Slot), lv_has ls 7 [(0, .ref a), (1, .int x1), (3, .int x3), (5, .int x5)] → W p l e RM_X13_drawsNight s m args below meth c H locs 0 0 (QR G below args s (some (.int z.1)) (st S a v0) (st S a z.2)) (F0 m 127 ls []) := by
  intro x5 v hf hc H locs hW ls hl
  have hx := hM.1
  have hb := hM.2.1
  refine lv_iload_n hx hb dX13_drawsNight_127 rfl (lv_at hl 2 rfl) ?_
  refine lv_iload hx hb dX13_drawsNight_128 (lv_at hl 3 rfl) ?_
  refine lv_ishr hx hb dX13_drawsNight_130 ?_
  refine lv_iconst (v := (1 : Int32)) hx hb dX13_drawsNight_131 (by decide) ?_
  refine lv_iand hx hb dX13_drawsNight_132 ?_
  refine lv_if_ne (tgt := 142) hx hb dX13_drawsNight_133 (by decide) (fun c1 => ?_) (fun c1 => ?_)
  · have hf := if_f c1 hf
    refine lv_aload_n hx hb dX13_drawsNight_142 rfl (lv_at hl 0 rfl) ?_
    refine lv_sipush (v := (1452 : Int32)) hx hb dX13_drawsNight_143 (by decide) ?_
    refine lv_iload_n hx hb dX13_drawsNight_146 rfl (lv_at hl 1 rfl) ?_
    refine lv_iload hx hb dX13_drawsNight_147 (lv_at hl 3 rfl) ?_
    obtain ⟨r2, v3, hr2, hf⟩ := bd2_elim hf
    refine b_callVi [.int (1452 : Int32), .int x1, .int x5] [] hM hml hl.1 hW hc rfl (by decide) (c_X13_sells l G fu _ a v _ _ _ hc hr2) (cwV 3 hM.2.2.2.1 (gV mk_RX13_390 im_X13_sells se_X13_sells it_RX13 cd_X13_sells) rfl rfl rfl (by decide +kernel) ⟨Nat.le_of_ble_eq_true rfl, Nat.le_of_ble_eq_true rfl⟩) rfl rfl (Nat.le_of_ble_eq_true rfl) ⟨Nat.zero_le _, Nat.zero_le _⟩ dX13_drawsNight_149 (fun H locs hW hk => ?_)
    have hc := keep_at hc hk
    refine lv_pop hx hb dX13_drawsNight_152 rfl ?_
    refine lv_goto (tgt := 187) hx hb dX13_drawsNight_153 (by decide) ?_
    exact t_X13_drawsNight_187 (fu := fu) hM hml hr hlk hc0 hf hc _ _ hW _ (lv_sub hl [] rfl)
  · have hf := if_t c1 hf
    obtain ⟨y4, ey4⟩ : ∃ y : Int32, y = x5 + (-1 : Int32) := ⟨_, rfl⟩
    have hf := nm_at ey4 hf
    refine lv_iinc (v := y4) (lv' := [(5, .int y4), (0, .ref a), (1, .int x1), (3, .int x3)]) hx hb dX13_drawsNight_136 hl (k := 3) rfl (by rw [ey4]; rfl) (by decide) rfl (fun ls hl => ?_)
    refine lv_goto (tgt := 127) hx hb dX13_drawsNight_139 (by decide) ?_
    exact hk127 _ _ hf hc _ _ hW _ (lv_sub hl [1, 2, 3, 0] rfl)
theorem t_X13_drawsNight_127 {G : GG} {p : Program} {l : Launch} {e : Env} {s : State} {m : MethodId} {args : Array Value} {below : List Frame} {meth : Method} {c : Code} {S : ST} {fu : Nat} {z : Int32 × GV} {a : Nat} {v0 : GV}  {x1 : Int32} {x3 : Int32} (hM : MC G p s m args c cX13_drawsNight w_X13_drawsNight RX13) (hml : c.maxLocals = 7) (hr : meth.sig.returnType = (some .boolean)) (hlk : meth.locks = false) (hc0 : gC v0 = 12)  : ∀ {n : Nat} (x5 : Int32) (v : GV), f_X13_drawsNight_127 fu n  x1 x3 x5 v = some z → gC v = 12 → ∀ (H : Heap) (locs : List Loc), WB G (st S a v) s H locs → ∀ (ls : Array Slot), lv_has ls 7 [(0, .ref a), (1, .int x1), (3, .int x3), (5, .int x5)] → W p l e RM_X13_drawsNight s m args below meth c H locs 0 0 (QR G below args s (some (.int z.1)) (st S a v0) (st S a z.2)) (F0 m 127 ls []) := by
  intro n
  induction n with
  | zero => intro x5 v hf; cases hf
  | succ n ih => intro x5 v hf; exact t_X13_drawsNight_127s (fu := fu) hM hml hr hlk hc0  (k127 := f_X13_drawsNight_127 fu n  x1 x3) ih _ _ hf
noncomputable def f_X13_drawsNight_114 (fu : Nat)  (v : GV) (x1 : Int32) (x2 : Int32) (x3 : Int32) (x4 : Int32) : Option (Int32 × GV) :=
  if x2 = (1 : Int32) then
    (if x3 = 0 then
      (f_X13_drawsNight_156 fu v x1 x2 x4)
    else
      (f_X13_drawsNight_127 fu fu x1 x3 (7 : Int32) v))
  else
    (f_X13_drawsNight_156 fu v x1 x2 x4)
set_option maxHeartbeats 4000000 in
set_option maxRecDepth 100000 in
theorem t_X13_drawsNight_114 {G : GG} {p : Program} {l : Launch} {e : Env} {s : State} {m : MethodId} {args : Array Value} {below : List Frame} {meth : Method} {c : Code} {S : ST} {fu : Nat} {z : Int32 × GV} {a : Nat} {v0 : GV}  {v : GV} {x1 : Int32} {x2 : Int32} {x3 : Int32} {x4 : Int32} (hM : MC G p s m args c cX13_drawsNight w_X13_drawsNight RX13) (hml : c.maxLocals = 7) (hr : meth.sig.returnType = (some .boolean)) (hlk : meth.locks = false) (hc0 : gC v0 = 12)  (hf : f_X13_drawsNight_114 fu  v x1 x2 x3 x4 = some z) : gC v = 12 → ∀ (H : Heap) (locs : List Loc), WB G (st S a v) s H locs → ∀ (ls : Array Slot), lv_has ls 7 [(0, .ref a), (1, .int x1), (2, .int x2), (3, .int x3), (4, .int x4)] → W p l e RM_X13_drawsNight s m args below meth c H locs 0 0 (QR G below args s (some (.int z.1)) (st S a v0) (st S a z.2)) (F0 m 114 ls []) := by
  intro hc H locs hW ls hl
  have hx := hM.1
  have hb := hM.2.1
  refine lv_iload_n hx hb dX13_drawsNight_114 rfl (lv_at hl 2 rfl) ?_
  refine lv_iconst (v := (1 : Int32)) hx hb dX13_drawsNight_115 (by decide) ?_
  refine lv_icmp_ne (tgt := 156) hx hb dX13_drawsNight_116 (by decide) (fun c1 => ?_) (fun c1 => ?_)
  · have hf := if_f c1 hf
    exact t_X13_drawsNight_156 (fu := fu) hM hml hr hlk hc0 hf hc _ _ hW _ (lv_sub hl [0, 1, 2, 4] rfl)
  · have hf := if_t c1 hf
    refine lv_iload_n hx hb dX13_drawsNight_119 rfl (lv_at hl 3 rfl) ?_
    refine lv_if_eq (tgt := 156) hx hb dX13_drawsNight_120 (by decide) (fun c2 => ?_) (fun c2 => ?_)
    · have hf := if_t c2 hf
      exact t_X13_drawsNight_156 (fu := fu) hM hml hr hlk hc0 hf hc _ _ hW _ (lv_sub hl [0, 1, 2, 4] rfl)
    · have hf := if_f c2 hf
      refine lv_bipush (v := (7 : Int32)) hx hb dX13_drawsNight_123 (by decide) ?_
      refine lv_istore (lv' := [(5, .int (7 : Int32)), (0, .ref a), (1, .int x1), (2, .int x2), (3, .int x3), (4, .int x4)]) hx hb dX13_drawsNight_125 hl (by decide) rfl (fun ls hl => ?_)
      exact t_X13_drawsNight_127 (fu := fu) hM hml hr hlk hc0 _ _ hf hc _ _ hW _ (lv_sub hl [1, 2, 4, 0] rfl)
noncomputable def f_X13_drawsNight_111 (fu : Nat)  (v : GV) : Option (Int32 × GV) :=
  f_X13_drawsNight_187 fu v
set_option maxHeartbeats 4000000 in
set_option maxRecDepth 100000 in
theorem t_X13_drawsNight_111 {G : GG} {p : Program} {l : Launch} {e : Env} {s : State} {m : MethodId} {args : Array Value} {below : List Frame} {meth : Method} {c : Code} {S : ST} {fu : Nat} {z : Int32 × GV} {a : Nat} {v0 : GV}  {v : GV} (hM : MC G p s m args c cX13_drawsNight w_X13_drawsNight RX13) (hml : c.maxLocals = 7) (hr : meth.sig.returnType = (some .boolean)) (hlk : meth.locks = false) (hc0 : gC v0 = 12)  (hf : f_X13_drawsNight_111 fu  v  = some z) : gC v = 12 → ∀ (H : Heap) (locs : List Loc), WB G (st S a v) s H locs → ∀ (ls : Array Slot), lv_has ls 7 [] → W p l e RM_X13_drawsNight s m args below meth c H locs 0 0 (QR G below args s (some (.int z.1)) (st S a v0) (st S a z.2)) (F0 m 111 ls []) := by
  intro hc H locs hW ls hl
  have hx := hM.1
  have hb := hM.2.1
  refine lv_goto (tgt := 187) hx hb dX13_drawsNight_111 (by decide) ?_
  exact t_X13_drawsNight_187 (fu := fu) hM hml hr hlk hc0 hf hc _ _ hW _ (lv_sub hl [] rfl)
noncomputable def f_X13_drawsNight_81 (fu : Nat)  (v : GV) (x1 : Int32) (x5 : Int32) (t0 : Int32) : Option (Int32 × GV) :=
  bd2 (f_X13_mayPaint fu v (1452 : Int32) x1 t0 x5) fun r1 v2 =>
  if r1 = 0 then
    (f_X13_drawsNight_111 fu v2)
  else
    (bd2 (f_X13_paints fu v2 (1452 : Int32) x1 t0 x5) fun r4 v5 =>
    f_X13_drawsNight_111 fu v5)
set_option maxHeartbeats 4000000 in
set_option maxRecDepth 100000 in
theorem t_X13_drawsNight_81 {G : GG} {p : Program} {l : Launch} {e : Env} {s : State} {m : MethodId} {args : Array Value} {below : List Frame} {meth : Method} {c : Code} {S : ST} {fu : Nat} {z : Int32 × GV} {a : Nat} {v0 : GV}  {v : GV} {x1 : Int32} {x5 : Int32} {t0 : Int32} (hM : MC G p s m args c cX13_drawsNight w_X13_drawsNight RX13) (hml : c.maxLocals = 7) (hr : meth.sig.returnType = (some .boolean)) (hlk : meth.locks = false) (hc0 : gC v0 = 12)  (hf : f_X13_drawsNight_81 fu  v x1 x5 t0 = some z) : gC v = 12 → ∀ (H : Heap) (locs : List Loc), WB G (st S a v) s H locs → ∀ (ls : Array Slot), lv_has ls 7 [(0, .ref a), (1, .int x1), (5, .int x5)] → W p l e RM_X13_drawsNight s m args below meth c H locs 0 0 (QR G below args s (some (.int z.1)) (st S a v0) (st S a z.2)) (F0 m 81 ls [.int t0]) := by
  intro hc H locs hW ls hl
  have hx := hM.1
  have hb := hM.2.1
  refine lv_istore (lv' := [(6, .int t0), (0, .ref a), (1, .int x1), (5, .int x5)]) hx hb dX13_drawsNight_81 hl (by decide) rfl (fun ls hl => ?_)
  refine lv_aload_n hx hb dX13_drawsNight_83 rfl (lv_at hl 1 rfl) ?_
  refine lv_sipush (v := (1452 : Int32)) hx hb dX13_drawsNight_84 (by decide) ?_
  refine lv_iload_n hx hb dX13_drawsNight_87 rfl (lv_at hl 2 rfl) ?_
  refine lv_iload hx hb dX13_drawsNight_88 (lv_at hl 0 rfl) ?_
  refine lv_iload hx hb dX13_drawsNight_90 (lv_at hl 3 rfl) ?_
  obtain ⟨r1, v2, hr1, hf⟩ := bd2_elim hf
  refine b_callVi [.int (1452 : Int32), .int x1, .int t0, .int x5] [] hM hml hl.1 hW hc rfl (by decide) (c_X13_mayPaint l G fu _ a v _ _ _ _ hc hr1) (cwV 4 hM.2.2.2.1 (gV mk_RX13_382 im_X13_mayPaint se_X13_mayPaint it_RX13 cd_X13_mayPaint) rfl rfl rfl (by decide +kernel) ⟨Nat.le_of_ble_eq_true rfl, Nat.le_of_ble_eq_true rfl⟩) rfl rfl (Nat.le_of_ble_eq_true rfl) ⟨Nat.zero_le _, Nat.zero_le _⟩ dX13_drawsNight_92 (fun H locs hW hk => ?_)
  have hc := keep_at hc hk
  refine lv_if_eq (tgt := 111) hx hb dX13_drawsNight_95 (by decide) (fun c3 => ?_) (fun c3 => ?_)
  · have hf := if_t c3 hf
    exact t_X13_drawsNight_111 (fu := fu) hM hml hr hlk hc0 hf hc _ _ hW _ (lv_sub hl [] rfl)
  · have hf := if_f c3 hf
    refine lv_aload_n hx hb dX13_drawsNight_98 rfl (lv_at hl 1 rfl) ?_
    refine lv_sipush (v := (1452 : Int32)) hx hb dX13_drawsNight_99 (by decide) ?_
    refine lv_iload_n hx hb dX13_drawsNight_102 rfl (lv_at hl 2 rfl) ?_
    refine lv_iload hx hb dX13_drawsNight_103 (lv_at hl 0 rfl) ?_
    refine lv_iload hx hb dX13_drawsNight_105 (lv_at hl 3 rfl) ?_
    obtain ⟨r4, v5, hr4, hf⟩ := bd2_elim hf
    refine b_callVi [.int (1452 : Int32), .int x1, .int t0, .int x5] [] hM hml hl.1 hW hc rfl (by decide) (c_X13_paints l G fu _ a v2 _ _ _ _ hc hr4) (cwV 4 hM.2.2.2.1 (gV mk_RX13_386 im_X13_paints se_X13_paints it_RX13 cd_X13_paints) rfl rfl rfl (by decide +kernel) ⟨Nat.le_of_ble_eq_true rfl, Nat.le_of_ble_eq_true rfl⟩) rfl rfl (Nat.le_of_ble_eq_true rfl) ⟨Nat.zero_le _, Nat.zero_le _⟩ dX13_drawsNight_107 (fun H locs hW hk => ?_)
    have hc := keep_at hc hk
    refine lv_pop hx hb dX13_drawsNight_110 rfl ?_
    exact t_X13_drawsNight_111 (fu := fu) hM hml hr hlk hc0 hf hc _ _ hW _ (lv_sub hl [] rfl)
noncomputable def f_X13_drawsNight_36 (fu : Nat)  (v : GV) (x1 : Int32) (x2 : Int32) (x3 : Int32) (t0 : Int32) : Option (Int32 × GV) :=
  if x2 = 0 then
    (bd (f_X13_spots fu v) fun r2 =>
    if r2 ≤ 0 then
      (f_X13_drawsNight_114 fu v x1 x2 x3 t0)
    else
      (bd (f_X13_spots fu v) fun r4 =>
      bd2 (f_X13_draw fu v r4) fun r5 v6 =>
      bd (f_X13_thiefOf fu v6 x1 (0 : Int32)) fun r7 =>
      if r7 = (3 : Int32) then
        (bd (f_X13_hanging fu v6 (1452 : Int32)) fun r9 =>
        f_X13_drawsNight_81 fu v6 x1 r5 r9)
      else
        (f_X13_drawsNight_81 fu v6 x1 r5 t0)))
  else
    (f_X13_drawsNight_114 fu v x1 x2 x3 t0)
set_option maxHeartbeats 4000000 in
set_option maxRecDepth 100000 in
theorem t_X13_drawsNight_36 {G : GG} {p : Program} {l : Launch} {e : Env} {s : State} {m : MethodId} {args : Array Value} {below : List Frame} {meth : Method} {c : Code} {S : ST} {fu : Nat} {z : Int32 × GV} {a : Nat} {v0 : GV}  {v : GV} {x1 : Int32} {x2 : Int32} {x3 : Int32} {t0 : Int32} (hM : MC G p s m args c cX13_drawsNight w_X13_drawsNight RX13) (hml : c.maxLocals = 7) (hr : meth.sig.returnType = (some .boolean)) (hlk : meth.locks = false) (hc0 : gC v0 = 12)  (hf : f_X13_drawsNight_36 fu  v x1 x2 x3 t0 = some z) : gC v = 12 → ∀ (H : Heap) (locs : List Loc), WB G (st S a v) s H locs → ∀ (ls : Array Slot), lv_has ls 7 [(0, .ref a), (1, .int x1), (2, .int x2), (3, .int x3)] → W p l e RM_X13_drawsNight s m args below meth c H locs 0 0 (QR G below args s (some (.int z.1)) (st S a v0) (st S a z.2)) (F0 m 36 ls [.int t0]) := by
  intro hc H locs hW ls hl
  have hx := hM.1
  have hb := hM.2.1
  refine lv_istore (lv' := [(4, .int t0), (0, .ref a), (1, .int x1), (2, .int x2), (3, .int x3)]) hx hb dX13_drawsNight_36 hl (by decide) rfl (fun ls hl => ?_)
  refine lv_iload_n hx hb dX13_drawsNight_38 rfl (lv_at hl 3 rfl) ?_
  refine lv_if_ne (tgt := 114) hx hb dX13_drawsNight_39 (by decide) (fun c1 => ?_) (fun c1 => ?_)
  · have hf := if_f c1 hf
    exact t_X13_drawsNight_114 (fu := fu) hM hml hr hlk hc0 hf hc _ _ hW _ (lv_sub hl [1, 2, 3, 4, 0] rfl)
  · have hf := if_t c1 hf
    refine lv_aload_n hx hb dX13_drawsNight_42 rfl (lv_at hl 1 rfl) ?_
    obtain ⟨r2, hr2, hf⟩ := bd_elim hf
    refine b_callVi [] [] hM hml hl.1 hW hc rfl (by decide) (c_X13_spots l G fu _ a v hc hr2) (cwV 0 hM.2.2.2.1 (gV mk_RX13_336 im_X13_spots se_X13_spots it_RX13 cd_X13_spots) rfl rfl rfl (by decide +kernel) ⟨Nat.le_of_ble_eq_true rfl, Nat.le_of_ble_eq_true rfl⟩) rfl rfl (Nat.le_of_ble_eq_true rfl) ⟨Nat.zero_le _, Nat.zero_le _⟩ dX13_drawsNight_43 (fun H locs hW hk => ?_)
    refine lv_if_le (tgt := 114) hx hb dX13_drawsNight_46 (by decide) (fun c3 => ?_) (fun c3 => ?_)
    · have hf := if_t c3 hf
      exact t_X13_drawsNight_114 (fu := fu) hM hml hr hlk hc0 hf hc _ _ hW _ (lv_sub hl [1, 2, 3, 4, 0] rfl)
    · have hf := if_f c3 hf
      refine lv_aload_n hx hb dX13_drawsNight_49 rfl (lv_at hl 1 rfl) ?_
      refine lv_aload_n hx hb dX13_drawsNight_50 rfl (lv_at hl 1 rfl) ?_
      obtain ⟨r4, hr4, hf⟩ := bd_elim hf
      refine b_callVi [] [.ref a] hM hml hl.1 hW hc rfl (by decide) (c_X13_spots l G fu _ a v hc hr4) (cwV 0 hM.2.2.2.1 (gV mk_RX13_336 im_X13_spots se_X13_spots it_RX13 cd_X13_spots) rfl rfl rfl (by decide +kernel) ⟨Nat.le_of_ble_eq_true rfl, Nat.le_of_ble_eq_true rfl⟩) rfl rfl (Nat.le_of_ble_eq_true rfl) ⟨Nat.zero_le _, Nat.zero_le _⟩ dX13_drawsNight_51 (fun H locs hW hk => ?_)
      obtain ⟨r5, v6, hr5, hf⟩ := bd2_elim hf
      refine b_callVi [.int r4] [] hM hml hl.1 hW hc rfl (by decide) (c_X13_draw l G fu _ a v _ hc hr5) (cwV 1 hM.2.2.2.1 (gV mk_RX13_472 im_X13_draw se_X13_draw it_RX13 cd_X13_draw) rfl rfl rfl (by decide +kernel) ⟨Nat.le_of_ble_eq_true rfl, Nat.le_of_ble_eq_true rfl⟩) rfl rfl (Nat.le_of_ble_eq_true rfl) ⟨Nat.zero_le _, Nat.zero_le _⟩ dX13_drawsNight_54 (fun H locs hW hk => ?_)
      have hc := keep_at hc hk
      refine lv_istore (lv' := [(5, .int r5), (4, .int t0), (0, .ref a), (1, .int x1), (2, .int x2), (3, .int x3)]) hx hb dX13_drawsNight_57 hl (by decide) rfl (fun ls hl => ?_)
      refine lv_aload_n hx hb dX13_drawsNight_59 rfl (lv_at hl 2 rfl) ?_
      refine lv_iload_n hx hb dX13_drawsNight_60 rfl (lv_at hl 3 rfl) ?_
      refine lv_iconst (v := (0 : Int32)) hx hb dX13_drawsNight_61 (by decide) ?_
      obtain ⟨r7, hr7, hf⟩ := bd_elim hf
      refine b_callVi [.int x1, .int (0 : Int32)] [] hM hml hl.1 hW hc rfl (by decide) (c_X13_thiefOf l G fu _ a v6 _ _ hc hr7) (cwV 2 hM.2.2.2.1 (gV mk_RX13_323 im_X13_thiefOf se_X13_thiefOf it_RX13 cd_X13_thiefOf) rfl rfl rfl (by decide +kernel) ⟨Nat.le_of_ble_eq_true rfl, Nat.le_of_ble_eq_true rfl⟩) rfl rfl (Nat.le_of_ble_eq_true rfl) ⟨Nat.zero_le _, Nat.zero_le _⟩ dX13_drawsNight_62 (fun H locs hW hk => ?_)
      refine lv_iconst (v := (3 : Int32)) hx hb dX13_drawsNight_65 (by decide) ?_
      refine lv_icmp_ne (tgt := 79) hx hb dX13_drawsNight_66 (by decide) (fun c8 => ?_) (fun c8 => ?_)
      · have hf := if_f c8 hf
        refine lv_iload hx hb dX13_drawsNight_79 (lv_at hl 1 rfl) ?_
        exact t_X13_drawsNight_81 (fu := fu) hM hml hr hlk hc0 hf hc _ _ hW _ (lv_sub hl [2, 3, 0] rfl)
      · have hf := if_t c8 hf
        refine lv_aload_n hx hb dX13_drawsNight_69 rfl (lv_at hl 2 rfl) ?_
        refine lv_sipush (v := (1452 : Int32)) hx hb dX13_drawsNight_70 (by decide) ?_
        obtain ⟨r9, hr9, hf⟩ := bd_elim hf
        refine b_callVi [.int (1452 : Int32)] [] hM hml hl.1 hW hc rfl (by decide) (c_X13_hanging l G fu _ a v6 _ hc hr9) (cwV 1 hM.2.2.2.1 (gV mk_RX13_364 im_X13_hanging se_X13_hanging it_RX13 cd_X13_hanging) rfl rfl rfl (by decide +kernel) ⟨Nat.le_of_ble_eq_true rfl, Nat.le_of_ble_eq_true rfl⟩) rfl rfl (Nat.le_of_ble_eq_true rfl) ⟨Nat.zero_le _, Nat.zero_le _⟩ dX13_drawsNight_73 (fun H locs hW hk => ?_)
        refine lv_goto (tgt := 81) hx hb dX13_drawsNight_76 (by decide) ?_
        exact t_X13_drawsNight_81 (fu := fu) hM hml hr hlk hc0 hf hc _ _ hW _ (lv_sub hl [2, 3, 0] rfl)
noncomputable def f_X13_drawsNight_0 (fu : Nat)  (v : GV) : Option (Int32 × GV) :=
  bd (f_X13_thieves fu v) fun r1 =>
  bd2 (f_X13_draw fu v r1) fun r2 v3 =>
  bd2 (f_X13_draw fu v3 (4 : Int32)) fun r4 v5 =>
  bd (f_X13_hasOf fu v5 (1452 : Int32) r2) fun r6 =>
  if r6 = 0 then
    (f_X13_drawsNight_36 fu v5 r2 r4 r6 (-1 : Int32))
  else
    (bd (f_X13_firstOf fu r6) fun r8 =>
    f_X13_drawsNight_36 fu v5 r2 r4 r6 r8)
set_option maxHeartbeats 4000000 in
set_option maxRecDepth 100000 in
theorem t_X13_drawsNight_0 {G : GG} {p : Program} {l : Launch} {e : Env} {s : State} {m : MethodId} {args : Array Value} {below : List Frame} {meth : Method} {c : Code} {S : ST} {fu : Nat} {z : Int32 × GV} {a : Nat} {v0 : GV}  {v : GV} (hM : MC G p s m args c cX13_drawsNight w_X13_drawsNight RX13) (hml : c.maxLocals = 7) (hr : meth.sig.returnType = (some .boolean)) (hlk : meth.locks = false) (hc0 : gC v0 = 12)  (hf : f_X13_drawsNight_0 fu  v  = some z) : gC v = 12 → ∀ (H : Heap) (locs : List Loc), WB G (st S a v) s H locs → ∀ (ls : Array Slot), lv_has ls 7 [(0, .ref a)] → W p l e RM_X13_drawsNight s m args below meth c H locs 0 0 (QR G below args s (some (.int z.1)) (st S a v0) (st S a z.2)) (F0 m 0 ls []) := by
  intro hc H locs hW ls hl
  have hx := hM.1
  have hb := hM.2.1
  refine lv_aload_n hx hb dX13_drawsNight_0 rfl (lv_at hl 0 rfl) ?_
  refine lv_aload_n hx hb dX13_drawsNight_1 rfl (lv_at hl 0 rfl) ?_
  obtain ⟨r1, hr1, hf⟩ := bd_elim hf
  refine b_callVi [] [.ref a] hM hml hl.1 hW hc rfl (by decide) (c_X13_thieves l G fu _ a v hc hr1) (cwV 0 hM.2.2.2.1 (gV mk_RX13_320 im_X13_thieves se_X13_thieves it_RX13 cd_X13_thieves) rfl rfl rfl (by decide +kernel) ⟨Nat.le_of_ble_eq_true rfl, Nat.le_of_ble_eq_true rfl⟩) rfl rfl (Nat.le_of_ble_eq_true rfl) ⟨Nat.zero_le _, Nat.zero_le _⟩ dX13_drawsNight_2 (fun H locs hW hk => ?_)
  obtain ⟨r2, v3, hr2, hf⟩ := bd2_elim hf
  refine b_callVi [.int r1] [] hM hml hl.1 hW hc rfl (by decide) (c_X13_draw l G fu _ a v _ hc hr2) (cwV 1 hM.2.2.2.1 (gV mk_RX13_472 im_X13_draw se_X13_draw it_RX13 cd_X13_draw) rfl rfl rfl (by decide +kernel) ⟨Nat.le_of_ble_eq_true rfl, Nat.le_of_ble_eq_true rfl⟩) rfl rfl (Nat.le_of_ble_eq_true rfl) ⟨Nat.zero_le _, Nat.zero_le _⟩ dX13_drawsNight_5 (fun H locs hW hk => ?_)
  have hc := keep_at hc hk
  refine lv_istore_n (lv' := [(1, .int r2), (0, .ref a)]) hx hb dX13_drawsNight_8 rfl hl (by decide) rfl (fun ls hl => ?_)
  refine lv_aload_n hx hb dX13_drawsNight_9 rfl (lv_at hl 1 rfl) ?_
  refine lv_iconst (v := (4 : Int32)) hx hb dX13_drawsNight_10 (by decide) ?_
  obtain ⟨r4, v5, hr4, hf⟩ := bd2_elim hf
  refine b_callVi [.int (4 : Int32)] [] hM hml hl.1 hW hc rfl (by decide) (c_X13_draw l G fu _ a v3 _ hc hr4) (cwV 1 hM.2.2.2.1 (gV mk_RX13_472 im_X13_draw se_X13_draw it_RX13 cd_X13_draw) rfl rfl rfl (by decide +kernel) ⟨Nat.le_of_ble_eq_true rfl, Nat.le_of_ble_eq_true rfl⟩) rfl rfl (Nat.le_of_ble_eq_true rfl) ⟨Nat.zero_le _, Nat.zero_le _⟩ dX13_drawsNight_11 (fun H locs hW hk => ?_)
  have hc := keep_at hc hk
  refine lv_istore_n (lv' := [(2, .int r4), (1, .int r2), (0, .ref a)]) hx hb dX13_drawsNight_14 rfl hl (by decide) rfl (fun ls hl => ?_)
  refine lv_aload_n hx hb dX13_drawsNight_15 rfl (lv_at hl 2 rfl) ?_
  refine lv_sipush (v := (1452 : Int32)) hx hb dX13_drawsNight_16 (by decide) ?_
  refine lv_iload_n hx hb dX13_drawsNight_19 rfl (lv_at hl 1 rfl) ?_
  obtain ⟨r6, hr6, hf⟩ := bd_elim hf
  refine b_callVi [.int (1452 : Int32), .int r2] [] hM hml hl.1 hW hc rfl (by decide) (c_X13_hasOf l G fu _ a v5 _ _ hc hr6) (cwV 2 hM.2.2.2.1 (gV mk_RX13_358 im_X13_hasOf se_X13_hasOf it_RX13 cd_X13_hasOf) rfl rfl rfl (by decide +kernel) ⟨Nat.le_of_ble_eq_true rfl, Nat.le_of_ble_eq_true rfl⟩) rfl rfl (Nat.le_of_ble_eq_true rfl) ⟨Nat.zero_le _, Nat.zero_le _⟩ dX13_drawsNight_20 (fun H locs hW hk => ?_)
  refine lv_istore_n (lv' := [(3, .int r6), (2, .int r4), (1, .int r2), (0, .ref a)]) hx hb dX13_drawsNight_23 rfl hl (by decide) rfl (fun ls hl => ?_)
  refine lv_iload_n hx hb dX13_drawsNight_24 rfl (lv_at hl 0 rfl) ?_
  refine lv_if_ne (tgt := 32) hx hb dX13_drawsNight_25 (by decide) (fun c7 => ?_) (fun c7 => ?_)
  · have hf := if_f c7 hf
    refine lv_iload_n hx hb dX13_drawsNight_32 rfl (lv_at hl 0 rfl) ?_
    obtain ⟨r8, hr8, hf⟩ := bd_elim hf
    refine b_callSi [.int r6] [] hM hml hl.1 hW (c_X13_firstOf l G fu _ _ hr8) (va_cwS 1 hM.2.2.2.1 (gS mk_RX13_283 sm_X13_firstOf it_RX13 cd_X13_firstOf) rfl rfl rfl (by decide +kernel) ⟨Nat.le_of_ble_eq_true rfl, Nat.le_of_ble_eq_true rfl⟩) rfl rfl (Nat.le_of_ble_eq_true rfl) ⟨Nat.zero_le _, Nat.zero_le _⟩ dX13_drawsNight_33 (fun H locs hW hk => ?_)
    exact t_X13_drawsNight_36 (fu := fu) hM hml hr hlk hc0 hf hc _ _ hW _ (lv_sub hl [3, 2, 1, 0] rfl)
  · have hf := if_t c7 hf
    refine lv_iconst (v := (-1 : Int32)) hx hb dX13_drawsNight_28 (by decide) ?_
    refine lv_goto (tgt := 36) hx hb dX13_drawsNight_29 (by decide) ?_
    exact t_X13_drawsNight_36 (fu := fu) hM hml hr hlk hc0 hf hc _ _ hW _ (lv_sub hl [3, 2, 1, 0] rfl)
noncomputable def f_X13_drawsNight (fu : Nat) (v : GV) : Option (Int32 × GV) := f_X13_drawsNight_0 fu v
set_option maxHeartbeats 4000000 in
set_option maxRecDepth 100000 in
theorem c_X13_drawsNight (l : Launch) (G : GG) (fu : Nat) (S : ST) (a : Nat) (v : GV) {z : Int32} {w : GV} (hc : gC v = 12) (hf : f_X13_drawsNight fu v = some (z, w)) : Ct l yX13_drawsNight w_X13_drawsNight RM_X13_drawsNight G (st S a v) [.ref a] (some (.int z)) (st S a w) 0 0 := by
  refine Met.ofW (cc := cX13_drawsNight) (maxL := 7) (ret := (some .boolean)) (by decide) rfl ?_
  intro p e s m args below meth c s₁ B hml hv
  obtain ⟨rfl, hB, hK, hz⟩ := hv
  have hM : MC G p s m _ c cX13_drawsNight w_X13_drawsNight RX13 := ⟨B.exec, B.bytes, findClass_of_methodNamed B.named, atoms_spec (ws := w_X13_drawsNight) B.pre, hK, hz⟩
  have hW : WB G (st S a v) s s.heap [] := ⟨hB, va_S.rf⟩
  have hl := lv_entry ([.ref a]) (n := 7) (Nat.le_of_ble_eq_true rfl)
  rw [lg_entry_eq]
  generalize (lg_sl ([.ref a]) ++ List.replicate (7 - (lg_sl ([.ref a])).length) Slot.unset).toArray = ls at hl ⊢
  have hl : lv_has ls 7 [(0, .ref a)] := hl
  exact t_X13_drawsNight_0 hM hml B.returns B.notSynchronized hc hf hc _ _ hW _ (lv_sub hl [0] rfl)
