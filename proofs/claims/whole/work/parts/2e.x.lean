abbrev RM_X4_value : Room := { frames := 1, cells := 0, slots := 0, locals := 23 }
abbrev w_X4_value : List Cond := Cond.code yX4_value cX4_value 7 (some .int) :: wsL_law0
noncomputable def f_X4_value_148 (fu : Nat) (k6 : Int32 → Int32 → GV → Option (Int32 × GV)) (v : GV) (x1 : Int32) (x2 : Int32) (x3 : Int32) (x4 : Int32) (x5 : Int32) : Option (Int32 × GV) :=
  nm (x5 + (1 : Int32)) fun y1 =>
  k6 x4 y1 v
set_option maxHeartbeats 4000000 in
set_option maxRecDepth 100000 in
theorem t_X4_value_148 {G : GG} {p : Program} {l : Launch} {e : Env} {s : State} {m : MethodId} {args : Array Value} {below : List Frame} {meth : Method} {c : Code} {S : ST} {fu : Nat} {z : Int32 × GV} {a : Nat} {v0 : GV} {k6 : Int32 → Int32 → GV → Option (Int32 × GV)} {v : GV} {x1 : Int32} {x2 : Int32} {x3 : Int32} {x4 : Int32} {x5 : Int32} (hM : MC G p s m args c cX4_value w_X4_value RX4) (hml : c.maxLocals = 7) (hr : meth.sig.returnType = (some .int)) (hlk : meth.locks = false) (hc0 : gC v0 = 4) (hk6 : ∀ (x4 : Int32) (x5 : Int32) (v : GV), k6 x4 x5 v = some z → (gC v = 4) → ∀ (H : Heap) (locs : List Loc), WB G (st S a v) s H locs → ∀ (ls : Array Slot), lv_has ls 7 [(0, .ref a), (1, .int x1), (2, .int x2), (3, .int x3), (4, .int x4), (5, .int x5)] → W p l e RM_X4_value s m args below meth c H locs 0 0 (QR G below args s (some (.int z.1)) (st S a v0) (st S a z.2)) (F0 m 6 ls [])) (hf : f_X4_value_148 fu k6 v  x1 x2 x3 x4 x5 = some z) : (gC v = 4) → ∀ (H : Heap) (locs : List Loc), WB G (st S a v) s H locs → ∀ (ls : Array Slot), lv_has ls 7 [(0, .ref a), (1, .int x1), (2, .int x2), (3, .int x3), (4, .int x4), (5, .int x5)] → W p l e RM_X4_value s m args below meth c H locs 0 0 (QR G below args s (some (.int z.1)) (st S a v0) (st S a z.2)) (F0 m 148 ls []) := by
  intro hc H locs hW ls hl
  have hx := hM.1
  have hb := hM.2.1
  obtain ⟨y1, ey1⟩ : ∃ y : Int32, y = x5 + (1 : Int32) := ⟨_, rfl⟩
  have hf := nm_at ey1 hf
  refine lv_iinc (v := y1) (lv' := [(5, .int y1), (0, .ref a), (1, .int x1), (2, .int x2), (3, .int x3), (4, .int x4)]) hx hb dX4_value_148 hl (k := 5) rfl (by rw [ey1]; rfl) (by decide) rfl (fun ls hl => ?_)
  refine lv_goto (tgt := 6) hx hb dX4_value_151 (by decide) ?_
  exact hk6 _ _ _ hf hc _ _ hW _ (lv_sub hl [1, 2, 3, 4, 5, 0] rfl)
noncomputable def f_X4_value_102 (fu : Nat) (k6 : Int32 → Int32 → GV → Option (Int32 × GV)) (v : GV) (x1 : Int32) (x2 : Int32) (x3 : Int32) (x4 : Int32) (x5 : Int32) (x6 : Int32) : Option (Int32 × GV) :=
  if (-4 : Int32) ≤ x6 then
    (f_X4_value_148 fu k6 v x1 x2 x3 x4 x5)
  else
    (if x4 < (2 : Int32) then
      (f_X4_value_148 fu k6 v x1 x2 x3 x4 x5)
    else
      (nm (x4 + (-1 : Int32)) fun y3 =>
      nm ((y3 - (1 : Int32))) fun y4 =>
      ck (inb y4 32) <|
      ck (inb y3 32) <|
      bd (f_X4_joinedBy fu x6 (gA v 1 y4.toNatClampNeg) (gA v 1 y3.toNatClampNeg)) fun r7 =>
      ck (inb (y3 - (1 : Int32)) 32) <|
      nm (sA v 1 (y3 - (1 : Int32)).toNatClampNeg r7) fun v9 =>
      f_X4_value_148 fu k6 v9 x1 x2 x3 y3 x5))
set_option maxHeartbeats 4000000 in
set_option maxRecDepth 100000 in
theorem t_X4_value_102 {G : GG} {p : Program} {l : Launch} {e : Env} {s : State} {m : MethodId} {args : Array Value} {below : List Frame} {meth : Method} {c : Code} {S : ST} {fu : Nat} {z : Int32 × GV} {a : Nat} {v0 : GV} {k6 : Int32 → Int32 → GV → Option (Int32 × GV)} {v : GV} {x1 : Int32} {x2 : Int32} {x3 : Int32} {x4 : Int32} {x5 : Int32} {x6 : Int32} (hM : MC G p s m args c cX4_value w_X4_value RX4) (hml : c.maxLocals = 7) (hr : meth.sig.returnType = (some .int)) (hlk : meth.locks = false) (hc0 : gC v0 = 4) (hk6 : ∀ (x4 : Int32) (x5 : Int32) (v : GV), k6 x4 x5 v = some z → (gC v = 4) → ∀ (H : Heap) (locs : List Loc), WB G (st S a v) s H locs → ∀ (ls : Array Slot), lv_has ls 7 [(0, .ref a), (1, .int x1), (2, .int x2), (3, .int x3), (4, .int x4), (5, .int x5)] → W p l e RM_X4_value s m args below meth c H locs 0 0 (QR G below args s (some (.int z.1)) (st S a v0) (st S a z.2)) (F0 m 6 ls [])) (hf : f_X4_value_102 fu k6 v  x1 x2 x3 x4 x5 x6 = some z) : (gC v = 4) → ∀ (H : Heap) (locs : List Loc), WB G (st S a v) s H locs → ∀ (ls : Array Slot), lv_has ls 7 [(0, .ref a), (1, .int x1), (2, .int x2), (3, .int x3), (4, .int x4), (5, .int x5), (6, .int x6)] → W p l e RM_X4_value s m args below meth c H locs 0 0 (QR G below args s (some (.int z.1)) (st S a v0) (st S a z.2)) (F0 m 102 ls []) := by
  intro hc H locs hW ls hl
  have hx := hM.1
  have hb := hM.2.1
  refine lv_iload hx hb dX4_value_102 (lv_at hl 6 rfl) ?_
  refine lv_bipush (v := (-4 : Int32)) hx hb dX4_value_104 (by decide) ?_
  refine lv_icmp_ge (tgt := 148) hx hb dX4_value_106 (by decide) (fun c1 => ?_) (fun c1 => ?_)
  · have hf := if_t c1 hf
    exact t_X4_value_148 (fu := fu) hM hml hr hlk hc0 hk6 hf hc _ _ hW _ (lv_sub hl [0, 1, 2, 3, 4, 5] rfl)
  · have hf := if_f c1 hf
    refine lv_iload hx hb dX4_value_109 (lv_at hl 4 rfl) ?_
    refine lv_iconst (v := (2 : Int32)) hx hb dX4_value_111 (by decide) ?_
    refine lv_icmp_lt (tgt := 148) hx hb dX4_value_112 (by decide) (fun c2 => ?_) (fun c2 => ?_)
    · have hf := if_t c2 hf
      exact t_X4_value_148 (fu := fu) hM hml hr hlk hc0 hk6 hf hc _ _ hW _ (lv_sub hl [0, 1, 2, 3, 4, 5] rfl)
    · have hf := if_f c2 hf
      obtain ⟨y3, ey3⟩ : ∃ y : Int32, y = x4 + (-1 : Int32) := ⟨_, rfl⟩
      have hf := nm_at ey3 hf
      refine lv_iinc (v := y3) (lv' := [(4, .int y3), (0, .ref a), (1, .int x1), (2, .int x2), (3, .int x3), (5, .int x5), (6, .int x6)]) hx hb dX4_value_115 hl (k := 4) rfl (by rw [ey3]; rfl) (by decide) rfl (fun ls hl => ?_)
      refine lv_aload_n hx hb dX4_value_118 rfl (lv_at hl 1 rfl) ?_
      refine b_get hM hW 3 1 hc rfl rfl (by decide) wi_X4 (wgm fk_RX4_9) (x := .ref (a + 2)) rfl dX4_value_119 ?_
      refine lv_iload hx hb dX4_value_122 (lv_at hl 0 rfl) ?_
      refine lv_iconst (v := (1 : Int32)) hx hb dX4_value_124 (by decide) ?_
      refine lv_isub hx hb dX4_value_125 ?_
      refine lv_iload hx hb dX4_value_126 (lv_at hl 6 rfl) ?_
      refine lv_aload_n hx hb dX4_value_128 rfl (lv_at hl 1 rfl) ?_
      refine b_get hM hW 3 1 hc rfl rfl (by decide) wi_X4 (wgm fk_RX4_9) (x := .ref (a + 2)) rfl dX4_value_129 ?_
      refine lv_iload hx hb dX4_value_132 (lv_at hl 0 rfl) ?_
      refine lv_iconst (v := (1 : Int32)) hx hb dX4_value_134 (by decide) ?_
      refine lv_isub hx hb dX4_value_135 ?_
      refine lv_topi (fun y4 ey4 => ?_)
      have hf := nm_at ey4 hf
      obtain ⟨h5, hf⟩ := ck_elim hf
      refine b_iald (n := 32) hM hW 3 1 hc (by decide) rfl rfl rfl rfl h5 dX4_value_136 ?_
      refine lv_aload_n hx hb dX4_value_137 rfl (lv_at hl 1 rfl) ?_
      refine b_get hM hW 3 1 hc rfl rfl (by decide) wi_X4 (wgm fk_RX4_9) (x := .ref (a + 2)) rfl dX4_value_138 ?_
      refine lv_iload hx hb dX4_value_141 (lv_at hl 0 rfl) ?_
      obtain ⟨h6, hf⟩ := ck_elim hf
      refine b_iald (n := 32) hM hW 3 1 hc (by decide) rfl rfl rfl rfl h6 dX4_value_143 ?_
      obtain ⟨r7, hr7, hf⟩ := bd_elim hf
      refine s_callSi [.int x6, .int (gA v 1 y4.toNatClampNeg), .int (gA v 1 y3.toNatClampNeg)] [.int (y3 - (1 : Int32)), .ref (a + 2)] hM hml hl.1 hW (c_X4_joinedBy l G fu _ _ _ _ hr7) (va_cwS 3 hM.2.2.2.1 (gS mk_RX4_20 sm_X4_joinedBy it_RX4 cd_X4_joinedBy) rfl rfl rfl (by decide +kernel) ⟨Nat.le_of_ble_eq_true rfl, Nat.le_of_ble_eq_true rfl⟩) rfl rfl (Nat.le_of_ble_eq_true rfl) ⟨Nat.zero_le _, Nat.zero_le _⟩ dX4_value_144 (fun H locs hW hk => ?_)
      obtain ⟨h8, hf⟩ := ck_elim hf
      refine b_iast (n := 32) hM hW 3 1 hc (by decide) rfl rfl rfl rfl h8 dX4_value_147 (fun v9 ev9 hc H locs hW => ?_)
      have hf := nm_at ev9 hf
      exact t_X4_value_148 (fu := fu) hM hml hr hlk hc0 hk6 hf hc _ _ hW _ (lv_sub hl [1, 2, 3, 4, 0, 5] rfl)
noncomputable def f_X4_value_98 (fu : Nat) (k6 : Int32 → Int32 → GV → Option (Int32 × GV)) (v : GV) (x1 : Int32) (x2 : Int32) (x3 : Int32) (x4 : Int32) (x5 : Int32) (t1 : Int32) (t2 : Int32) : Option (Int32 × GV) :=
  ck (inb t1 32) <|
  nm (sA v 1 t1.toNatClampNeg t2) fun v2 =>
  f_X4_value_148 fu k6 v2 x1 x2 x3 x4 x5
set_option maxHeartbeats 4000000 in
set_option maxRecDepth 100000 in
theorem t_X4_value_98 {G : GG} {p : Program} {l : Launch} {e : Env} {s : State} {m : MethodId} {args : Array Value} {below : List Frame} {meth : Method} {c : Code} {S : ST} {fu : Nat} {z : Int32 × GV} {a : Nat} {v0 : GV} {k6 : Int32 → Int32 → GV → Option (Int32 × GV)} {v : GV} {x1 : Int32} {x2 : Int32} {x3 : Int32} {x4 : Int32} {x5 : Int32} {t1 : Int32} {t2 : Int32} (hM : MC G p s m args c cX4_value w_X4_value RX4) (hml : c.maxLocals = 7) (hr : meth.sig.returnType = (some .int)) (hlk : meth.locks = false) (hc0 : gC v0 = 4) (hk6 : ∀ (x4 : Int32) (x5 : Int32) (v : GV), k6 x4 x5 v = some z → (gC v = 4) → ∀ (H : Heap) (locs : List Loc), WB G (st S a v) s H locs → ∀ (ls : Array Slot), lv_has ls 7 [(0, .ref a), (1, .int x1), (2, .int x2), (3, .int x3), (4, .int x4), (5, .int x5)] → W p l e RM_X4_value s m args below meth c H locs 0 0 (QR G below args s (some (.int z.1)) (st S a v0) (st S a z.2)) (F0 m 6 ls [])) (hf : f_X4_value_98 fu k6 v  x1 x2 x3 x4 x5 t1 t2 = some z) : (gC v = 4) → ∀ (H : Heap) (locs : List Loc), WB G (st S a v) s H locs → ∀ (ls : Array Slot), lv_has ls 7 [(0, .ref a), (1, .int x1), (2, .int x2), (3, .int x3), (4, .int x4), (5, .int x5)] → W p l e RM_X4_value s m args below meth c H locs 0 0 (QR G below args s (some (.int z.1)) (st S a v0) (st S a z.2)) (F0 m 98 ls [.int t2, .int t1, .ref (a + 2)]) := by
  intro hc H locs hW ls hl
  have hx := hM.1
  have hb := hM.2.1
  obtain ⟨h1, hf⟩ := ck_elim hf
  refine b_iast (n := 32) hM hW 3 1 hc (by decide) rfl rfl rfl rfl h1 dX4_value_98 (fun v2 ev2 hc H locs hW => ?_)
  have hf := nm_at ev2 hf
  refine lv_goto (tgt := 148) hx hb dX4_value_99 (by decide) ?_
  exact t_X4_value_148 (fu := fu) hM hml hr hlk hc0 hk6 hf hc _ _ hW _ (lv_sub hl [0, 1, 2, 3, 4, 5] rfl)
noncomputable def f_X4_value_60 (fu : Nat) (k6 : Int32 → Int32 → GV → Option (Int32 × GV)) (v : GV) (x1 : Int32) (x2 : Int32) (x3 : Int32) (x4 : Int32) (x5 : Int32) (x6 : Int32) : Option (Int32 × GV) :=
  if x6 = (-4 : Int32) then
    (if x4 < (1 : Int32) then
      (f_X4_value_102 fu k6 v x1 x2 x3 x4 x5 x6)
    else
      (nm ((x4 - (1 : Int32))) fun y3 =>
      ck (inb y3 32) <|
      if (gA v 1 y3.toNatClampNeg) = 0 then
        (f_X4_value_98 fu k6 v x1 x2 x3 x4 x5 (x4 - (1 : Int32)) (1 : Int32))
      else
        (f_X4_value_98 fu k6 v x1 x2 x3 x4 x5 (x4 - (1 : Int32)) (0 : Int32))))
  else
    (f_X4_value_102 fu k6 v x1 x2 x3 x4 x5 x6)
set_option maxHeartbeats 4000000 in
set_option maxRecDepth 100000 in
theorem t_X4_value_60 {G : GG} {p : Program} {l : Launch} {e : Env} {s : State} {m : MethodId} {args : Array Value} {below : List Frame} {meth : Method} {c : Code} {S : ST} {fu : Nat} {z : Int32 × GV} {a : Nat} {v0 : GV} {k6 : Int32 → Int32 → GV → Option (Int32 × GV)} {v : GV} {x1 : Int32} {x2 : Int32} {x3 : Int32} {x4 : Int32} {x5 : Int32} {x6 : Int32} (hM : MC G p s m args c cX4_value w_X4_value RX4) (hml : c.maxLocals = 7) (hr : meth.sig.returnType = (some .int)) (hlk : meth.locks = false) (hc0 : gC v0 = 4) (hk6 : ∀ (x4 : Int32) (x5 : Int32) (v : GV), k6 x4 x5 v = some z → (gC v = 4) → ∀ (H : Heap) (locs : List Loc), WB G (st S a v) s H locs → ∀ (ls : Array Slot), lv_has ls 7 [(0, .ref a), (1, .int x1), (2, .int x2), (3, .int x3), (4, .int x4), (5, .int x5)] → W p l e RM_X4_value s m args below meth c H locs 0 0 (QR G below args s (some (.int z.1)) (st S a v0) (st S a z.2)) (F0 m 6 ls [])) (hf : f_X4_value_60 fu k6 v  x1 x2 x3 x4 x5 x6 = some z) : (gC v = 4) → ∀ (H : Heap) (locs : List Loc), WB G (st S a v) s H locs → ∀ (ls : Array Slot), lv_has ls 7 [(0, .ref a), (1, .int x1), (2, .int x2), (3, .int x3), (4, .int x4), (5, .int x5), (6, .int x6)] → W p l e RM_X4_value s m args below meth c H locs 0 0 (QR G below args s (some (.int z.1)) (st S a v0) (st S a z.2)) (F0 m 60 ls []) := by
  intro hc H locs hW ls hl
  have hx := hM.1
  have hb := hM.2.1
  refine lv_iload hx hb dX4_value_60 (lv_at hl 6 rfl) ?_
  refine lv_bipush (v := (-4 : Int32)) hx hb dX4_value_62 (by decide) ?_
  refine lv_icmp_ne (tgt := 102) hx hb dX4_value_64 (by decide) (fun c1 => ?_) (fun c1 => ?_)
  · have hf := if_f c1 hf
    exact t_X4_value_102 (fu := fu) hM hml hr hlk hc0 hk6 hf hc _ _ hW _ (lv_sub hl [0, 1, 2, 3, 4, 5, 6] rfl)
  · have hf := if_t c1 hf
    refine lv_iload hx hb dX4_value_67 (lv_at hl 4 rfl) ?_
    refine lv_iconst (v := (1 : Int32)) hx hb dX4_value_69 (by decide) ?_
    refine lv_icmp_lt (tgt := 102) hx hb dX4_value_70 (by decide) (fun c2 => ?_) (fun c2 => ?_)
    · have hf := if_t c2 hf
      exact t_X4_value_102 (fu := fu) hM hml hr hlk hc0 hk6 hf hc _ _ hW _ (lv_sub hl [0, 1, 2, 3, 4, 5, 6] rfl)
    · have hf := if_f c2 hf
      refine lv_aload_n hx hb dX4_value_73 rfl (lv_at hl 0 rfl) ?_
      refine b_get hM hW 3 1 hc rfl rfl (by decide) wi_X4 (wgm fk_RX4_9) (x := .ref (a + 2)) rfl dX4_value_74 ?_
      refine lv_iload hx hb dX4_value_77 (lv_at hl 4 rfl) ?_
      refine lv_iconst (v := (1 : Int32)) hx hb dX4_value_79 (by decide) ?_
      refine lv_isub hx hb dX4_value_80 ?_
      refine lv_aload_n hx hb dX4_value_81 rfl (lv_at hl 0 rfl) ?_
      refine b_get hM hW 3 1 hc rfl rfl (by decide) wi_X4 (wgm fk_RX4_9) (x := .ref (a + 2)) rfl dX4_value_82 ?_
      refine lv_iload hx hb dX4_value_85 (lv_at hl 4 rfl) ?_
      refine lv_iconst (v := (1 : Int32)) hx hb dX4_value_87 (by decide) ?_
      refine lv_isub hx hb dX4_value_88 ?_
      refine lv_topi (fun y3 ey3 => ?_)
      have hf := nm_at ey3 hf
      obtain ⟨h4, hf⟩ := ck_elim hf
      refine b_iald (n := 32) hM hW 3 1 hc (by decide) rfl rfl rfl rfl h4 dX4_value_89 ?_
      refine lv_if_ne (tgt := 97) hx hb dX4_value_90 (by decide) (fun c5 => ?_) (fun c5 => ?_)
      · have hf := if_f c5 hf
        refine lv_iconst (v := (0 : Int32)) hx hb dX4_value_97 (by decide) ?_
        exact t_X4_value_98 (fu := fu) hM hml hr hlk hc0 hk6 hf hc _ _ hW _ (lv_sub hl [0, 1, 2, 3, 4, 5] rfl)
      · have hf := if_t c5 hf
        refine lv_iconst (v := (1 : Int32)) hx hb dX4_value_93 (by decide) ?_
        refine lv_goto (tgt := 98) hx hb dX4_value_94 (by decide) ?_
        exact t_X4_value_98 (fu := fu) hM hml hr hlk hc0 hk6 hf hc _ _ hW _ (lv_sub hl [0, 1, 2, 3, 4, 5] rfl)
noncomputable def f_X4_value_6s (fu : Nat)  (k6 : Int32 → Int32 → GV → Option (Int32 × GV)) (x1 : Int32) (x2 : Int32) (x3 : Int32) (x4 : Int32) (x5 : Int32) (v : GV) : Option (Int32 × GV) :=
  if (Int32.ofNat (gN v 0)) ≤ x5 then
    (some ((gA v 1 (0 : Int32).toNatClampNeg), v))
  else
    (ck (inb x5 (gN v 0)) <|
    nm ((gA v 0 x5.toNatClampNeg)) fun y3 =>
    if y3 ≤ (-4 : Int32) then
      (f_X4_value_60 fu k6 v x1 x2 x3 x4 x5 y3)
    else
      (if (32 : Int32) ≤ x4 then
        (f_X4_value_60 fu k6 v x1 x2 x3 x4 x5 y3)
      else
        (bd (f_X4_operand fu y3 x1 x2 x3) fun r6 =>
        ck (inb x4 32) <|
        nm (sA v 1 x4.toNatClampNeg r6) fun v8 =>
        nm (x4 + (1 : Int32)) fun y9 =>
        f_X4_value_148 fu k6 v8 x1 x2 x3 y9 x5)))
noncomputable def f_X4_value_6 (fu n : Nat)  (x1 : Int32) (x2 : Int32) (x3 : Int32) : Int32 → Int32 → GV → Option (Int32 × GV) :=
  lq_3 (fun k6 => f_X4_value_6s fu  k6   x1 x2 x3) n
set_option maxHeartbeats 4000000 in
set_option maxRecDepth 100000 in
theorem t_X4_value_6s {G : GG} {p : Program} {l : Launch} {e : Env} {s : State} {m : MethodId} {args : Array Value} {below : List Frame} {meth : Method} {c : Code} {S : ST} {fu : Nat} {z : Int32 × GV} {a : Nat} {v0 : GV}  {k6 : Int32 → Int32 → GV → Option (Int32 × GV)} {x1 : Int32} {x2 : Int32} {x3 : Int32} (hM : MC G p s m args c cX4_value w_X4_value RX4) (hml : c.maxLocals = 7) (hr : meth.sig.returnType = (some .int)) (hlk : meth.locks = false) (hc0 : gC v0 = 4)  (hk6 : ∀ (x4 : Int32) (x5 : Int32) (v : GV), k6 x4 x5 v = some z → (gC v = 4) → ∀ (H : Heap) (locs : List Loc), WB G (st S a v) s H locs → ∀ (ls : Array Slot), lv_has ls 7 [(0, .ref a), (1, .int x1), (2, .int x2), (3, .int x3), (4, .int x4), (5, .int x5)] → W p l e RM_X4_value s m args below meth c H locs 0 0 (QR G below args s (some (.int z.1)) (st S a v0) (st S a z.2)) (F0 m 6 ls [])) : ∀ (x4 : Int32) (x5 : Int32) (v : GV), f_X4_value_6s fu  k6   x1 x2 x3 x4 x5 v = some z → (gC v = 4) → ∀ (H : Heap) (locs : List Loc), WB G (st S a v) s H locs → ∀ (ls : Array Slot), lv_has ls 7 [(0, .ref a), (1, .int x1), (2, .int x2), (3, .int x3), (4, .int x4), (5, .int x5)] → W p l e RM_X4_value s m args below meth c H locs 0 0 (QR G below args s (some (.int z.1)) (st S a v0) (st S a z.2)) (F0 m 6 ls []) := by
  intro x4 x5 v hf hc H locs hW ls hl
  have hx := hM.1
  have hb := hM.2.1
  refine lv_iload hx hb dX4_value_6 (lv_at hl 5 rfl) ?_
  refine lv_aload_n hx hb dX4_value_8 rfl (lv_at hl 0 rfl) ?_
  refine b_get hM hW 3 0 hc rfl rfl (by decide) wi_X4 (wgm fk_RX4_13) (x := .ref (a + 1)) rfl dX4_value_9 ?_
  refine b_alen (n := (gN v 0)) hM hW 3 0 0 hc (by decide) rfl rfl (by decide) rfl rfl (x := (Int32.ofNat (gN v 0))) rfl dX4_value_12 ?_
  refine lv_icmp_ge (tgt := 154) hx hb dX4_value_13 (by decide) (fun c1 => ?_) (fun c1 => ?_)
  · have hf := if_t c1 hf
    refine lv_aload_n hx hb dX4_value_154 rfl (lv_at hl 0 rfl) ?_
    refine b_get hM hW 3 1 hc rfl rfl (by decide) wi_X4 (wgm fk_RX4_9) (x := .ref (a + 2)) rfl dX4_value_155 ?_
    refine lv_iconst (v := (0 : Int32)) hx hb dX4_value_158 (by decide) ?_
    refine b_iald (n := 32) hM hW 3 1 hc (by decide) rfl rfl rfl rfl (by decide) dX4_value_159 ?_
    cases hf
    exact W.iret hx hb hr (b_ret0 hW (keep_s2 hc0 hc) _) hW.2.2.2 dX4_value_160 hlk
  · have hf := if_f c1 hf
    refine lv_aload_n hx hb dX4_value_16 rfl (lv_at hl 0 rfl) ?_
    refine b_get hM hW 3 0 hc rfl rfl (by decide) wi_X4 (wgm fk_RX4_13) (x := .ref (a + 1)) rfl dX4_value_17 ?_
    refine lv_iload hx hb dX4_value_20 (lv_at hl 5 rfl) ?_
    obtain ⟨h2, hf⟩ := ck_elim hf
    refine b_iald (n := (gN v 0)) hM hW 3 0 hc (by decide) rfl rfl rfl rfl h2 dX4_value_22 ?_
    refine lv_topi (fun y3 ey3 => ?_)
    have hf := nm_at ey3 hf
    refine lv_istore (lv' := [(6, .int y3), (0, .ref a), (1, .int x1), (2, .int x2), (3, .int x3), (4, .int x4), (5, .int x5)]) hx hb dX4_value_23 hl (by decide) rfl (fun ls hl => ?_)
    refine lv_iload hx hb dX4_value_25 (lv_at hl 0 rfl) ?_
    refine lv_bipush (v := (-4 : Int32)) hx hb dX4_value_27 (by decide) ?_
    refine lv_icmp_le (tgt := 60) hx hb dX4_value_29 (by decide) (fun c4 => ?_) (fun c4 => ?_)
    · have hf := if_t c4 hf
      exact t_X4_value_60 (fu := fu) hM hml hr hlk hc0 hk6 hf hc _ _ hW _ (lv_sub hl [1, 2, 3, 4, 5, 6, 0] rfl)
    · have hf := if_f c4 hf
      refine lv_iload hx hb dX4_value_32 (lv_at hl 5 rfl) ?_
      refine lv_bipush (v := (32 : Int32)) hx hb dX4_value_34 (by decide) ?_
      refine lv_icmp_ge (tgt := 60) hx hb dX4_value_36 (by decide) (fun c5 => ?_) (fun c5 => ?_)
      · have hf := if_t c5 hf
        exact t_X4_value_60 (fu := fu) hM hml hr hlk hc0 hk6 hf hc _ _ hW _ (lv_sub hl [1, 2, 3, 4, 5, 6, 0] rfl)
      · have hf := if_f c5 hf
        refine lv_aload_n hx hb dX4_value_39 rfl (lv_at hl 1 rfl) ?_
        refine b_get hM hW 3 1 hc rfl rfl (by decide) wi_X4 (wgm fk_RX4_9) (x := .ref (a + 2)) rfl dX4_value_40 ?_
        refine lv_iload hx hb dX4_value_43 (lv_at hl 5 rfl) ?_
        refine lv_iload hx hb dX4_value_45 (lv_at hl 0 rfl) ?_
        refine lv_iload_n hx hb dX4_value_47 rfl (lv_at hl 2 rfl) ?_
        refine lv_iload_n hx hb dX4_value_48 rfl (lv_at hl 3 rfl) ?_
        refine lv_iload_n hx hb dX4_value_49 rfl (lv_at hl 4 rfl) ?_
        obtain ⟨r6, hr6, hf⟩ := bd_elim hf
        refine s_callSi [.int y3, .int x1, .int x2, .int x3] [.int x4, .ref (a + 2)] hM hml hl.1 hW (c_X4_operand l G fu _ _ _ _ _ hr6) (va_cwS 4 hM.2.2.2.1 (gS mk_RX4_16 sm_X4_operand it_RX4 cd_X4_operand) rfl rfl rfl (by decide +kernel) ⟨Nat.le_of_ble_eq_true rfl, Nat.le_of_ble_eq_true rfl⟩) rfl rfl (Nat.le_of_ble_eq_true rfl) ⟨Nat.zero_le _, Nat.zero_le _⟩ dX4_value_50 (fun H locs hW hk => ?_)
        obtain ⟨h7, hf⟩ := ck_elim hf
        refine b_iast (n := 32) hM hW 3 1 hc (by decide) rfl rfl rfl rfl h7 dX4_value_53 (fun v8 ev8 hc H locs hW => ?_)
        have hf := nm_at ev8 hf
        obtain ⟨y9, ey9⟩ : ∃ y : Int32, y = x4 + (1 : Int32) := ⟨_, rfl⟩
        have hf := nm_at ey9 hf
        refine lv_iinc (v := y9) (lv' := [(4, .int y9), (6, .int y3), (0, .ref a), (1, .int x1), (2, .int x2), (3, .int x3), (5, .int x5)]) hx hb dX4_value_54 hl (k := 5) rfl (by rw [ey9]; rfl) (by decide) rfl (fun ls hl => ?_)
        refine lv_goto (tgt := 148) hx hb dX4_value_57 (by decide) ?_
        exact t_X4_value_148 (fu := fu) hM hml hr hlk hc0 hk6 hf hc _ _ hW _ (lv_sub hl [2, 3, 4, 5, 0, 6] rfl)
theorem t_X4_value_6 {G : GG} {p : Program} {l : Launch} {e : Env} {s : State} {m : MethodId} {args : Array Value} {below : List Frame} {meth : Method} {c : Code} {S : ST} {fu : Nat} {z : Int32 × GV} {a : Nat} {v0 : GV}  {x1 : Int32} {x2 : Int32} {x3 : Int32} (hM : MC G p s m args c cX4_value w_X4_value RX4) (hml : c.maxLocals = 7) (hr : meth.sig.returnType = (some .int)) (hlk : meth.locks = false) (hc0 : gC v0 = 4)  : ∀ {n : Nat} (x4 : Int32) (x5 : Int32) (v : GV), f_X4_value_6 fu n    x1 x2 x3 x4 x5 v = some z → (gC v = 4) → ∀ (H : Heap) (locs : List Loc), WB G (st S a v) s H locs → ∀ (ls : Array Slot), lv_has ls 7 [(0, .ref a), (1, .int x1), (2, .int x2), (3, .int x3), (4, .int x4), (5, .int x5)] → W p l e RM_X4_value s m args below meth c H locs 0 0 (QR G below args s (some (.int z.1)) (st S a v0) (st S a z.2)) (F0 m 6 ls []) := by
  intro n
  induction n with
  | zero => intro x4 x5 v hf; cases hf
  | succ n ih => intro x4 x5 v hf; exact t_X4_value_6s (fu := fu) hM hml hr hlk hc0 (k6 := f_X4_value_6 fu n    x1 x2 x3) ih _ _ _ hf
noncomputable def f_X4_value_0 (fu : Nat)  (v : GV) (x1 : Int32) (x2 : Int32) (x3 : Int32) : Option (Int32 × GV) :=
  f_X4_value_6 fu fu x1 x2 x3 (0 : Int32) (0 : Int32) v
set_option maxHeartbeats 4000000 in
set_option maxRecDepth 100000 in
theorem t_X4_value_0 {G : GG} {p : Program} {l : Launch} {e : Env} {s : State} {m : MethodId} {args : Array Value} {below : List Frame} {meth : Method} {c : Code} {S : ST} {fu : Nat} {z : Int32 × GV} {a : Nat} {v0 : GV}  {v : GV} {x1 : Int32} {x2 : Int32} {x3 : Int32} (hM : MC G p s m args c cX4_value w_X4_value RX4) (hml : c.maxLocals = 7) (hr : meth.sig.returnType = (some .int)) (hlk : meth.locks = false) (hc0 : gC v0 = 4)  (hf : f_X4_value_0 fu  v  x1 x2 x3 = some z) : (gC v = 4) → ∀ (H : Heap) (locs : List Loc), WB G (st S a v) s H locs → ∀ (ls : Array Slot), lv_has ls 7 [(0, .ref a), (1, .int x1), (2, .int x2), (3, .int x3)] → W p l e RM_X4_value s m args below meth c H locs 0 0 (QR G below args s (some (.int z.1)) (st S a v0) (st S a z.2)) (F0 m 0 ls []) := by
  intro hc H locs hW ls hl
  have hx := hM.1
  have hb := hM.2.1
  refine lv_iconst (v := (0 : Int32)) hx hb dX4_value_0 (by decide) ?_
  refine lv_istore (lv' := [(4, .int (0 : Int32)), (0, .ref a), (1, .int x1), (2, .int x2), (3, .int x3)]) hx hb dX4_value_1 hl (by decide) rfl (fun ls hl => ?_)
  refine lv_iconst (v := (0 : Int32)) hx hb dX4_value_3 (by decide) ?_
  refine lv_istore (lv' := [(5, .int (0 : Int32)), (4, .int (0 : Int32)), (0, .ref a), (1, .int x1), (2, .int x2), (3, .int x3)]) hx hb dX4_value_4 hl (by decide) rfl (fun ls hl => ?_)
  exact t_X4_value_6 (fu := fu) hM hml hr hlk hc0 _ _ _ hf hc _ _ hW _ (lv_sub hl [2, 3, 4, 5, 1, 0] rfl)
noncomputable def f_X4_value (fu : Nat) (v : GV) (x1 : Int32) (x2 : Int32) (x3 : Int32) : Option (Int32 × GV) := f_X4_value_0 fu v x1 x2 x3
set_option maxHeartbeats 4000000 in
set_option maxRecDepth 100000 in
theorem c_X4_value (l : Launch) (G : GG) (fu : Nat) (S : ST) (a : Nat) (v : GV) (x1 : Int32) (x2 : Int32) (x3 : Int32) {z : Int32} {w : GV} (hc : gC v = 4) (hf : f_X4_value fu v x1 x2 x3 = some (z, w)) : Ct l yX4_value w_X4_value RM_X4_value G (st S a v) [.ref a, .int x1, .int x2, .int x3] (some (.int z)) (st S a w) 0 0 := by
  refine Met.ofW (cc := cX4_value) (maxL := 7) (ret := (some .int)) (by decide) rfl ?_
  intro p e s m args below meth c s₁ B hml hv
  obtain ⟨rfl, hB, hK, hz⟩ := hv
  have hM : MC G p s m _ c cX4_value w_X4_value RX4 := ⟨B.exec, B.bytes, findClass_of_methodNamed B.named, atoms_spec (ws := w_X4_value) B.pre, hK, hz⟩
  have hW : WB G (st S a v) s s.heap [] := ⟨hB, va_S.rf⟩
  have hl := lv_entry ([.ref a, .int x1, .int x2, .int x3]) (n := 7) (Nat.le_of_ble_eq_true rfl)
  rw [lg_entry_eq]
  generalize (lg_sl ([.ref a, .int x1, .int x2, .int x3]) ++ List.replicate (7 - (lg_sl ([.ref a, .int x1, .int x2, .int x3])).length) Slot.unset).toArray = ls at hl ⊢
  have hl : lv_has ls 7 [(0, .ref a), (1, .int x1), (2, .int x2), (3, .int x3)] := hl
  exact t_X4_value_0 (fu := fu) hM hml B.returns B.notSynchronized hc hf hc _ _ hW _ (lv_sub hl [0, 1, 2, 3] rfl)
abbrev RM_X3_worthOf : Room := { frames := 2, cells := 0, slots := 0, locals := 49 }
abbrev w_X3_worthOf : List Cond := Cond.code yX3_worthOf cX3_worthOf 5 (some .int) :: wsL_law0
noncomputable def f_X3_worthOf_41 (fu : Nat)  (S : ST) (a : Nat) (g1 : Nat) (x4 : Int32) : Option (Int32 × ST) :=
  some ((if (0 : Int32) < (if x4 < (999 : Int32) then x4 else (999 : Int32)) then (if x4 < (999 : Int32) then x4 else (999 : Int32)) else (0 : Int32)), S)
set_option maxHeartbeats 4000000 in
set_option maxRecDepth 100000 in
theorem t_X3_worthOf_41 {G : GG} {p : Program} {l : Launch} {e : Env} {s : State} {m : MethodId} {args : Array Value} {below : List Frame} {meth : Method} {c : Code} {S0 : ST} {fu : Nat} {z : Int32 × ST} {a : Nat} {g1 : Nat}  {S : ST} {x4 : Int32} (hM : MC G p s m args c cX3_worthOf w_X3_worthOf RX3) (hml : c.maxLocals = 5) (hr : meth.sig.returnType = (some .int)) (hlk : meth.locks = false)   (hf : f_X3_worthOf_41 fu  S a g1 x4 = some z) : (gC (S a) = 3) → (gC (S g1) = 1) → (∀ b, gC (S0 b) ≠ 0 → gC (S b) = gC (S0 b)) → ∀ (H : Heap) (locs : List Loc), WB G S s H locs → ∀ (ls : Array Slot), lv_has ls 5 [(4, .int x4)] → W p l e RM_X3_worthOf s m args below meth c H locs 0 0 (QR G below args s (some (.int z.1)) S0 z.2) (F0 m 41 ls []) := by
  intro ha hg1 hK0 H locs hW ls hl
  have hx := hM.1
  have hb := hM.2.1
  refine lv_iconst (v := (0 : Int32)) hx hb dX3_worthOf_41 (by decide) ?_
  refine lv_sipush (v := (999 : Int32)) hx hb dX3_worthOf_42 (by decide) ?_
  refine lv_iload hx hb dX3_worthOf_45 (lv_at hl 0 rfl) ?_
  refine k_min hM hml hl.1 mk_RX3_99 (Nat.le_of_ble_eq_true rfl) (Nat.le_of_ble_eq_true rfl) (Nat.zero_le _) (Nat.zero_le _) dX3_worthOf_47 ?_
  refine k_max hM hml hl.1 mk_RX3_105 (Nat.le_of_ble_eq_true rfl) (Nat.le_of_ble_eq_true rfl) (Nat.zero_le _) (Nat.zero_le _) dX3_worthOf_50 ?_
  cases hf
  exact W.iret hx hb hr (b_ret0 hW hK0 _) hW.2.2.2 dX3_worthOf_53 hlk
noncomputable def f_X3_worthOf_0 (fu : Nat)  (S : ST) (a : Nat) (g1 : Nat) (x2 : Int32) : Option (Int32 × ST) :=
  bd (f_X3_slipsOn fu (S a) x2) fun r1 =>
  nm ((((100 : Int32) - (r1 * (10 : Int32))) - x2)) fun y2 =>
  if (gR (S g1) 11) = none then
    (f_X3_worthOf_41 fu S a g1 y2)
  else
    (bd (gR (S g1) 11) fun q4 =>
    ck (decide (gC (S q4) = 4)) <|
    ck (inb x2 8) <|
    bd2 (f_X4_value fu (S q4) r1 x2 (gA (S a) 3 x2.toNatClampNeg)) fun r7 v8 =>
    nm (st S q4 v8) fun Sv8 =>
    f_X3_worthOf_41 fu Sv8 a g1 r7)
set_option maxHeartbeats 4000000 in
set_option maxRecDepth 100000 in
theorem t_X3_worthOf_0 {G : GG} {p : Program} {l : Launch} {e : Env} {s : State} {m : MethodId} {args : Array Value} {below : List Frame} {meth : Method} {c : Code} {S0 : ST} {fu : Nat} {z : Int32 × ST} {a : Nat} {g1 : Nat}  {S : ST} {x2 : Int32} (hM : MC G p s m args c cX3_worthOf w_X3_worthOf RX3) (hml : c.maxLocals = 5) (hr : meth.sig.returnType = (some .int)) (hlk : meth.locks = false)   (hf : f_X3_worthOf_0 fu  S a g1 x2 = some z) : (gC (S a) = 3) → (gC (S g1) = 1) → (∀ b, gC (S0 b) ≠ 0 → gC (S b) = gC (S0 b)) → ∀ (H : Heap) (locs : List Loc), WB G S s H locs → ∀ (ls : Array Slot), lv_has ls 5 [(0, .ref a), (1, .ref g1), (2, .int x2)] → W p l e RM_X3_worthOf s m args below meth c H locs 0 0 (QR G below args s (some (.int z.1)) S0 z.2) (F0 m 0 ls []) := by
  intro ha hg1 hK0 H locs hW ls hl
  have hx := hM.1
  have hb := hM.2.1
  refine lv_aload_n hx hb dX3_worthOf_0 rfl (lv_at hl 0 rfl) ?_
  refine lv_iload_n hx hb dX3_worthOf_1 rfl (lv_at hl 2 rfl) ?_
  obtain ⟨r1, hr1, hf⟩ := bd_elim hf
  refine s_callVi [.int x2] [] hM hml hl.1 hW ha rfl (by decide) (Ct_rd (c_X3_slipsOn l G fu _ a (S a) _ ha hr1)) (cwV 1 hM.2.2.2.1 (gV mk_RX3_86 im_X3_slipsOn se_X3_slipsOn it_RX3 cd_X3_slipsOn) rfl rfl rfl (by decide +kernel) ⟨Nat.le_of_ble_eq_true rfl, Nat.le_of_ble_eq_true rfl⟩) rfl rfl (Nat.le_of_ble_eq_true rfl) ⟨Nat.zero_le _, Nat.zero_le _⟩ dX3_worthOf_2 (fun H locs hW hk => ?_)
  refine lv_istore_n (lv' := [(3, .int r1), (0, .ref a), (1, .ref g1), (2, .int x2)]) hx hb dX3_worthOf_5 rfl hl (by decide) rfl (fun ls hl => ?_)
  refine lv_bipush (v := (100 : Int32)) hx hb dX3_worthOf_6 (by decide) ?_
  refine lv_iload_n hx hb dX3_worthOf_8 rfl (lv_at hl 0 rfl) ?_
  refine lv_bipush (v := (10 : Int32)) hx hb dX3_worthOf_9 (by decide) ?_
  refine lv_imul hx hb dX3_worthOf_11 ?_
  refine lv_isub hx hb dX3_worthOf_12 ?_
  refine lv_iload_n hx hb dX3_worthOf_13 rfl (lv_at hl 3 rfl) ?_
  refine lv_isub hx hb dX3_worthOf_14 ?_
  refine lv_topi (fun y2 ey2 => ?_)
  have hf := nm_at ey2 hf
  refine lv_istore (lv' := [(4, .int y2), (3, .int r1), (0, .ref a), (1, .ref g1), (2, .int x2)]) hx hb dX3_worthOf_15 hl (by decide) rfl (fun ls hl => ?_)
  refine lv_aload_n hx hb dX3_worthOf_17 rfl (lv_at hl 3 rfl) ?_
  refine b_get hM (hW.at_ g1) 0 11 hg1 rfl rfl (by decide) wi_X1 (wgm fk_RX3_89) (x := va_rf (gR (S g1) 11)) rfl dX3_worthOf_18 ?_
  by_cases hnq3 : (gR (S g1) 11) = none
  · have hf := if_t hnq3 hf
    rw [hnq3]
    refine lv_ifnullN (tgt := 41) hx hb dX3_worthOf_21 (by decide) ?_
    exact t_X3_worthOf_41 (fu := fu) hM hml hr hlk hf ha hg1 hK0 _ _ hW _ (lv_sub hl [0] rfl)
  · have hf := if_f hnq3 hf
    obtain ⟨q3, hq3⟩ := Option.ne_none_iff_exists'.mp hnq3
    rw [hq3]
    refine lv_ifnull hx hb dX3_worthOf_21 ?_
    refine lv_aload_n hx hb dX3_worthOf_24 rfl (lv_at hl 3 rfl) ?_
    obtain ⟨q4, hq4, hf⟩ := bd_elim hf
    refine b_get hM (hW.at_ g1) 0 11 hg1 rfl rfl (by decide) wi_X1 (wgm fk_RX3_89) (x := .ref q4) (by show va_rf _ = _; rw [hq4]; rfl) dX3_worthOf_25 ?_
    obtain ⟨h5, hf⟩ := ck_elim hf
    have h5 := of_decide_eq_true h5
    refine lv_iload_n hx hb dX3_worthOf_28 rfl (lv_at hl 1 rfl) ?_
    refine lv_iload_n hx hb dX3_worthOf_29 rfl (lv_at hl 4 rfl) ?_
    refine lv_aload_n hx hb dX3_worthOf_30 rfl (lv_at hl 2 rfl) ?_
    refine b_get hM (hW.at_ a) 2 3 ha rfl rfl (by decide) wi_X3 (wgm fk_RX3_21) (x := .ref (a + 4)) rfl dX3_worthOf_31 ?_
    refine lv_iload_n hx hb dX3_worthOf_34 rfl (lv_at hl 4 rfl) ?_
    obtain ⟨h6, hf⟩ := ck_elim hf
    refine b_iald (n := 8) hM (hW.at_ a) 2 3 ha (by decide) rfl rfl rfl rfl h6 dX3_worthOf_35 ?_
    obtain ⟨r7, v8, hr7, hf⟩ := bd2_elim hf
    refine s_callNi [.int r1, .int x2, .int (gA (S a) 3 x2.toNatClampNeg)] [] hM hml hl.1 hW h5 rfl (by decide) (Ct_self (c_X4_value l G fu _ q4 (S q4) _ _ _ h5 hr7)) (cwV 3 hM.2.2.2.1 (gV mk_RX3_93 im_X4_value se_X4_value it_RX4 cd_X4_value) rfl rfl rfl (by decide +kernel) ⟨Nat.le_of_ble_eq_true rfl, Nat.le_of_ble_eq_true rfl⟩) rfl rfl (Nat.le_of_ble_eq_true rfl) ⟨Nat.zero_le _, Nat.zero_le _⟩ dX3_worthOf_36 (fun Sv8 ev8 hk H locs hW => ?_)
    have hf := nm_at ev8 hf
    have ha := keep1 hk ha
    have hg1 := keep1 hk hg1
    have h5 := keep1 hk h5
    have hK0 := keep_tr hK0 hk
    refine lv_istore (lv' := [(4, .int r7), (3, .int r1), (0, .ref a), (1, .ref g1), (2, .int x2)]) hx hb dX3_worthOf_39 hl (by decide) rfl (fun ls hl => ?_)
    exact t_X3_worthOf_41 (fu := fu) hM hml hr hlk hf ha hg1 hK0 _ _ hW _ (lv_sub hl [0] rfl)
noncomputable def f_X3_worthOf (fu : Nat) (S : ST) (a : Nat) (g1 : Nat) (x2 : Int32) : Option (Int32 × ST) := f_X3_worthOf_0 fu S a g1 x2
set_option maxHeartbeats 4000000 in
set_option maxRecDepth 100000 in
theorem c_X3_worthOf (l : Launch) (G : GG) (fu : Nat) (S : ST) (a : Nat) (g1 : Nat) (x2 : Int32) {z : Int32} {w : ST} (ha : gC (S a) = 3) (hg1 : gC (S g1) = 1) (hf : f_X3_worthOf fu S a g1 x2 = some (z, w)) : Ct l yX3_worthOf w_X3_worthOf RM_X3_worthOf G S [.ref a, .ref g1, .int x2] (some (.int z)) w 0 0 := by
  refine Met.ofW (cc := cX3_worthOf) (maxL := 5) (ret := (some .int)) (by decide) rfl ?_
  intro p e s m args below meth c s₁ B hml hv
  obtain ⟨rfl, hB, hK, hz⟩ := hv
  have hM : MC G p s m _ c cX3_worthOf w_X3_worthOf RX3 := ⟨B.exec, B.bytes, findClass_of_methodNamed B.named, atoms_spec (ws := w_X3_worthOf) B.pre, hK, hz⟩
  have hW : WB G S s s.heap [] := ⟨hB, va_S.rf⟩
  have hl := lv_entry ([.ref a, .ref g1, .int x2]) (n := 5) (Nat.le_of_ble_eq_true rfl)
  rw [lg_entry_eq]
  generalize (lg_sl ([.ref a, .ref g1, .int x2]) ++ List.replicate (5 - (lg_sl ([.ref a, .ref g1, .int x2])).length) Slot.unset).toArray = ls at hl ⊢
  have hl : lv_has ls 5 [(0, .ref a), (1, .ref g1), (2, .int x2)] := hl
  exact t_X3_worthOf_0 (fu := fu) hM hml B.returns B.notSynchronized hf ha hg1 (fun _ _ => rfl) _ _ hW _ (lv_sub hl [0, 1, 2] rfl)
abbrev RM_X3_hardOf : Room := { frames := 2, cells := 0, slots := 0, locals := 49 }
abbrev w_X3_hardOf : List Cond := Cond.code yX3_hardOf cX3_hardOf 5 (some .int) :: wsL_law0
noncomputable def f_X3_hardOf_0 (fu : Nat)  (S : ST) (a : Nat) (g1 : Nat) (x2 : Int32) (x3 : Int32) : Option (Int32 × ST) :=
  bd (f_X3_slipsOn fu (S a) x2) fun r1 =>
  if (gR (S g1) 12) = none then
    (some ((r1 + x3), S))
  else
    (bd (gR (S g1) 12) fun q3 =>
    ck (decide (gC (S q3) = 4)) <|
    bd2 (f_X4_value fu (S q3) r1 x2 x3) fun r5 v6 =>
    nm (st S q3 v6) fun Sv6 =>
    some (r5, Sv6))
set_option maxHeartbeats 4000000 in
set_option maxRecDepth 100000 in
theorem t_X3_hardOf_0 {G : GG} {p : Program} {l : Launch} {e : Env} {s : State} {m : MethodId} {args : Array Value} {below : List Frame} {meth : Method} {c : Code} {S0 : ST} {fu : Nat} {z : Int32 × ST} {a : Nat} {g1 : Nat}  {S : ST} {x2 : Int32} {x3 : Int32} (hM : MC G p s m args c cX3_hardOf w_X3_hardOf RX3) (hml : c.maxLocals = 5) (hr : meth.sig.returnType = (some .int)) (hlk : meth.locks = false)   (hf : f_X3_hardOf_0 fu  S a g1 x2 x3 = some z) : (gC (S a) = 3) → (gC (S g1) = 1) → (∀ b, gC (S0 b) ≠ 0 → gC (S b) = gC (S0 b)) → ∀ (H : Heap) (locs : List Loc), WB G S s H locs → ∀ (ls : Array Slot), lv_has ls 5 [(0, .ref a), (1, .ref g1), (2, .int x2), (3, .int x3)] → W p l e RM_X3_hardOf s m args below meth c H locs 0 0 (QR G below args s (some (.int z.1)) S0 z.2) (F0 m 0 ls []) := by
  intro ha hg1 hK0 H locs hW ls hl
  have hx := hM.1
  have hb := hM.2.1
  refine lv_aload_n hx hb dX3_hardOf_0 rfl (lv_at hl 0 rfl) ?_
  refine lv_iload_n hx hb dX3_hardOf_1 rfl (lv_at hl 2 rfl) ?_
  obtain ⟨r1, hr1, hf⟩ := bd_elim hf
  refine s_callVi [.int x2] [] hM hml hl.1 hW ha rfl (by decide) (Ct_rd (c_X3_slipsOn l G fu _ a (S a) _ ha hr1)) (cwV 1 hM.2.2.2.1 (gV mk_RX3_86 im_X3_slipsOn se_X3_slipsOn it_RX3 cd_X3_slipsOn) rfl rfl rfl (by decide +kernel) ⟨Nat.le_of_ble_eq_true rfl, Nat.le_of_ble_eq_true rfl⟩) rfl rfl (Nat.le_of_ble_eq_true rfl) ⟨Nat.zero_le _, Nat.zero_le _⟩ dX3_hardOf_2 (fun H locs hW hk => ?_)
  refine lv_istore (lv' := [(4, .int r1), (0, .ref a), (1, .ref g1), (2, .int x2), (3, .int x3)]) hx hb dX3_hardOf_5 hl (by decide) rfl (fun ls hl => ?_)
  refine lv_aload_n hx hb dX3_hardOf_7 rfl (lv_at hl 2 rfl) ?_
  refine b_get hM (hW.at_ g1) 0 12 hg1 rfl rfl (by decide) wi_X1 (wgm fk_RX3_108) (x := va_rf (gR (S g1) 12)) rfl dX3_hardOf_8 ?_
  by_cases hnq2 : (gR (S g1) 12) = none
  · have hf := if_t hnq2 hf
    rw [hnq2]
    refine lv_ifnonnullN hx hb dX3_hardOf_11 ?_
    refine lv_iload hx hb dX3_hardOf_14 (lv_at hl 0 rfl) ?_
    refine lv_iload_n hx hb dX3_hardOf_16 rfl (lv_at hl 4 rfl) ?_
    refine lv_iadd hx hb dX3_hardOf_17 ?_
    refine lv_goto (tgt := 32) hx hb dX3_hardOf_18 (by decide) ?_
    cases hf
    exact W.iret hx hb hr (b_ret0 hW hK0 _) hW.2.2.2 dX3_hardOf_32 hlk
  · have hf := if_f hnq2 hf
    obtain ⟨q2, hq2⟩ := Option.ne_none_iff_exists'.mp hnq2
    rw [hq2]
    refine lv_ifnonnull (tgt := 21) hx hb dX3_hardOf_11 (by decide) ?_
    refine lv_aload_n hx hb dX3_hardOf_21 rfl (lv_at hl 2 rfl) ?_
    obtain ⟨q3, hq3, hf⟩ := bd_elim hf
    refine b_get hM (hW.at_ g1) 0 12 hg1 rfl rfl (by decide) wi_X1 (wgm fk_RX3_108) (x := .ref q3) (by show va_rf _ = _; rw [hq3]; rfl) dX3_hardOf_22 ?_
    obtain ⟨h4, hf⟩ := ck_elim hf
    have h4 := of_decide_eq_true h4
    refine lv_iload hx hb dX3_hardOf_25 (lv_at hl 0 rfl) ?_
    refine lv_iload_n hx hb dX3_hardOf_27 rfl (lv_at hl 3 rfl) ?_
    refine lv_iload_n hx hb dX3_hardOf_28 rfl (lv_at hl 4 rfl) ?_
    obtain ⟨r5, v6, hr5, hf⟩ := bd2_elim hf
    refine s_callNi [.int r1, .int x2, .int x3] [] hM hml hl.1 hW h4 rfl (by decide) (Ct_self (c_X4_value l G fu _ q3 (S q3) _ _ _ h4 hr5)) (cwV 3 hM.2.2.2.1 (gV mk_RX3_93 im_X4_value se_X4_value it_RX4 cd_X4_value) rfl rfl rfl (by decide +kernel) ⟨Nat.le_of_ble_eq_true rfl, Nat.le_of_ble_eq_true rfl⟩) rfl rfl (Nat.le_of_ble_eq_true rfl) ⟨Nat.zero_le _, Nat.zero_le _⟩ dX3_hardOf_29 (fun Sv6 ev6 hk H locs hW => ?_)
    have hf := nm_at ev6 hf
    have ha := keep1 hk ha
    have hg1 := keep1 hk hg1
    have h4 := keep1 hk h4
    have hK0 := keep_tr hK0 hk
    cases hf
    exact W.iret hx hb hr (b_ret0 hW hK0 _) hW.2.2.2 dX3_hardOf_32 hlk
noncomputable def f_X3_hardOf (fu : Nat) (S : ST) (a : Nat) (g1 : Nat) (x2 : Int32) (x3 : Int32) : Option (Int32 × ST) := f_X3_hardOf_0 fu S a g1 x2 x3
set_option maxHeartbeats 4000000 in
set_option maxRecDepth 100000 in
theorem c_X3_hardOf (l : Launch) (G : GG) (fu : Nat) (S : ST) (a : Nat) (g1 : Nat) (x2 : Int32) (x3 : Int32) {z : Int32} {w : ST} (ha : gC (S a) = 3) (hg1 : gC (S g1) = 1) (hf : f_X3_hardOf fu S a g1 x2 x3 = some (z, w)) : Ct l yX3_hardOf w_X3_hardOf RM_X3_hardOf G S [.ref a, .ref g1, .int x2, .int x3] (some (.int z)) w 0 0 := by
  refine Met.ofW (cc := cX3_hardOf) (maxL := 5) (ret := (some .int)) (by decide) rfl ?_
  intro p e s m args below meth c s₁ B hml hv
  obtain ⟨rfl, hB, hK, hz⟩ := hv
  have hM : MC G p s m _ c cX3_hardOf w_X3_hardOf RX3 := ⟨B.exec, B.bytes, findClass_of_methodNamed B.named, atoms_spec (ws := w_X3_hardOf) B.pre, hK, hz⟩
  have hW : WB G S s s.heap [] := ⟨hB, va_S.rf⟩
  have hl := lv_entry ([.ref a, .ref g1, .int x2, .int x3]) (n := 5) (Nat.le_of_ble_eq_true rfl)
  rw [lg_entry_eq]
  generalize (lg_sl ([.ref a, .ref g1, .int x2, .int x3]) ++ List.replicate (5 - (lg_sl ([.ref a, .ref g1, .int x2, .int x3])).length) Slot.unset).toArray = ls at hl ⊢
  have hl : lv_has ls 5 [(0, .ref a), (1, .ref g1), (2, .int x2), (3, .int x3)] := hl
  exact t_X3_hardOf_0 (fu := fu) hM hml B.returns B.notSynchronized hf ha hg1 (fun _ _ => rfl) _ _ hW _ (lv_sub hl [0, 1, 2, 3] rfl)
abbrev RM_X3_canComeIn : Room := { frames := 0, cells := 0, slots := 0, locals := 0 }
abbrev w_X3_canComeIn : List Cond := Cond.code yX3_canComeIn cX3_canComeIn 5 (some .boolean) :: wsL_law0
noncomputable def f_X3_canComeIn_49 (fu : Nat)  (S : ST) (a : Nat) (g1 : Nat) : Option (Int32) :=
  some ((0 : Int32))
set_option maxHeartbeats 4000000 in
set_option maxRecDepth 100000 in
theorem t_X3_canComeIn_49 {G : GG} {p : Program} {l : Launch} {e : Env} {s : State} {m : MethodId} {args : Array Value} {below : List Frame} {meth : Method} {c : Code} {S : ST} {fu : Nat} {z : Int32} {a : Nat} {g1 : Nat}  (hM : MC G p s m args c cX3_canComeIn w_X3_canComeIn RX3) (hml : c.maxLocals = 5) (hr : meth.sig.returnType = (some .boolean)) (hlk : meth.locks = false) (ha : gC (S a) = 3) (hg1 : gC (S g1) = 1)  (hf : f_X3_canComeIn_49 fu  S a g1  = some z) : ∀ (H : Heap) (locs : List Loc), WB G S s H locs → ∀ (ls : Array Slot), lv_has ls 5 [] → W p l e RM_X3_canComeIn s m args below meth c H locs 0 0 (QR G below args s (some (.int z)) S S) (F0 m 49 ls []) := by
  intro  H locs hW ls hl
  have hx := hM.1
  have hb := hM.2.1
  refine lv_iconst (v := (0 : Int32)) hx hb dX3_canComeIn_49 (by decide) ?_
  cases hf
  exact W.zret (v := (0 : Int32)) hx hb hr (by decide) (b_ret0 hW (fun _ _ => rfl) _) hW.2.2.2 dX3_canComeIn_50 hlk
noncomputable def f_X3_canComeIn_45 (fu : Nat)  (S : ST) (a : Nat) (g1 : Nat) : Option (Int32) :=
  some ((1 : Int32))
set_option maxHeartbeats 4000000 in
set_option maxRecDepth 100000 in
theorem t_X3_canComeIn_45 {G : GG} {p : Program} {l : Launch} {e : Env} {s : State} {m : MethodId} {args : Array Value} {below : List Frame} {meth : Method} {c : Code} {S : ST} {fu : Nat} {z : Int32} {a : Nat} {g1 : Nat}  (hM : MC G p s m args c cX3_canComeIn w_X3_canComeIn RX3) (hml : c.maxLocals = 5) (hr : meth.sig.returnType = (some .boolean)) (hlk : meth.locks = false) (ha : gC (S a) = 3) (hg1 : gC (S g1) = 1)  (hf : f_X3_canComeIn_45 fu  S a g1  = some z) : ∀ (H : Heap) (locs : List Loc), WB G S s H locs → ∀ (ls : Array Slot), lv_has ls 5 [] → W p l e RM_X3_canComeIn s m args below meth c H locs 0 0 (QR G below args s (some (.int z)) S S) (F0 m 45 ls []) := by
  intro  H locs hW ls hl
  have hx := hM.1
  have hb := hM.2.1
  refine lv_iconst (v := (1 : Int32)) hx hb dX3_canComeIn_45 (by decide) ?_
  refine lv_goto (tgt := 50) hx hb dX3_canComeIn_46 (by decide) ?_
  cases hf
  exact W.zret (v := (1 : Int32)) hx hb hr (by decide) (b_ret0 hW (fun _ _ => rfl) _) hW.2.2.2 dX3_canComeIn_50 hlk
noncomputable def f_X3_canComeIn_28 (fu : Nat)  (S : ST) (a : Nat) (g1 : Nat) (x3 : Int32) (t0 : Int32) : Option (Int32) :=
  if x3 = (1 : Int32) then
    (f_X3_canComeIn_45 fu S a g1)
  else
    (if x3 = (3 : Int32) then
      (f_X3_canComeIn_49 fu S a g1)
    else
      (if t0 = 0 then
        (f_X3_canComeIn_49 fu S a g1)
      else
        (f_X3_canComeIn_45 fu S a g1)))
set_option maxHeartbeats 4000000 in
set_option maxRecDepth 100000 in
theorem t_X3_canComeIn_28 {G : GG} {p : Program} {l : Launch} {e : Env} {s : State} {m : MethodId} {args : Array Value} {below : List Frame} {meth : Method} {c : Code} {S : ST} {fu : Nat} {z : Int32} {a : Nat} {g1 : Nat}  {x3 : Int32} {t0 : Int32} (hM : MC G p s m args c cX3_canComeIn w_X3_canComeIn RX3) (hml : c.maxLocals = 5) (hr : meth.sig.returnType = (some .boolean)) (hlk : meth.locks = false) (ha : gC (S a) = 3) (hg1 : gC (S g1) = 1)  (hf : f_X3_canComeIn_28 fu  S a g1 x3 t0 = some z) : ∀ (H : Heap) (locs : List Loc), WB G S s H locs → ∀ (ls : Array Slot), lv_has ls 5 [(3, .int x3)] → W p l e RM_X3_canComeIn s m args below meth c H locs 0 0 (QR G below args s (some (.int z)) S S) (F0 m 28 ls [.int t0]) := by
  intro  H locs hW ls hl
  have hx := hM.1
  have hb := hM.2.1
  refine lv_istore (lv' := [(4, .int t0), (3, .int x3)]) hx hb dX3_canComeIn_28 hl (by decide) rfl (fun ls hl => ?_)
  refine lv_iload_n hx hb dX3_canComeIn_30 rfl (lv_at hl 1 rfl) ?_
  refine lv_iconst (v := (1 : Int32)) hx hb dX3_canComeIn_31 (by decide) ?_
  refine lv_icmp_eq (tgt := 45) hx hb dX3_canComeIn_32 (by decide) (fun c1 => ?_) (fun c1 => ?_)
  · have hf := if_t c1 hf
    exact t_X3_canComeIn_45 (fu := fu) hM hml hr hlk ha hg1 hf _ _ hW _ (lv_sub hl [] rfl)
  · have hf := if_f c1 hf
    refine lv_iload_n hx hb dX3_canComeIn_35 rfl (lv_at hl 1 rfl) ?_
    refine lv_iconst (v := (3 : Int32)) hx hb dX3_canComeIn_36 (by decide) ?_
    refine lv_icmp_eq (tgt := 49) hx hb dX3_canComeIn_37 (by decide) (fun c2 => ?_) (fun c2 => ?_)
    · have hf := if_t c2 hf
      exact t_X3_canComeIn_49 (fu := fu) hM hml hr hlk ha hg1 hf _ _ hW _ (lv_sub hl [] rfl)
    · have hf := if_f c2 hf
      refine lv_iload hx hb dX3_canComeIn_40 (lv_at hl 0 rfl) ?_
      refine lv_if_eq (tgt := 49) hx hb dX3_canComeIn_42 (by decide) (fun c3 => ?_) (fun c3 => ?_)
      · have hf := if_t c3 hf
        exact t_X3_canComeIn_49 (fu := fu) hM hml hr hlk ha hg1 hf _ _ hW _ (lv_sub hl [] rfl)
      · have hf := if_f c3 hf
        exact t_X3_canComeIn_45 (fu := fu) hM hml hr hlk ha hg1 hf _ _ hW _ (lv_sub hl [] rfl)
noncomputable def f_X3_canComeIn_0 (fu : Nat)  (S : ST) (a : Nat) (g1 : Nat) (x2 : Int32) : Option (Int32) :=
  ck (inb x2 5) <|
  nm ((gA (S g1) 3 x2.toNatClampNeg)) fun y2 =>
  ck (inb x2 5) <|
  if ((gA (S g1) 5 x2.toNatClampNeg) &&& ((gI (S a) 9) ^^^ (-1 : Int32))) = 0 then
    (f_X3_canComeIn_28 fu S a g1 y2 (0 : Int32))
  else
    (f_X3_canComeIn_28 fu S a g1 y2 (1 : Int32))
set_option maxHeartbeats 4000000 in
set_option maxRecDepth 100000 in
theorem t_X3_canComeIn_0 {G : GG} {p : Program} {l : Launch} {e : Env} {s : State} {m : MethodId} {args : Array Value} {below : List Frame} {meth : Method} {c : Code} {S : ST} {fu : Nat} {z : Int32} {a : Nat} {g1 : Nat}  {x2 : Int32} (hM : MC G p s m args c cX3_canComeIn w_X3_canComeIn RX3) (hml : c.maxLocals = 5) (hr : meth.sig.returnType = (some .boolean)) (hlk : meth.locks = false) (ha : gC (S a) = 3) (hg1 : gC (S g1) = 1)  (hf : f_X3_canComeIn_0 fu  S a g1 x2 = some z) : ∀ (H : Heap) (locs : List Loc), WB G S s H locs → ∀ (ls : Array Slot), lv_has ls 5 [(0, .ref a), (1, .ref g1), (2, .int x2)] → W p l e RM_X3_canComeIn s m args below meth c H locs 0 0 (QR G below args s (some (.int z)) S S) (F0 m 0 ls []) := by
  intro  H locs hW ls hl
  have hx := hM.1
  have hb := hM.2.1
  refine lv_aload_n hx hb dX3_canComeIn_0 rfl (lv_at hl 1 rfl) ?_
  refine b_get hM (hW.at_ g1) 0 3 hg1 rfl rfl (by decide) wi_X1 (wgm fk_RX3_111) (x := .ref (g1 + 4)) rfl dX3_canComeIn_1 ?_
  refine lv_iload_n hx hb dX3_canComeIn_4 rfl (lv_at hl 2 rfl) ?_
  obtain ⟨h1, hf⟩ := ck_elim hf
  refine b_iald (n := 5) hM (hW.at_ g1) 0 3 hg1 (by decide) rfl rfl rfl rfl h1 dX3_canComeIn_5 ?_
  refine lv_topi (fun y2 ey2 => ?_)
  have hf := nm_at ey2 hf
  refine lv_istore_n (lv' := [(3, .int y2), (0, .ref a), (1, .ref g1), (2, .int x2)]) hx hb dX3_canComeIn_6 rfl hl (by decide) rfl (fun ls hl => ?_)
  refine lv_aload_n hx hb dX3_canComeIn_7 rfl (lv_at hl 2 rfl) ?_
  refine b_get hM (hW.at_ g1) 0 5 hg1 rfl rfl (by decide) wi_X1 (wgm fk_RX3_114) (x := .ref (g1 + 6)) rfl dX3_canComeIn_8 ?_
  refine lv_iload_n hx hb dX3_canComeIn_11 rfl (lv_at hl 3 rfl) ?_
  obtain ⟨h3, hf⟩ := ck_elim hf
  refine b_iald (n := 5) hM (hW.at_ g1) 0 5 hg1 (by decide) rfl rfl rfl rfl h3 dX3_canComeIn_12 ?_
  refine lv_aload_n hx hb dX3_canComeIn_13 rfl (lv_at hl 1 rfl) ?_
  refine b_get hM (hW.at_ a) 2 9 ha rfl rfl (by decide) wi_X3 (wgm fk_RX3_40) (x := .int (gI (S a) 9)) rfl dX3_canComeIn_14 ?_
  refine lv_iconst (v := (-1 : Int32)) hx hb dX3_canComeIn_17 (by decide) ?_
  refine lv_ixor hx hb dX3_canComeIn_18 ?_
  refine lv_iand hx hb dX3_canComeIn_19 ?_
  refine lv_if_eq (tgt := 27) hx hb dX3_canComeIn_20 (by decide) (fun c4 => ?_) (fun c4 => ?_)
  · have hf := if_t c4 hf
    refine lv_iconst (v := (0 : Int32)) hx hb dX3_canComeIn_27 (by decide) ?_
    exact t_X3_canComeIn_28 (fu := fu) hM hml hr hlk ha hg1 hf _ _ hW _ (lv_sub hl [0] rfl)
  · have hf := if_f c4 hf
    refine lv_iconst (v := (1 : Int32)) hx hb dX3_canComeIn_23 (by decide) ?_
    refine lv_goto (tgt := 28) hx hb dX3_canComeIn_24 (by decide) ?_
    exact t_X3_canComeIn_28 (fu := fu) hM hml hr hlk ha hg1 hf _ _ hW _ (lv_sub hl [0] rfl)
noncomputable def f_X3_canComeIn (fu : Nat) (S : ST) (a : Nat) (g1 : Nat) (x2 : Int32) : Option (Int32) := f_X3_canComeIn_0 fu S a g1 x2
set_option maxHeartbeats 4000000 in
set_option maxRecDepth 100000 in
theorem c_X3_canComeIn (l : Launch) (G : GG) (fu : Nat) (S : ST) (a : Nat) (g1 : Nat) (x2 : Int32) {z : Int32} (ha : gC (S a) = 3) (hg1 : gC (S g1) = 1) (hf : f_X3_canComeIn fu S a g1 x2 = some z) : Ct l yX3_canComeIn w_X3_canComeIn RM_X3_canComeIn G S [.ref a, .ref g1, .int x2] (some (.int z)) S 0 0 := by
  refine Met.ofW (cc := cX3_canComeIn) (maxL := 5) (ret := (some .boolean)) (by decide) rfl ?_
  intro p e s m args below meth c s₁ B hml hv
  obtain ⟨rfl, hB, hK, hz⟩ := hv
  have hM : MC G p s m _ c cX3_canComeIn w_X3_canComeIn RX3 := ⟨B.exec, B.bytes, findClass_of_methodNamed B.named, atoms_spec (ws := w_X3_canComeIn) B.pre, hK, hz⟩
  have hW : WB G S s s.heap [] := ⟨hB, va_S.rf⟩
  have hl := lv_entry ([.ref a, .ref g1, .int x2]) (n := 5) (Nat.le_of_ble_eq_true rfl)
  rw [lg_entry_eq]
  generalize (lg_sl ([.ref a, .ref g1, .int x2]) ++ List.replicate (5 - (lg_sl ([.ref a, .ref g1, .int x2])).length) Slot.unset).toArray = ls at hl ⊢
  have hl : lv_has ls 5 [(0, .ref a), (1, .ref g1), (2, .int x2)] := hl
  exact t_X3_canComeIn_0 (fu := fu) hM hml B.returns B.notSynchronized ha hg1 hf _ _ hW _ (lv_sub hl [0, 1, 2] rfl)
abbrev RM_X3_swap : Room := { frames := 2, cells := 0, slots := 0, locals := 44 }
abbrev w_X3_swap : List Cond := Cond.code yX3_swap cX3_swap 5 (some .int) :: wsL_law0
noncomputable def f_X3_swap_76 (fu : Nat)  (S : ST) (a : Nat) (g1 : Nat) (x4 : Int32) : Option (Int32 × ST) :=
  some (x4, S)
set_option maxHeartbeats 4000000 in
set_option maxRecDepth 100000 in
theorem t_X3_swap_76 {G : GG} {p : Program} {l : Launch} {e : Env} {s : State} {m : MethodId} {args : Array Value} {below : List Frame} {meth : Method} {c : Code} {S0 : ST} {fu : Nat} {z : Int32 × ST} {a : Nat} {g1 : Nat}  {S : ST} {x4 : Int32} (hM : MC G p s m args c cX3_swap w_X3_swap RX3) (hml : c.maxLocals = 5) (hr : meth.sig.returnType = (some .int)) (hlk : meth.locks = false)   (hf : f_X3_swap_76 fu  S a g1 x4 = some z) : (gC (S a) = 3) → (gC (S g1) = 1) → (∀ b, gC (S0 b) ≠ 0 → gC (S b) = gC (S0 b)) → ∀ (H : Heap) (locs : List Loc), WB G S s H locs → ∀ (ls : Array Slot), lv_has ls 5 [(4, .int x4)] → W p l e RM_X3_swap s m args below meth c H locs 0 0 (QR G below args s (some (.int z.1)) S0 z.2) (F0 m 76 ls []) := by
  intro ha hg1 hK0 H locs hW ls hl
  have hx := hM.1
  have hb := hM.2.1
  refine lv_iload hx hb dX3_swap_76 (lv_at hl 0 rfl) ?_
  cases hf
  exact W.iret hx hb hr (b_ret0 hW hK0 _) hW.2.2.2 dX3_swap_78 hlk
noncomputable def f_X3_swap_19 (fu : Nat)  (S : ST) (a : Nat) (g1 : Nat) : Option (Int32 × ST) :=
  some ((-1 : Int32), S)
set_option maxHeartbeats 4000000 in
set_option maxRecDepth 100000 in
theorem t_X3_swap_19 {G : GG} {p : Program} {l : Launch} {e : Env} {s : State} {m : MethodId} {args : Array Value} {below : List Frame} {meth : Method} {c : Code} {S0 : ST} {fu : Nat} {z : Int32 × ST} {a : Nat} {g1 : Nat}  {S : ST} (hM : MC G p s m args c cX3_swap w_X3_swap RX3) (hml : c.maxLocals = 5) (hr : meth.sig.returnType = (some .int)) (hlk : meth.locks = false)   (hf : f_X3_swap_19 fu  S a g1  = some z) : (gC (S a) = 3) → (gC (S g1) = 1) → (∀ b, gC (S0 b) ≠ 0 → gC (S b) = gC (S0 b)) → ∀ (H : Heap) (locs : List Loc), WB G S s H locs → ∀ (ls : Array Slot), lv_has ls 5 [] → W p l e RM_X3_swap s m args below meth c H locs 0 0 (QR G below args s (some (.int z.1)) S0 z.2) (F0 m 19 ls []) := by
  intro ha hg1 hK0 H locs hW ls hl
  have hx := hM.1
  have hb := hM.2.1
  refine lv_iconst (v := (-1 : Int32)) hx hb dX3_swap_19 (by decide) ?_
  cases hf
  exact W.iret hx hb hr (b_ret0 hW hK0 _) hW.2.2.2 dX3_swap_20 hlk
noncomputable def f_X3_swap_0 (fu : Nat)  (S : ST) (a : Nat) (g1 : Nat) (x2 : Int32) (x3 : Int32) : Option (Int32 × ST) :=
  bd (f_X3_isHeld fu S a g1 x2 x3) fun r1 =>
  if r1 = 0 then
    (f_X3_swap_19 fu S a g1)
  else
    (bd (f_X3_canComeIn fu S a g1 x2) fun r3 =>
    if r3 = 0 then
      (f_X3_swap_19 fu S a g1)
    else
      (nm ((gI (S a) 8)) fun y5 =>
      ck (inb x3 8) <|
      nm (st S a (sA (S a) 4 x3.toNatClampNeg (5 : Int32))) fun S7 =>
      ck (inb y5 8) <|
      nm (st S7 a (sA (S7 a) 4 y5.toNatClampNeg x2)) fun S9 =>
      nm (st S9 a (sI (S9 a) 8 x3)) fun S10 =>
      ck (inb x2 5) <|
      if (gA (S10 g1) 3 x2.toNatClampNeg) = (2 : Int32) then
        (ck (inb y5 8) <|
        ck (inb y5 8) <|
        nm (((gA (S10 a) 0 y5.toNatClampNeg) &&& ((gA (S10 a) 0 y5.toNatClampNeg) - (1 : Int32)))) fun y15 =>
        ck (inb y5 8) <|
        nm (st S10 a (sA (S10 a) 0 y5.toNatClampNeg y15)) fun S17 =>
        f_X3_swap_76 fu S17 a g1 y5)
      else
        (f_X3_swap_76 fu S10 a g1 y5)))
set_option maxHeartbeats 4000000 in
set_option maxRecDepth 100000 in
theorem t_X3_swap_0 {G : GG} {p : Program} {l : Launch} {e : Env} {s : State} {m : MethodId} {args : Array Value} {below : List Frame} {meth : Method} {c : Code} {S0 : ST} {fu : Nat} {z : Int32 × ST} {a : Nat} {g1 : Nat}  {S : ST} {x2 : Int32} {x3 : Int32} (hM : MC G p s m args c cX3_swap w_X3_swap RX3) (hml : c.maxLocals = 5) (hr : meth.sig.returnType = (some .int)) (hlk : meth.locks = false)   (hf : f_X3_swap_0 fu  S a g1 x2 x3 = some z) : (gC (S a) = 3) → (gC (S g1) = 1) → (∀ b, gC (S0 b) ≠ 0 → gC (S b) = gC (S0 b)) → ∀ (H : Heap) (locs : List Loc), WB G S s H locs → ∀ (ls : Array Slot), lv_has ls 5 [(0, .ref a), (1, .ref g1), (2, .int x2), (3, .int x3)] → W p l e RM_X3_swap s m args below meth c H locs 0 0 (QR G below args s (some (.int z.1)) S0 z.2) (F0 m 0 ls []) := by
  intro ha hg1 hK0 H locs hW ls hl
  have hx := hM.1
  have hb := hM.2.1
  refine lv_aload_n hx hb dX3_swap_0 rfl (lv_at hl 0 rfl) ?_
  refine lv_aload_n hx hb dX3_swap_1 rfl (lv_at hl 1 rfl) ?_
  refine lv_iload_n hx hb dX3_swap_2 rfl (lv_at hl 2 rfl) ?_
  refine lv_iload_n hx hb dX3_swap_3 rfl (lv_at hl 3 rfl) ?_
  obtain ⟨r1, hr1, hf⟩ := bd_elim hf
  refine s_callVi [.ref g1, .int x2, .int x3] [] hM hml hl.1 hW ha rfl (by decide) (c_X3_isHeld l G fu _ a _ _ _ ha hg1 hr1) (cwV 3 hM.2.2.2.1 (gV mk_RX3_117 im_X3_isHeld se_X3_isHeld it_RX3 cd_X3_isHeld) rfl rfl rfl (by decide +kernel) ⟨Nat.le_of_ble_eq_true rfl, Nat.le_of_ble_eq_true rfl⟩) rfl rfl (Nat.le_of_ble_eq_true rfl) ⟨Nat.zero_le _, Nat.zero_le _⟩ dX3_swap_4 (fun H locs hW hk => ?_)
  refine lv_if_eq (tgt := 19) hx hb dX3_swap_7 (by decide) (fun c2 => ?_) (fun c2 => ?_)
  · have hf := if_t c2 hf
    exact t_X3_swap_19 (fu := fu) hM hml hr hlk hf ha hg1 hK0 _ _ hW _ (lv_sub hl [] rfl)
  · have hf := if_f c2 hf
    refine lv_aload_n hx hb dX3_swap_10 rfl (lv_at hl 0 rfl) ?_
    refine lv_aload_n hx hb dX3_swap_11 rfl (lv_at hl 1 rfl) ?_
    refine lv_iload_n hx hb dX3_swap_12 rfl (lv_at hl 2 rfl) ?_
    obtain ⟨r3, hr3, hf⟩ := bd_elim hf
    refine s_callVi [.ref g1, .int x2] [] hM hml hl.1 hW ha rfl (by decide) (c_X3_canComeIn l G fu _ a _ _ ha hg1 hr3) (cwV 2 hM.2.2.2.1 (gV mk_RX3_121 im_X3_canComeIn se_X3_canComeIn it_RX3 cd_X3_canComeIn) rfl rfl rfl (by decide +kernel) ⟨Nat.le_of_ble_eq_true rfl, Nat.le_of_ble_eq_true rfl⟩) rfl rfl (Nat.le_of_ble_eq_true rfl) ⟨Nat.zero_le _, Nat.zero_le _⟩ dX3_swap_13 (fun H locs hW hk => ?_)
    refine lv_if_ne (tgt := 21) hx hb dX3_swap_16 (by decide) (fun c4 => ?_) (fun c4 => ?_)
    · have hf := if_f c4 hf
      refine lv_aload_n hx hb dX3_swap_21 rfl (lv_at hl 0 rfl) ?_
      refine b_get hM (hW.at_ a) 2 8 ha rfl rfl (by decide) wi_X3 (wgm fk_RX3_37) (x := .int (gI (S a) 8)) rfl dX3_swap_22 ?_
      refine lv_topi (fun y5 ey5 => ?_)
      have hf := nm_at ey5 hf
      refine lv_istore (lv' := [(4, .int y5), (0, .ref a), (1, .ref g1), (2, .int x2), (3, .int x3)]) hx hb dX3_swap_25 hl (by decide) rfl (fun ls hl => ?_)
      refine lv_aload_n hx hb dX3_swap_27 rfl (lv_at hl 1 rfl) ?_
      refine b_get hM (hW.at_ a) 2 4 ha rfl rfl (by decide) wi_X3 (wgm fk_RX3_24) (x := .ref (a + 5)) rfl dX3_swap_28 ?_
      refine lv_iload_n hx hb dX3_swap_31 rfl (lv_at hl 4 rfl) ?_
      refine lv_iconst (v := (5 : Int32)) hx hb dX3_swap_32 (by decide) ?_
      obtain ⟨h6, hf⟩ := ck_elim hf
      refine s_iast (n := 8) hM hW 2 4 ha (by decide) rfl rfl rfl rfl h6 dX3_swap_33 (fun S7 eS7 hk H locs hW => ?_)
      have hf := nm_at eS7 hf
      have ha := keep1 hk ha
      have hg1 := keep1 hk hg1
      have hK0 := keep_tr hK0 hk
      refine lv_aload_n hx hb dX3_swap_34 rfl (lv_at hl 1 rfl) ?_
      refine b_get hM (hW.at_ a) 2 4 ha rfl rfl (by decide) wi_X3 (wgm fk_RX3_24) (x := .ref (a + 5)) rfl dX3_swap_35 ?_
      refine lv_iload hx hb dX3_swap_38 (lv_at hl 0 rfl) ?_
      refine lv_iload_n hx hb dX3_swap_40 rfl (lv_at hl 3 rfl) ?_
      obtain ⟨h8, hf⟩ := ck_elim hf
      refine s_iast (n := 8) hM hW 2 4 ha (by decide) rfl rfl rfl rfl h8 dX3_swap_41 (fun S9 eS9 hk H locs hW => ?_)
      have hf := nm_at eS9 hf
      have ha := keep1 hk ha
      have hg1 := keep1 hk hg1
      have hK0 := keep_tr hK0 hk
      refine lv_aload_n hx hb dX3_swap_42 rfl (lv_at hl 1 rfl) ?_
      refine lv_iload_n hx hb dX3_swap_43 rfl (lv_at hl 4 rfl) ?_
      refine s_putI hM hW 2 8 ha rfl rfl (by decide) wi_X3 tyX3 tyX3_ok nmX3 (wgm fk_RX3_37) rfl rfl rfl dX3_swap_44 (fun S10 eS10 hk H locs hW => ?_)
      have hf := nm_at eS10 hf
      have ha := keep1 hk ha
      have hg1 := keep1 hk hg1
      have hK0 := keep_tr hK0 hk
      refine lv_aload_n hx hb dX3_swap_47 rfl (lv_at hl 2 rfl) ?_
      refine b_get hM (hW.at_ g1) 0 3 hg1 rfl rfl (by decide) wi_X1 (wgm fk_RX3_111) (x := .ref (g1 + 4)) rfl dX3_swap_48 ?_
      refine lv_iload_n hx hb dX3_swap_51 rfl (lv_at hl 3 rfl) ?_
      obtain ⟨h11, hf⟩ := ck_elim hf
      refine b_iald (n := 5) hM (hW.at_ g1) 0 3 hg1 (by decide) rfl rfl rfl rfl h11 dX3_swap_52 ?_
      refine lv_iconst (v := (2 : Int32)) hx hb dX3_swap_53 (by decide) ?_
      refine lv_icmp_ne (tgt := 76) hx hb dX3_swap_54 (by decide) (fun c12 => ?_) (fun c12 => ?_)
      · have hf := if_f c12 hf
        exact t_X3_swap_76 (fu := fu) hM hml hr hlk hf ha hg1 hK0 _ _ hW _ (lv_sub hl [0] rfl)
      · have hf := if_t c12 hf
        refine lv_aload_n hx hb dX3_swap_57 rfl (lv_at hl 1 rfl) ?_
        refine b_get hM (hW.at_ a) 2 0 ha rfl rfl (by decide) wi_X3 (wgm fk_RX3_9) (x := .ref (a + 1)) rfl dX3_swap_58 ?_
        refine lv_iload hx hb dX3_swap_61 (lv_at hl 0 rfl) ?_
        refine lv_dup2_11 hx hb dX3_swap_63 rfl rfl ?_
        obtain ⟨h13, hf⟩ := ck_elim hf
        refine b_iald (n := 8) hM (hW.at_ a) 2 0 ha (by decide) rfl rfl rfl rfl h13 dX3_swap_64 ?_
        refine lv_aload_n hx hb dX3_swap_65 rfl (lv_at hl 1 rfl) ?_
        refine b_get hM (hW.at_ a) 2 0 ha rfl rfl (by decide) wi_X3 (wgm fk_RX3_9) (x := .ref (a + 1)) rfl dX3_swap_66 ?_
        refine lv_iload hx hb dX3_swap_69 (lv_at hl 0 rfl) ?_
        obtain ⟨h14, hf⟩ := ck_elim hf
        refine b_iald (n := 8) hM (hW.at_ a) 2 0 ha (by decide) rfl rfl rfl rfl h14 dX3_swap_71 ?_
        refine lv_iconst (v := (1 : Int32)) hx hb dX3_swap_72 (by decide) ?_
        refine lv_isub hx hb dX3_swap_73 ?_
        refine lv_iand hx hb dX3_swap_74 ?_
        refine lv_topi (fun y15 ey15 => ?_)
        have hf := nm_at ey15 hf
        obtain ⟨h16, hf⟩ := ck_elim hf
        refine s_iast (n := 8) hM hW 2 0 ha (by decide) rfl rfl rfl rfl h16 dX3_swap_75 (fun S17 eS17 hk H locs hW => ?_)
        have hf := nm_at eS17 hf
        have ha := keep1 hk ha
        have hg1 := keep1 hk hg1
        have hK0 := keep_tr hK0 hk
        exact t_X3_swap_76 (fu := fu) hM hml hr hlk hf ha hg1 hK0 _ _ hW _ (lv_sub hl [0] rfl)
    · have hf := if_t c4 hf
      exact t_X3_swap_19 (fu := fu) hM hml hr hlk hf ha hg1 hK0 _ _ hW _ (lv_sub hl [] rfl)
noncomputable def f_X3_swap (fu : Nat) (S : ST) (a : Nat) (g1 : Nat) (x2 : Int32) (x3 : Int32) : Option (Int32 × ST) := f_X3_swap_0 fu S a g1 x2 x3
set_option maxHeartbeats 4000000 in
set_option maxRecDepth 100000 in
theorem c_X3_swap (l : Launch) (G : GG) (fu : Nat) (S : ST) (a : Nat) (g1 : Nat) (x2 : Int32) (x3 : Int32) {z : Int32} {w : ST} (ha : gC (S a) = 3) (hg1 : gC (S g1) = 1) (hf : f_X3_swap fu S a g1 x2 x3 = some (z, w)) : Ct l yX3_swap w_X3_swap RM_X3_swap G S [.ref a, .ref g1, .int x2, .int x3] (some (.int z)) w 0 0 := by
  refine Met.ofW (cc := cX3_swap) (maxL := 5) (ret := (some .int)) (by decide) rfl ?_
  intro p e s m args below meth c s₁ B hml hv
  obtain ⟨rfl, hB, hK, hz⟩ := hv
  have hM : MC G p s m _ c cX3_swap w_X3_swap RX3 := ⟨B.exec, B.bytes, findClass_of_methodNamed B.named, atoms_spec (ws := w_X3_swap) B.pre, hK, hz⟩
  have hW : WB G S s s.heap [] := ⟨hB, va_S.rf⟩
  have hl := lv_entry ([.ref a, .ref g1, .int x2, .int x3]) (n := 5) (Nat.le_of_ble_eq_true rfl)
  rw [lg_entry_eq]
  generalize (lg_sl ([.ref a, .ref g1, .int x2, .int x3]) ++ List.replicate (5 - (lg_sl ([.ref a, .ref g1, .int x2, .int x3])).length) Slot.unset).toArray = ls at hl ⊢
  have hl : lv_has ls 5 [(0, .ref a), (1, .ref g1), (2, .int x2), (3, .int x3)] := hl
  exact t_X3_swap_0 (fu := fu) hM hml B.returns B.notSynchronized hf ha hg1 (fun _ _ => rfl) _ _ hW _ (lv_sub hl [0, 1, 2, 3] rfl)
abbrev RM_X3_copyOf : Room := { frames := 3, cells := 0, slots := 0, locals := 73 }
abbrev w_X3_copyOf : List Cond := Cond.code yX3_copyOf cX3_copyOf 6 (some .int) :: wsL_law0
noncomputable def f_X3_copyOf_81 (fu : Nat)  (S : ST) (a : Nat) (g1 : Nat) : Option (Int32 × ST) :=
  some ((-1 : Int32), S)
set_option maxHeartbeats 4000000 in
set_option maxRecDepth 100000 in
theorem t_X3_copyOf_81 {G : GG} {p : Program} {l : Launch} {e : Env} {s : State} {m : MethodId} {args : Array Value} {below : List Frame} {meth : Method} {c : Code} {S0 : ST} {fu : Nat} {z : Int32 × ST} {a : Nat} {g1 : Nat}  {S : ST} (hM : MC G p s m args c cX3_copyOf w_X3_copyOf RX3) (hml : c.maxLocals = 6) (hr : meth.sig.returnType = (some .int)) (hlk : meth.locks = false)   (hf : f_X3_copyOf_81 fu  S a g1  = some z) : (gC (S a) = 3) → (gC (S g1) = 1) → (∀ b, gC (S0 b) ≠ 0 → gC (S b) = gC (S0 b)) → ∀ (H : Heap) (locs : List Loc), WB G S s H locs → ∀ (ls : Array Slot), lv_has ls 6 [] → W p l e RM_X3_copyOf s m args below meth c H locs 0 0 (QR G below args s (some (.int z.1)) S0 z.2) (F0 m 81 ls []) := by
  intro ha hg1 hK0 H locs hW ls hl
  have hx := hM.1
  have hb := hM.2.1
  refine lv_iconst (v := (-1 : Int32)) hx hb dX3_copyOf_81 (by decide) ?_
  cases hf
  exact W.iret hx hb hr (b_ret0 hW hK0 _) hW.2.2.2 dX3_copyOf_82 hlk
noncomputable def f_X3_copyOf_51 (fu : Nat)  (S : ST) (a : Nat) (g1 : Nat) (x2 : Int32) (x3 : Int32) (x4 : Int32) (t0 : Int32) : Option (Int32 × ST) :=
  ck (inb x3 8) <|
  if (gA (S a) 4 x3.toNatClampNeg) = t0 then
    (ck (inb x2 5) <|
    bd2 (f_X3_hardOf fu S a g1 x3 x4) fun r4 S5 =>
    if r4 ≤ (gA (S g1) 4 x2.toNatClampNeg) then
      (bd (f_X3_addPiece fu (S5 a) x3 ((1 : Int32) <<< (x4 &&& 31)) x2) fun v8 =>
      nm (st S5 a v8) fun Sv8 =>
      some (((gI (Sv8 a) 7) - (1 : Int32)), Sv8))
    else
      (f_X3_copyOf_81 fu S5 a g1))
  else
    (f_X3_copyOf_81 fu S a g1)
set_option maxHeartbeats 4000000 in
set_option maxRecDepth 100000 in
theorem t_X3_copyOf_51 {G : GG} {p : Program} {l : Launch} {e : Env} {s : State} {m : MethodId} {args : Array Value} {below : List Frame} {meth : Method} {c : Code} {S0 : ST} {fu : Nat} {z : Int32 × ST} {a : Nat} {g1 : Nat}  {S : ST} {x2 : Int32} {x3 : Int32} {x4 : Int32} {t0 : Int32} (hM : MC G p s m args c cX3_copyOf w_X3_copyOf RX3) (hml : c.maxLocals = 6) (hr : meth.sig.returnType = (some .int)) (hlk : meth.locks = false)   (hf : f_X3_copyOf_51 fu  S a g1 x2 x3 x4 t0 = some z) : (gC (S a) = 3) → (gC (S g1) = 1) → (∀ b, gC (S0 b) ≠ 0 → gC (S b) = gC (S0 b)) → ∀ (H : Heap) (locs : List Loc), WB G S s H locs → ∀ (ls : Array Slot), lv_has ls 6 [(0, .ref a), (1, .ref g1), (2, .int x2), (3, .int x3), (4, .int x4)] → W p l e RM_X3_copyOf s m args below meth c H locs 0 0 (QR G below args s (some (.int z.1)) S0 z.2) (F0 m 51 ls [.int t0]) := by
  intro ha hg1 hK0 H locs hW ls hl
  have hx := hM.1
  have hb := hM.2.1
  refine lv_istore (lv' := [(5, .int t0), (0, .ref a), (1, .ref g1), (2, .int x2), (3, .int x3), (4, .int x4)]) hx hb dX3_copyOf_51 hl (by decide) rfl (fun ls hl => ?_)
  refine lv_aload_n hx hb dX3_copyOf_53 rfl (lv_at hl 1 rfl) ?_
  refine b_get hM (hW.at_ a) 2 4 ha rfl rfl (by decide) wi_X3 (wgm fk_RX3_24) (x := .ref (a + 5)) rfl dX3_copyOf_54 ?_
  refine lv_iload_n hx hb dX3_copyOf_57 rfl (lv_at hl 4 rfl) ?_
  obtain ⟨h1, hf⟩ := ck_elim hf
  refine b_iald (n := 8) hM (hW.at_ a) 2 4 ha (by decide) rfl rfl rfl rfl h1 dX3_copyOf_58 ?_
  refine lv_iload hx hb dX3_copyOf_59 (lv_at hl 0 rfl) ?_
  refine lv_icmp_ne (tgt := 81) hx hb dX3_copyOf_61 (by decide) (fun c2 => ?_) (fun c2 => ?_)
  · have hf := if_f c2 hf
    exact t_X3_copyOf_81 (fu := fu) hM hml hr hlk hf ha hg1 hK0 _ _ hW _ (lv_sub hl [] rfl)
  · have hf := if_t c2 hf
    refine lv_aload_n hx hb dX3_copyOf_64 rfl (lv_at hl 2 rfl) ?_
    refine b_get hM (hW.at_ g1) 0 4 hg1 rfl rfl (by decide) wi_X1 (wgm fk_RX3_128) (x := .ref (g1 + 5)) rfl dX3_copyOf_65 ?_
    refine lv_iload_n hx hb dX3_copyOf_68 rfl (lv_at hl 3 rfl) ?_
    obtain ⟨h3, hf⟩ := ck_elim hf
    refine b_iald (n := 5) hM (hW.at_ g1) 0 4 hg1 (by decide) rfl rfl rfl rfl h3 dX3_copyOf_69 ?_
    refine lv_aload_n hx hb dX3_copyOf_70 rfl (lv_at hl 1 rfl) ?_
    refine lv_aload_n hx hb dX3_copyOf_71 rfl (lv_at hl 2 rfl) ?_
    refine lv_iload_n hx hb dX3_copyOf_72 rfl (lv_at hl 4 rfl) ?_
    refine lv_iload hx hb dX3_copyOf_73 (lv_at hl 5 rfl) ?_
    obtain ⟨r4, S5, hr4, hf⟩ := bd2_elim hf
    refine s_callVi [.ref g1, .int x3, .int x4] [.int (gA (S g1) 4 x2.toNatClampNeg)] hM hml hl.1 hW ha rfl (by decide) (c_X3_hardOf l G fu _ a _ _ _ ha hg1 hr4) (cwV 3 hM.2.2.2.1 (gV mk_RX3_131 im_X3_hardOf se_X3_hardOf it_RX3 cd_X3_hardOf) rfl rfl rfl (by decide +kernel) ⟨Nat.le_of_ble_eq_true rfl, Nat.le_of_ble_eq_true rfl⟩) rfl rfl (Nat.le_of_ble_eq_true rfl) ⟨Nat.zero_le _, Nat.zero_le _⟩ dX3_copyOf_75 (fun H locs hW hk => ?_)
    have ha := keep1 hk ha
    have hg1 := keep1 hk hg1
    have hK0 := keep_tr hK0 hk
    refine lv_icmp_ge (tgt := 83) hx hb dX3_copyOf_78 (by decide) (fun c6 => ?_) (fun c6 => ?_)
    · have hf := if_t c6 hf
      refine lv_aload_n hx hb dX3_copyOf_83 rfl (lv_at hl 1 rfl) ?_
      refine lv_iload_n hx hb dX3_copyOf_84 rfl (lv_at hl 4 rfl) ?_
      refine lv_iconst (v := (1 : Int32)) hx hb dX3_copyOf_85 (by decide) ?_
      refine lv_iload hx hb dX3_copyOf_86 (lv_at hl 5 rfl) ?_
      refine lv_ishl hx hb dX3_copyOf_88 ?_
      refine lv_iload_n hx hb dX3_copyOf_89 rfl (lv_at hl 3 rfl) ?_
      obtain ⟨v8, hr7, hf⟩ := bd_elim hf
      refine s_callNv [.int x3, .int ((1 : Int32) <<< (x4 &&& 31)), .int x2] [] hM hml hl.1 hW ha rfl (by decide) (Ct_self (c_X3_addPiece l G fu _ a (S5 a) _ _ _ ha hr7)) (cwV 3 hM.2.2.2.1 (gV mk_RX3_135 im_X3_addPiece se_X3_addPiece it_RX3 cd_X3_addPiece) rfl rfl rfl (by decide +kernel) ⟨Nat.le_of_ble_eq_true rfl, Nat.le_of_ble_eq_true rfl⟩) rfl rfl (Nat.le_of_ble_eq_true rfl) ⟨Nat.zero_le _, Nat.zero_le _⟩ dX3_copyOf_90 (fun Sv8 ev8 hk H locs hW => ?_)
      have hf := nm_at ev8 hf
      have ha := keep1 hk ha
      have hg1 := keep1 hk hg1
      have hK0 := keep_tr hK0 hk
      refine lv_aload_n hx hb dX3_copyOf_93 rfl (lv_at hl 1 rfl) ?_
      refine b_get hM (hW.at_ a) 2 7 ha rfl rfl (by decide) wi_X3 (wgm fk_RX3_34) (x := .int (gI (Sv8 a) 7)) rfl dX3_copyOf_94 ?_
      refine lv_iconst (v := (1 : Int32)) hx hb dX3_copyOf_97 (by decide) ?_
      refine lv_isub hx hb dX3_copyOf_98 ?_
      cases hf
      exact W.iret hx hb hr (b_ret0 hW hK0 _) hW.2.2.2 dX3_copyOf_99 hlk
    · have hf := if_f c6 hf
      exact t_X3_copyOf_81 (fu := fu) hM hml hr hlk hf ha hg1 hK0 _ _ hW _ (lv_sub hl [] rfl)
noncomputable def f_X3_copyOf_34 (fu : Nat)  (S : ST) (a : Nat) (g1 : Nat) : Option (Int32 × ST) :=
  some ((-1 : Int32), S)
set_option maxHeartbeats 4000000 in
set_option maxRecDepth 100000 in
theorem t_X3_copyOf_34 {G : GG} {p : Program} {l : Launch} {e : Env} {s : State} {m : MethodId} {args : Array Value} {below : List Frame} {meth : Method} {c : Code} {S0 : ST} {fu : Nat} {z : Int32 × ST} {a : Nat} {g1 : Nat}  {S : ST} (hM : MC G p s m args c cX3_copyOf w_X3_copyOf RX3) (hml : c.maxLocals = 6) (hr : meth.sig.returnType = (some .int)) (hlk : meth.locks = false)   (hf : f_X3_copyOf_34 fu  S a g1  = some z) : (gC (S a) = 3) → (gC (S g1) = 1) → (∀ b, gC (S0 b) ≠ 0 → gC (S b) = gC (S0 b)) → ∀ (H : Heap) (locs : List Loc), WB G S s H locs → ∀ (ls : Array Slot), lv_has ls 6 [] → W p l e RM_X3_copyOf s m args below meth c H locs 0 0 (QR G below args s (some (.int z.1)) S0 z.2) (F0 m 34 ls []) := by
  intro ha hg1 hK0 H locs hW ls hl
  have hx := hM.1
  have hb := hM.2.1
  refine lv_iconst (v := (-1 : Int32)) hx hb dX3_copyOf_34 (by decide) ?_
  cases hf
  exact W.iret hx hb hr (b_ret0 hW hK0 _) hW.2.2.2 dX3_copyOf_35 hlk
noncomputable def f_X3_copyOf_0 (fu : Nat)  (S : ST) (a : Nat) (g1 : Nat) (x2 : Int32) (x3 : Int32) (x4 : Int32) : Option (Int32 × ST) :=
  bd (f_X1_hasThief fu (S g1) x2) fun r1 =>
  if r1 = 0 then
    (f_X3_copyOf_34 fu S a g1)
  else
    (bd (f_X3_isThere fu (S a) x3) fun r3 =>
    if r3 = 0 then
      (f_X3_copyOf_34 fu S a g1)
    else
      (bd (f_X1_hasSpot fu (S g1) x4) fun r5 =>
      if r5 = 0 then
        (f_X3_copyOf_34 fu S a g1)
      else
        (if (gI (S a) 7) < (8 : Int32) then
          (ck (inb x2 5) <|
          if (gA (S g1) 3 x2.toNatClampNeg) = (3 : Int32) then
            (f_X3_copyOf_51 fu S a g1 x2 x3 x4 (5 : Int32))
          else
            (f_X3_copyOf_51 fu S a g1 x2 x3 x4 x2))
        else
          (f_X3_copyOf_34 fu S a g1))))
set_option maxHeartbeats 4000000 in
set_option maxRecDepth 100000 in
theorem t_X3_copyOf_0 {G : GG} {p : Program} {l : Launch} {e : Env} {s : State} {m : MethodId} {args : Array Value} {below : List Frame} {meth : Method} {c : Code} {S0 : ST} {fu : Nat} {z : Int32 × ST} {a : Nat} {g1 : Nat}  {S : ST} {x2 : Int32} {x3 : Int32} {x4 : Int32} (hM : MC G p s m args c cX3_copyOf w_X3_copyOf RX3) (hml : c.maxLocals = 6) (hr : meth.sig.returnType = (some .int)) (hlk : meth.locks = false)   (hf : f_X3_copyOf_0 fu  S a g1 x2 x3 x4 = some z) : (gC (S a) = 3) → (gC (S g1) = 1) → (∀ b, gC (S0 b) ≠ 0 → gC (S b) = gC (S0 b)) → ∀ (H : Heap) (locs : List Loc), WB G S s H locs → ∀ (ls : Array Slot), lv_has ls 6 [(0, .ref a), (1, .ref g1), (2, .int x2), (3, .int x3), (4, .int x4)] → W p l e RM_X3_copyOf s m args below meth c H locs 0 0 (QR G below args s (some (.int z.1)) S0 z.2) (F0 m 0 ls []) := by
  intro ha hg1 hK0 H locs hW ls hl
  have hx := hM.1
  have hb := hM.2.1
  refine lv_aload_n hx hb dX3_copyOf_0 rfl (lv_at hl 1 rfl) ?_
  refine lv_iload_n hx hb dX3_copyOf_1 rfl (lv_at hl 2 rfl) ?_
  obtain ⟨r1, hr1, hf⟩ := bd_elim hf
  refine s_callVi [.int x2] [] hM hml hl.1 hW hg1 rfl (by decide) (Ct_rd (c_X1_hasThief l G fu _ g1 (S g1) _ hg1 hr1)) (cwV 1 hM.2.2.2.1 (gV mk_RX3_75 im_X1_hasThief se_X1_hasThief it_RX1 cd_X1_hasThief) rfl rfl rfl (by decide +kernel) ⟨Nat.le_of_ble_eq_true rfl, Nat.le_of_ble_eq_true rfl⟩) rfl rfl (Nat.le_of_ble_eq_true rfl) ⟨Nat.zero_le _, Nat.zero_le _⟩ dX3_copyOf_2 (fun H locs hW hk => ?_)
  refine lv_if_eq (tgt := 34) hx hb dX3_copyOf_5 (by decide) (fun c2 => ?_) (fun c2 => ?_)
  · have hf := if_t c2 hf
    exact t_X3_copyOf_34 (fu := fu) hM hml hr hlk hf ha hg1 hK0 _ _ hW _ (lv_sub hl [] rfl)
  · have hf := if_f c2 hf
    refine lv_aload_n hx hb dX3_copyOf_8 rfl (lv_at hl 0 rfl) ?_
    refine lv_iload_n hx hb dX3_copyOf_9 rfl (lv_at hl 3 rfl) ?_
    obtain ⟨r3, hr3, hf⟩ := bd_elim hf
    refine s_callVi [.int x3] [] hM hml hl.1 hW ha rfl (by decide) (Ct_rd (c_X3_isThere l G fu _ a (S a) _ ha hr3)) (cwV 1 hM.2.2.2.1 (gV mk_RX3_71 im_X3_isThere se_X3_isThere it_RX3 cd_X3_isThere) rfl rfl rfl (by decide +kernel) ⟨Nat.le_of_ble_eq_true rfl, Nat.le_of_ble_eq_true rfl⟩) rfl rfl (Nat.le_of_ble_eq_true rfl) ⟨Nat.zero_le _, Nat.zero_le _⟩ dX3_copyOf_10 (fun H locs hW hk => ?_)
    refine lv_if_eq (tgt := 34) hx hb dX3_copyOf_13 (by decide) (fun c4 => ?_) (fun c4 => ?_)
    · have hf := if_t c4 hf
      exact t_X3_copyOf_34 (fu := fu) hM hml hr hlk hf ha hg1 hK0 _ _ hW _ (lv_sub hl [] rfl)
    · have hf := if_f c4 hf
      refine lv_aload_n hx hb dX3_copyOf_16 rfl (lv_at hl 1 rfl) ?_
      refine lv_iload hx hb dX3_copyOf_17 (lv_at hl 4 rfl) ?_
      obtain ⟨r5, hr5, hf⟩ := bd_elim hf
      refine s_callVi [.int x4] [] hM hml hl.1 hW hg1 rfl (by decide) (Ct_rd (c_X1_hasSpot l G fu _ g1 (S g1) _ hg1 hr5)) (cwV 1 hM.2.2.2.1 (gV mk_RX3_125 im_X1_hasSpot se_X1_hasSpot it_RX1 cd_X1_hasSpot) rfl rfl rfl (by decide +kernel) ⟨Nat.le_of_ble_eq_true rfl, Nat.le_of_ble_eq_true rfl⟩) rfl rfl (Nat.le_of_ble_eq_true rfl) ⟨Nat.zero_le _, Nat.zero_le _⟩ dX3_copyOf_19 (fun H locs hW hk => ?_)
      refine lv_if_eq (tgt := 34) hx hb dX3_copyOf_22 (by decide) (fun c6 => ?_) (fun c6 => ?_)
      · have hf := if_t c6 hf
        exact t_X3_copyOf_34 (fu := fu) hM hml hr hlk hf ha hg1 hK0 _ _ hW _ (lv_sub hl [] rfl)
      · have hf := if_f c6 hf
        refine lv_aload_n hx hb dX3_copyOf_25 rfl (lv_at hl 0 rfl) ?_
        refine b_get hM (hW.at_ a) 2 7 ha rfl rfl (by decide) wi_X3 (wgm fk_RX3_34) (x := .int (gI (S a) 7)) rfl dX3_copyOf_26 ?_
        refine lv_bipush (v := (8 : Int32)) hx hb dX3_copyOf_29 (by decide) ?_
        refine lv_icmp_lt (tgt := 36) hx hb dX3_copyOf_31 (by decide) (fun c7 => ?_) (fun c7 => ?_)
        · have hf := if_t c7 hf
          refine lv_aload_n hx hb dX3_copyOf_36 rfl (lv_at hl 1 rfl) ?_
          refine b_get hM (hW.at_ g1) 0 3 hg1 rfl rfl (by decide) wi_X1 (wgm fk_RX3_111) (x := .ref (g1 + 4)) rfl dX3_copyOf_37 ?_
          refine lv_iload_n hx hb dX3_copyOf_40 rfl (lv_at hl 2 rfl) ?_
          obtain ⟨h8, hf⟩ := ck_elim hf
          refine b_iald (n := 5) hM (hW.at_ g1) 0 3 hg1 (by decide) rfl rfl rfl rfl h8 dX3_copyOf_41 ?_
          refine lv_iconst (v := (3 : Int32)) hx hb dX3_copyOf_42 (by decide) ?_
          refine lv_icmp_ne (tgt := 50) hx hb dX3_copyOf_43 (by decide) (fun c9 => ?_) (fun c9 => ?_)
          · have hf := if_f c9 hf
            refine lv_iload_n hx hb dX3_copyOf_50 rfl (lv_at hl 2 rfl) ?_
            exact t_X3_copyOf_51 (fu := fu) hM hml hr hlk hf ha hg1 hK0 _ _ hW _ (lv_sub hl [0, 1, 2, 3, 4] rfl)
          · have hf := if_t c9 hf
            refine lv_iconst (v := (5 : Int32)) hx hb dX3_copyOf_46 (by decide) ?_
            refine lv_goto (tgt := 51) hx hb dX3_copyOf_47 (by decide) ?_
            exact t_X3_copyOf_51 (fu := fu) hM hml hr hlk hf ha hg1 hK0 _ _ hW _ (lv_sub hl [0, 1, 2, 3, 4] rfl)
        · have hf := if_f c7 hf
          exact t_X3_copyOf_34 (fu := fu) hM hml hr hlk hf ha hg1 hK0 _ _ hW _ (lv_sub hl [] rfl)
noncomputable def f_X3_copyOf (fu : Nat) (S : ST) (a : Nat) (g1 : Nat) (x2 : Int32) (x3 : Int32) (x4 : Int32) : Option (Int32 × ST) := f_X3_copyOf_0 fu S a g1 x2 x3 x4
set_option maxHeartbeats 4000000 in
set_option maxRecDepth 100000 in
theorem c_X3_copyOf (l : Launch) (G : GG) (fu : Nat) (S : ST) (a : Nat) (g1 : Nat) (x2 : Int32) (x3 : Int32) (x4 : Int32) {z : Int32} {w : ST} (ha : gC (S a) = 3) (hg1 : gC (S g1) = 1) (hf : f_X3_copyOf fu S a g1 x2 x3 x4 = some (z, w)) : Ct l yX3_copyOf w_X3_copyOf RM_X3_copyOf G S [.ref a, .ref g1, .int x2, .int x3, .int x4] (some (.int z)) w 0 0 := by
  refine Met.ofW (cc := cX3_copyOf) (maxL := 6) (ret := (some .int)) (by decide) rfl ?_
  intro p e s m args below meth c s₁ B hml hv
  obtain ⟨rfl, hB, hK, hz⟩ := hv
  have hM : MC G p s m _ c cX3_copyOf w_X3_copyOf RX3 := ⟨B.exec, B.bytes, findClass_of_methodNamed B.named, atoms_spec (ws := w_X3_copyOf) B.pre, hK, hz⟩
  have hW : WB G S s s.heap [] := ⟨hB, va_S.rf⟩
  have hl := lv_entry ([.ref a, .ref g1, .int x2, .int x3, .int x4]) (n := 6) (Nat.le_of_ble_eq_true rfl)
  rw [lg_entry_eq]
  generalize (lg_sl ([.ref a, .ref g1, .int x2, .int x3, .int x4]) ++ List.replicate (6 - (lg_sl ([.ref a, .ref g1, .int x2, .int x3, .int x4])).length) Slot.unset).toArray = ls at hl ⊢
  have hl : lv_has ls 6 [(0, .ref a), (1, .ref g1), (2, .int x2), (3, .int x3), (4, .int x4)] := hl
  exact t_X3_copyOf_0 (fu := fu) hM hml B.returns B.notSynchronized hf ha hg1 (fun _ _ => rfl) _ _ hW _ (lv_sub hl [0, 1, 2, 3, 4] rfl)
abbrev RM_X3_sale : Room := { frames := 3, cells := 0, slots := 0, locals := 73 }
abbrev w_X3_sale : List Cond := Cond.code yX3_sale cX3_sale 5 (some .int) :: wsL_law0
noncomputable def f_X3_sale_0 (fu : Nat)  (S : ST) (a : Nat) (g1 : Nat) (x2 : Int32) (x3 : Int32) : Option (Int32 × ST) :=
  bd (f_X3_isHeld fu S a g1 x2 x3) fun r1 =>
  if r1 = 0 then
    (some ((-1 : Int32), S))
  else
    (bd2 (f_X3_worthOf fu S a g1 x3) fun r3 S4 =>
    ck (inb x2 5) <|
    nm (((gA (S4 a) 5 x2.toNatClampNeg) + r3)) fun y6 =>
    ck (inb x2 5) <|
    nm (st S4 a (sA (S4 a) 5 x2.toNatClampNeg y6)) fun S8 =>
    ck (inb x3 8) <|
    nm (st S8 a (sA (S8 a) 4 x3.toNatClampNeg (6 : Int32))) fun S10 =>
    some (r3, S10))
set_option maxHeartbeats 4000000 in
set_option maxRecDepth 100000 in
theorem t_X3_sale_0 {G : GG} {p : Program} {l : Launch} {e : Env} {s : State} {m : MethodId} {args : Array Value} {below : List Frame} {meth : Method} {c : Code} {S0 : ST} {fu : Nat} {z : Int32 × ST} {a : Nat} {g1 : Nat}  {S : ST} {x2 : Int32} {x3 : Int32} (hM : MC G p s m args c cX3_sale w_X3_sale RX3) (hml : c.maxLocals = 5) (hr : meth.sig.returnType = (some .int)) (hlk : meth.locks = false)   (hf : f_X3_sale_0 fu  S a g1 x2 x3 = some z) : (gC (S a) = 3) → (gC (S g1) = 1) → (∀ b, gC (S0 b) ≠ 0 → gC (S b) = gC (S0 b)) → ∀ (H : Heap) (locs : List Loc), WB G S s H locs → ∀ (ls : Array Slot), lv_has ls 5 [(0, .ref a), (1, .ref g1), (2, .int x2), (3, .int x3)] → W p l e RM_X3_sale s m args below meth c H locs 0 0 (QR G below args s (some (.int z.1)) S0 z.2) (F0 m 0 ls []) := by
  intro ha hg1 hK0 H locs hW ls hl
  have hx := hM.1
  have hb := hM.2.1
  refine lv_aload_n hx hb dX3_sale_0 rfl (lv_at hl 0 rfl) ?_
  refine lv_aload_n hx hb dX3_sale_1 rfl (lv_at hl 1 rfl) ?_
  refine lv_iload_n hx hb dX3_sale_2 rfl (lv_at hl 2 rfl) ?_
  refine lv_iload_n hx hb dX3_sale_3 rfl (lv_at hl 3 rfl) ?_
  obtain ⟨r1, hr1, hf⟩ := bd_elim hf
  refine s_callVi [.ref g1, .int x2, .int x3] [] hM hml hl.1 hW ha rfl (by decide) (c_X3_isHeld l G fu _ a _ _ _ ha hg1 hr1) (cwV 3 hM.2.2.2.1 (gV mk_RX3_117 im_X3_isHeld se_X3_isHeld it_RX3 cd_X3_isHeld) rfl rfl rfl (by decide +kernel) ⟨Nat.le_of_ble_eq_true rfl, Nat.le_of_ble_eq_true rfl⟩) rfl rfl (Nat.le_of_ble_eq_true rfl) ⟨Nat.zero_le _, Nat.zero_le _⟩ dX3_sale_4 (fun H locs hW hk => ?_)
  refine lv_if_ne (tgt := 12) hx hb dX3_sale_7 (by decide) (fun c2 => ?_) (fun c2 => ?_)
  · have hf := if_f c2 hf
    refine lv_aload_n hx hb dX3_sale_12 rfl (lv_at hl 0 rfl) ?_
    refine lv_aload_n hx hb dX3_sale_13 rfl (lv_at hl 1 rfl) ?_
    refine lv_iload_n hx hb dX3_sale_14 rfl (lv_at hl 3 rfl) ?_
    obtain ⟨r3, S4, hr3, hf⟩ := bd2_elim hf
    refine s_callVi [.ref g1, .int x3] [] hM hml hl.1 hW ha rfl (by decide) (c_X3_worthOf l G fu _ a _ _ ha hg1 hr3) (cwV 2 hM.2.2.2.1 (gV mk_RX3_139 im_X3_worthOf se_X3_worthOf it_RX3 cd_X3_worthOf) rfl rfl rfl (by decide +kernel) ⟨Nat.le_of_ble_eq_true rfl, Nat.le_of_ble_eq_true rfl⟩) rfl rfl (Nat.le_of_ble_eq_true rfl) ⟨Nat.zero_le _, Nat.zero_le _⟩ dX3_sale_15 (fun H locs hW hk => ?_)
    have ha := keep1 hk ha
    have hg1 := keep1 hk hg1
    have hK0 := keep_tr hK0 hk
    refine lv_istore (lv' := [(4, .int r3), (0, .ref a), (1, .ref g1), (2, .int x2), (3, .int x3)]) hx hb dX3_sale_18 hl (by decide) rfl (fun ls hl => ?_)
    refine lv_aload_n hx hb dX3_sale_20 rfl (lv_at hl 1 rfl) ?_
    refine b_get hM (hW.at_ a) 2 5 ha rfl rfl (by decide) wi_X3 (wgm fk_RX3_27) (x := .ref (a + 6)) rfl dX3_sale_21 ?_
    refine lv_iload_n hx hb dX3_sale_24 rfl (lv_at hl 3 rfl) ?_
    refine lv_dup2_11 hx hb dX3_sale_25 rfl rfl ?_
    obtain ⟨h5, hf⟩ := ck_elim hf
    refine b_iald (n := 5) hM (hW.at_ a) 2 5 ha (by decide) rfl rfl rfl rfl h5 dX3_sale_26 ?_
    refine lv_iload hx hb dX3_sale_27 (lv_at hl 0 rfl) ?_
    refine lv_iadd hx hb dX3_sale_29 ?_
    refine lv_topi (fun y6 ey6 => ?_)
    have hf := nm_at ey6 hf
    obtain ⟨h7, hf⟩ := ck_elim hf
    refine s_iast (n := 5) hM hW 2 5 ha (by decide) rfl rfl rfl rfl h7 dX3_sale_30 (fun S8 eS8 hk H locs hW => ?_)
    have hf := nm_at eS8 hf
    have ha := keep1 hk ha
    have hg1 := keep1 hk hg1
    have hK0 := keep_tr hK0 hk
    refine lv_aload_n hx hb dX3_sale_31 rfl (lv_at hl 1 rfl) ?_
    refine b_get hM (hW.at_ a) 2 4 ha rfl rfl (by decide) wi_X3 (wgm fk_RX3_24) (x := .ref (a + 5)) rfl dX3_sale_32 ?_
    refine lv_iload_n hx hb dX3_sale_35 rfl (lv_at hl 4 rfl) ?_
    refine lv_bipush (v := (6 : Int32)) hx hb dX3_sale_36 (by decide) ?_
    obtain ⟨h9, hf⟩ := ck_elim hf
    refine s_iast (n := 8) hM hW 2 4 ha (by decide) rfl rfl rfl rfl h9 dX3_sale_38 (fun S10 eS10 hk H locs hW => ?_)
    have hf := nm_at eS10 hf
    have ha := keep1 hk ha
    have hg1 := keep1 hk hg1
    have hK0 := keep_tr hK0 hk
    refine lv_iload hx hb dX3_sale_39 (lv_at hl 0 rfl) ?_
    cases hf
    exact W.iret hx hb hr (b_ret0 hW hK0 _) hW.2.2.2 dX3_sale_41 hlk
  · have hf := if_t c2 hf
    refine lv_iconst (v := (-1 : Int32)) hx hb dX3_sale_10 (by decide) ?_
    cases hf
    exact W.iret hx hb hr (b_ret0 hW hK0 _) hW.2.2.2 dX3_sale_11 hlk
noncomputable def f_X3_sale (fu : Nat) (S : ST) (a : Nat) (g1 : Nat) (x2 : Int32) (x3 : Int32) : Option (Int32 × ST) := f_X3_sale_0 fu S a g1 x2 x3
set_option maxHeartbeats 4000000 in
set_option maxRecDepth 100000 in
theorem c_X3_sale (l : Launch) (G : GG) (fu : Nat) (S : ST) (a : Nat) (g1 : Nat) (x2 : Int32) (x3 : Int32) {z : Int32} {w : ST} (ha : gC (S a) = 3) (hg1 : gC (S g1) = 1) (hf : f_X3_sale fu S a g1 x2 x3 = some (z, w)) : Ct l yX3_sale w_X3_sale RM_X3_sale G S [.ref a, .ref g1, .int x2, .int x3] (some (.int z)) w 0 0 := by
  refine Met.ofW (cc := cX3_sale) (maxL := 5) (ret := (some .int)) (by decide) rfl ?_
  intro p e s m args below meth c s₁ B hml hv
  obtain ⟨rfl, hB, hK, hz⟩ := hv
  have hM : MC G p s m _ c cX3_sale w_X3_sale RX3 := ⟨B.exec, B.bytes, findClass_of_methodNamed B.named, atoms_spec (ws := w_X3_sale) B.pre, hK, hz⟩
  have hW : WB G S s s.heap [] := ⟨hB, va_S.rf⟩
  have hl := lv_entry ([.ref a, .ref g1, .int x2, .int x3]) (n := 5) (Nat.le_of_ble_eq_true rfl)
  rw [lg_entry_eq]
  generalize (lg_sl ([.ref a, .ref g1, .int x2, .int x3]) ++ List.replicate (5 - (lg_sl ([.ref a, .ref g1, .int x2, .int x3])).length) Slot.unset).toArray = ls at hl ⊢
  have hl : lv_has ls 5 [(0, .ref a), (1, .ref g1), (2, .int x2), (3, .int x3)] := hl
  exact t_X3_sale_0 (fu := fu) hM hml B.returns B.notSynchronized hf ha hg1 (fun _ _ => rfl) _ _ hW _ (lv_sub hl [0, 1, 2, 3] rfl)
abbrev RM_X3_setGuard : Room := { frames := 0, cells := 0, slots := 0, locals := 0 }
abbrev w_X3_setGuard : List Cond := Cond.code yX3_setGuard cX3_setGuard 2 (some .boolean) :: wsL_law0
noncomputable def f_X3_setGuard_21 (fu : Nat)  (v : GV) : Option (Int32 × GV) :=
  some ((0 : Int32), v)
set_option maxHeartbeats 4000000 in
set_option maxRecDepth 100000 in
theorem t_X3_setGuard_21 {G : GG} {p : Program} {l : Launch} {e : Env} {s : State} {m : MethodId} {args : Array Value} {below : List Frame} {meth : Method} {c : Code} {S : ST} {fu : Nat} {z : Int32 × GV} {a : Nat} {v0 : GV}  {v : GV} (hM : MC G p s m args c cX3_setGuard w_X3_setGuard RX3) (hml : c.maxLocals = 2) (hr : meth.sig.returnType = (some .boolean)) (hlk : meth.locks = false) (hc0 : gC v0 = 3)  (hf : f_X3_setGuard_21 fu  v   = some z) : (gC v = 3) → ∀ (H : Heap) (locs : List Loc), WB G (st S a v) s H locs → ∀ (ls : Array Slot), lv_has ls 2 [] → W p l e RM_X3_setGuard s m args below meth c H locs 0 0 (QR G below args s (some (.int z.1)) (st S a v0) (st S a z.2)) (F0 m 21 ls []) := by
  intro hc H locs hW ls hl
  have hx := hM.1
  have hb := hM.2.1
  refine lv_iconst (v := (0 : Int32)) hx hb dX3_setGuard_21 (by decide) ?_
  cases hf
  exact W.zret (v := (0 : Int32)) hx hb hr (by decide) (b_ret0 hW (keep_s2 hc0 hc) _) hW.2.2.2 dX3_setGuard_22 hlk
noncomputable def f_X3_setGuard_0 (fu : Nat)  (v : GV) (x1 : Int32) : Option (Int32 × GV) :=
  if x1 < 0 then
    (f_X3_setGuard_21 fu v)
  else
    (if (24 : Int32) ≤ x1 then
      (f_X3_setGuard_21 fu v)
    else
      (if (((gI v 9) >>> (x1 &&& 31)) &&& (1 : Int32)) = 0 then
        (nm (sI v 9 ((gI v 9) ||| ((1 : Int32) <<< (x1 &&& 31)))) fun v4 =>
        some ((1 : Int32), v4))
      else
        (f_X3_setGuard_21 fu v)))
set_option maxHeartbeats 4000000 in
set_option maxRecDepth 100000 in
theorem t_X3_setGuard_0 {G : GG} {p : Program} {l : Launch} {e : Env} {s : State} {m : MethodId} {args : Array Value} {below : List Frame} {meth : Method} {c : Code} {S : ST} {fu : Nat} {z : Int32 × GV} {a : Nat} {v0 : GV}  {v : GV} {x1 : Int32} (hM : MC G p s m args c cX3_setGuard w_X3_setGuard RX3) (hml : c.maxLocals = 2) (hr : meth.sig.returnType = (some .boolean)) (hlk : meth.locks = false) (hc0 : gC v0 = 3)  (hf : f_X3_setGuard_0 fu  v  x1 = some z) : (gC v = 3) → ∀ (H : Heap) (locs : List Loc), WB G (st S a v) s H locs → ∀ (ls : Array Slot), lv_has ls 2 [(0, .ref a), (1, .int x1)] → W p l e RM_X3_setGuard s m args below meth c H locs 0 0 (QR G below args s (some (.int z.1)) (st S a v0) (st S a z.2)) (F0 m 0 ls []) := by
  intro hc H locs hW ls hl
  have hx := hM.1
  have hb := hM.2.1
  refine lv_iload_n hx hb dX3_setGuard_0 rfl (lv_at hl 1 rfl) ?_
  refine lv_if_lt (tgt := 21) hx hb dX3_setGuard_1 (by decide) (fun c1 => ?_) (fun c1 => ?_)
  · have hf := if_t c1 hf
    exact t_X3_setGuard_21 (fu := fu) hM hml hr hlk hc0 hf hc _ _ hW _ (lv_sub hl [] rfl)
  · have hf := if_f c1 hf
    refine lv_iload_n hx hb dX3_setGuard_4 rfl (lv_at hl 1 rfl) ?_
    refine lv_bipush (v := (24 : Int32)) hx hb dX3_setGuard_5 (by decide) ?_
    refine lv_icmp_ge (tgt := 21) hx hb dX3_setGuard_7 (by decide) (fun c2 => ?_) (fun c2 => ?_)
    · have hf := if_t c2 hf
      exact t_X3_setGuard_21 (fu := fu) hM hml hr hlk hc0 hf hc _ _ hW _ (lv_sub hl [] rfl)
    · have hf := if_f c2 hf
      refine lv_aload_n hx hb dX3_setGuard_10 rfl (lv_at hl 0 rfl) ?_
      refine b_get hM hW 2 9 hc rfl rfl (by decide) wi_X3 (wgm fk_RX3_40) (x := .int (gI v 9)) rfl dX3_setGuard_11 ?_
      refine lv_iload_n hx hb dX3_setGuard_14 rfl (lv_at hl 1 rfl) ?_
      refine lv_ishr hx hb dX3_setGuard_15 ?_
      refine lv_iconst (v := (1 : Int32)) hx hb dX3_setGuard_16 (by decide) ?_
      refine lv_iand hx hb dX3_setGuard_17 ?_
      refine lv_if_eq (tgt := 23) hx hb dX3_setGuard_18 (by decide) (fun c3 => ?_) (fun c3 => ?_)
      · have hf := if_t c3 hf
        refine lv_aload_n hx hb dX3_setGuard_23 rfl (lv_at hl 0 rfl) ?_
        refine lv_dup hx hb dX3_setGuard_24 rfl ?_
        refine b_get hM hW 2 9 hc rfl rfl (by decide) wi_X3 (wgm fk_RX3_40) (x := .int (gI v 9)) rfl dX3_setGuard_25 ?_
        refine lv_iconst (v := (1 : Int32)) hx hb dX3_setGuard_28 (by decide) ?_
        refine lv_iload_n hx hb dX3_setGuard_29 rfl (lv_at hl 1 rfl) ?_
        refine lv_ishl hx hb dX3_setGuard_30 ?_
        refine lv_ior hx hb dX3_setGuard_31 ?_
        refine b_putI hM hW 2 9 hc rfl rfl (by decide) wi_X3 tyX3 tyX3_ok nmX3 (wgm fk_RX3_40) rfl rfl rfl dX3_setGuard_32 (fun v4 ev4 hc H locs hW => ?_)
        have hf := nm_at ev4 hf
        refine lv_iconst (v := (1 : Int32)) hx hb dX3_setGuard_35 (by decide) ?_
        cases hf
        exact W.zret (v := (1 : Int32)) hx hb hr (by decide) (b_ret0 hW (keep_s2 hc0 hc) _) hW.2.2.2 dX3_setGuard_36 hlk
      · have hf := if_f c3 hf
        exact t_X3_setGuard_21 (fu := fu) hM hml hr hlk hc0 hf hc _ _ hW _ (lv_sub hl [] rfl)
noncomputable def f_X3_setGuard (fu : Nat) (v : GV) (x1 : Int32) : Option (Int32 × GV) := f_X3_setGuard_0 fu v x1
set_option maxHeartbeats 4000000 in
set_option maxRecDepth 100000 in
theorem c_X3_setGuard (l : Launch) (G : GG) (fu : Nat) (S : ST) (a : Nat) (v : GV) (x1 : Int32) {z : Int32} {w : GV} (hc : gC v = 3) (hf : f_X3_setGuard fu v x1 = some (z, w)) : Ct l yX3_setGuard w_X3_setGuard RM_X3_setGuard G (st S a v) [.ref a, .int x1] (some (.int z)) (st S a w) 0 0 := by
  refine Met.ofW (cc := cX3_setGuard) (maxL := 2) (ret := (some .boolean)) (by decide) rfl ?_
  intro p e s m args below meth c s₁ B hml hv
  obtain ⟨rfl, hB, hK, hz⟩ := hv
  have hM : MC G p s m _ c cX3_setGuard w_X3_setGuard RX3 := ⟨B.exec, B.bytes, findClass_of_methodNamed B.named, atoms_spec (ws := w_X3_setGuard) B.pre, hK, hz⟩
  have hW : WB G (st S a v) s s.heap [] := ⟨hB, va_S.rf⟩
  have hl := lv_entry ([.ref a, .int x1]) (n := 2) (Nat.le_of_ble_eq_true rfl)
  rw [lg_entry_eq]
  generalize (lg_sl ([.ref a, .int x1]) ++ List.replicate (2 - (lg_sl ([.ref a, .int x1])).length) Slot.unset).toArray = ls at hl ⊢
  have hl : lv_has ls 2 [(0, .ref a), (1, .int x1)] := hl
  exact t_X3_setGuard_0 (fu := fu) hM hml B.returns B.notSynchronized hc hf hc _ _ hW _ (lv_sub hl [0, 1] rfl)
abbrev RM_X3_passNight : Room := { frames := 0, cells := 0, slots := 0, locals := 0 }
abbrev w_X3_passNight : List Cond := Cond.code yX3_passNight cX3_passNight 1 none :: wsL_law0
noncomputable def f_X3_passNight_0 (fu : Nat)  (v : GV) : Option (GV) :=
  nm ((gI v 8)) fun y1 =>
  ck (inb y1 8) <|
  nm (((gA v 3 y1.toNatClampNeg) + (1 : Int32))) fun y3 =>
  ck (inb y1 8) <|
  nm (sA v 3 y1.toNatClampNeg y3) fun v5 =>
  nm (sI v5 9 (0 : Int32)) fun v6 =>
  nm (sI v6 6 ((gI v6 6) + (1 : Int32))) fun v7 =>
  some v7
set_option maxHeartbeats 4000000 in
set_option maxRecDepth 100000 in
theorem t_X3_passNight_0 {G : GG} {p : Program} {l : Launch} {e : Env} {s : State} {m : MethodId} {args : Array Value} {below : List Frame} {meth : Method} {c : Code} {S : ST} {fu : Nat} {z : GV} {a : Nat} {v0 : GV}  {v : GV} (hM : MC G p s m args c cX3_passNight w_X3_passNight RX3) (hml : c.maxLocals = 1) (hr : meth.sig.returnType = none) (hlk : meth.locks = false) (hc0 : gC v0 = 3)  (hf : f_X3_passNight_0 fu  v   = some z) : (gC v = 3) → ∀ (H : Heap) (locs : List Loc), WB G (st S a v) s H locs → ∀ (ls : Array Slot), lv_has ls 1 [(0, .ref a)] → W p l e RM_X3_passNight s m args below meth c H locs 0 0 (QR G below args s none (st S a v0) (st S a z)) (F0 m 0 ls []) := by
  intro hc H locs hW ls hl
  have hx := hM.1
  have hb := hM.2.1
  refine lv_aload_n hx hb dX3_passNight_0 rfl (lv_at hl 0 rfl) ?_
  refine b_get hM hW 2 3 hc rfl rfl (by decide) wi_X3 (wgm fk_RX3_21) (x := .ref (a + 4)) rfl dX3_passNight_1 ?_
  refine lv_aload_n hx hb dX3_passNight_4 rfl (lv_at hl 0 rfl) ?_
  refine b_get hM hW 2 8 hc rfl rfl (by decide) wi_X3 (wgm fk_RX3_37) (x := .int (gI v 8)) rfl dX3_passNight_5 ?_
  refine lv_topi (fun y1 ey1 => ?_)
  have hf := nm_at ey1 hf
  refine lv_dup2_11 hx hb dX3_passNight_8 rfl rfl ?_
  obtain ⟨h2, hf⟩ := ck_elim hf
  refine b_iald (n := 8) hM hW 2 3 hc (by decide) rfl rfl rfl rfl h2 dX3_passNight_9 ?_
  refine lv_iconst (v := (1 : Int32)) hx hb dX3_passNight_10 (by decide) ?_
  refine lv_iadd hx hb dX3_passNight_11 ?_
  refine lv_topi (fun y3 ey3 => ?_)
  have hf := nm_at ey3 hf
  obtain ⟨h4, hf⟩ := ck_elim hf
  refine b_iast (n := 8) hM hW 2 3 hc (by decide) rfl rfl rfl rfl h4 dX3_passNight_12 (fun v5 ev5 hc H locs hW => ?_)
  have hf := nm_at ev5 hf
  refine lv_aload_n hx hb dX3_passNight_13 rfl (lv_at hl 0 rfl) ?_
  refine lv_iconst (v := (0 : Int32)) hx hb dX3_passNight_14 (by decide) ?_
  refine b_putI hM hW 2 9 hc rfl rfl (by decide) wi_X3 tyX3 tyX3_ok nmX3 (wgm fk_RX3_40) rfl rfl rfl dX3_passNight_15 (fun v6 ev6 hc H locs hW => ?_)
  have hf := nm_at ev6 hf
  refine lv_aload_n hx hb dX3_passNight_18 rfl (lv_at hl 0 rfl) ?_
  refine lv_dup hx hb dX3_passNight_19 rfl ?_
  refine b_get hM hW 2 6 hc rfl rfl (by decide) wi_X3 (wgm fk_RX3_30) (x := .int (gI v6 6)) rfl dX3_passNight_20 ?_
  refine lv_iconst (v := (1 : Int32)) hx hb dX3_passNight_23 (by decide) ?_
  refine lv_iadd hx hb dX3_passNight_24 ?_
  refine b_putI hM hW 2 6 hc rfl rfl (by decide) wi_X3 tyX3 tyX3_ok nmX3 (wgm fk_RX3_30) rfl rfl rfl dX3_passNight_25 (fun v7 ev7 hc H locs hW => ?_)
  have hf := nm_at ev7 hf
  cases hf
  exact W.vret hx hb hr (b_ret0 hW (keep_s2 hc0 hc) _) hW.2.2.2 dX3_passNight_28 hlk
noncomputable def f_X3_passNight (fu : Nat) (v : GV) : Option (GV) := f_X3_passNight_0 fu v
set_option maxHeartbeats 4000000 in
set_option maxRecDepth 100000 in
theorem c_X3_passNight (l : Launch) (G : GG) (fu : Nat) (S : ST) (a : Nat) (v : GV) {z : GV} (hc : gC v = 3) (hf : f_X3_passNight fu v = some z) : Ct l yX3_passNight w_X3_passNight RM_X3_passNight G (st S a v) [.ref a] none (st S a z) 0 0 := by
  refine Met.ofW (cc := cX3_passNight) (maxL := 1) (ret := none) (by decide) rfl ?_
  intro p e s m args below meth c s₁ B hml hv
  obtain ⟨rfl, hB, hK, hz⟩ := hv
  have hM : MC G p s m _ c cX3_passNight w_X3_passNight RX3 := ⟨B.exec, B.bytes, findClass_of_methodNamed B.named, atoms_spec (ws := w_X3_passNight) B.pre, hK, hz⟩
  have hW : WB G (st S a v) s s.heap [] := ⟨hB, va_S.rf⟩
  have hl := lv_entry ([.ref a]) (n := 1) (Nat.le_of_ble_eq_true rfl)
  rw [lg_entry_eq]
  generalize (lg_sl ([.ref a]) ++ List.replicate (1 - (lg_sl ([.ref a])).length) Slot.unset).toArray = ls at hl ⊢
  have hl : lv_has ls 1 [(0, .ref a)] := hl
  exact t_X3_passNight_0 (fu := fu) hM hml B.returns B.notSynchronized hc hf hc _ _ hW _ (lv_sub hl [0] rfl)
abbrev RM_X5_put : Room := { frames := 0, cells := 0, slots := 0, locals := 0 }
abbrev w_X5_put : List Cond := Cond.code yX5_put cX5_put 2 none :: wsL_law0
noncomputable def f_X5_put_0 (fu : Nat)  (v : GV) (x1 : Int32) : Option (GV) :=
  if (1000 : Int32) ≤ (gI v 2) then
    (some v)
  else
    (ck (inb (gI v 2) 1000) <|
    nm (sA v 1 (gI v 2).toNatClampNeg x1) fun v3 =>
    nm (sI v3 2 ((gI v3 2) + (1 : Int32))) fun v4 =>
    some v4)
set_option maxHeartbeats 4000000 in
set_option maxRecDepth 100000 in
theorem t_X5_put_0 {G : GG} {p : Program} {l : Launch} {e : Env} {s : State} {m : MethodId} {args : Array Value} {below : List Frame} {meth : Method} {c : Code} {S : ST} {fu : Nat} {z : GV} {a : Nat} {v0 : GV}  {v : GV} {x1 : Int32} (hM : MC G p s m args c cX5_put w_X5_put RX5) (hml : c.maxLocals = 2) (hr : meth.sig.returnType = none) (hlk : meth.locks = false) (hc0 : gC v0 = 5)  (hf : f_X5_put_0 fu  v  x1 = some z) : (gC v = 5) → ∀ (H : Heap) (locs : List Loc), WB G (st S a v) s H locs → ∀ (ls : Array Slot), lv_has ls 2 [(0, .ref a), (1, .int x1)] → W p l e RM_X5_put s m args below meth c H locs 0 0 (QR G below args s none (st S a v0) (st S a z)) (F0 m 0 ls []) := by
  intro hc H locs hW ls hl
  have hx := hM.1
  have hb := hM.2.1
  refine lv_aload_n hx hb dX5_put_0 rfl (lv_at hl 0 rfl) ?_
  refine b_get hM hW 4 2 hc rfl rfl (by decide) wi_X5 (wgm fk_RX5_15) (x := .int (gI v 2)) rfl dX5_put_1 ?_
  refine lv_aload_n hx hb dX5_put_4 rfl (lv_at hl 0 rfl) ?_
  refine b_get hM hW 4 1 hc rfl rfl (by decide) wi_X5 (wgm fk_RX5_9) (x := .ref (a + 1)) rfl dX5_put_5 ?_
  refine b_alen (n := 1000) hM hW 4 1 0 hc (by decide) rfl rfl (by decide) rfl rfl (x := (1000 : Int32)) (by decide) dX5_put_8 ?_
  refine lv_icmp_ge (tgt := 32) hx hb dX5_put_9 (by decide) (fun c1 => ?_) (fun c1 => ?_)
  · have hf := if_t c1 hf
    cases hf
    exact W.vret hx hb hr (b_ret0 hW (keep_s2 hc0 hc) _) hW.2.2.2 dX5_put_32 hlk
  · have hf := if_f c1 hf
    refine lv_aload_n hx hb dX5_put_12 rfl (lv_at hl 0 rfl) ?_
    refine b_get hM hW 4 1 hc rfl rfl (by decide) wi_X5 (wgm fk_RX5_9) (x := .ref (a + 1)) rfl dX5_put_13 ?_
    refine lv_aload_n hx hb dX5_put_16 rfl (lv_at hl 0 rfl) ?_
    refine b_get hM hW 4 2 hc rfl rfl (by decide) wi_X5 (wgm fk_RX5_15) (x := .int (gI v 2)) rfl dX5_put_17 ?_
    refine lv_iload_n hx hb dX5_put_20 rfl (lv_at hl 1 rfl) ?_
    obtain ⟨h2, hf⟩ := ck_elim hf
    refine b_iast (n := 1000) hM hW 4 1 hc (by decide) rfl rfl rfl rfl h2 dX5_put_21 (fun v3 ev3 hc H locs hW => ?_)
    have hf := nm_at ev3 hf
    refine lv_aload_n hx hb dX5_put_22 rfl (lv_at hl 0 rfl) ?_
    refine lv_dup hx hb dX5_put_23 rfl ?_
    refine b_get hM hW 4 2 hc rfl rfl (by decide) wi_X5 (wgm fk_RX5_15) (x := .int (gI v3 2)) rfl dX5_put_24 ?_
    refine lv_iconst (v := (1 : Int32)) hx hb dX5_put_27 (by decide) ?_
    refine lv_iadd hx hb dX5_put_28 ?_
    refine b_putI hM hW 4 2 hc rfl rfl (by decide) wi_X5 tyX5 tyX5_ok nmX5 (wgm fk_RX5_15) rfl rfl rfl dX5_put_29 (fun v4 ev4 hc H locs hW => ?_)
    have hf := nm_at ev4 hf
    cases hf
    exact W.vret hx hb hr (b_ret0 hW (keep_s2 hc0 hc) _) hW.2.2.2 dX5_put_32 hlk
noncomputable def f_X5_put (fu : Nat) (v : GV) (x1 : Int32) : Option (GV) := f_X5_put_0 fu v x1
set_option maxHeartbeats 4000000 in
set_option maxRecDepth 100000 in
theorem c_X5_put (l : Launch) (G : GG) (fu : Nat) (S : ST) (a : Nat) (v : GV) (x1 : Int32) {z : GV} (hc : gC v = 5) (hf : f_X5_put fu v x1 = some z) : Ct l yX5_put w_X5_put RM_X5_put G (st S a v) [.ref a, .int x1] none (st S a z) 0 0 := by
  refine Met.ofW (cc := cX5_put) (maxL := 2) (ret := none) (by decide) rfl ?_
  intro p e s m args below meth c s₁ B hml hv
  obtain ⟨rfl, hB, hK, hz⟩ := hv
  have hM : MC G p s m _ c cX5_put w_X5_put RX5 := ⟨B.exec, B.bytes, findClass_of_methodNamed B.named, atoms_spec (ws := w_X5_put) B.pre, hK, hz⟩
  have hW : WB G (st S a v) s s.heap [] := ⟨hB, va_S.rf⟩
  have hl := lv_entry ([.ref a, .int x1]) (n := 2) (Nat.le_of_ble_eq_true rfl)
  rw [lg_entry_eq]
  generalize (lg_sl ([.ref a, .int x1]) ++ List.replicate (2 - (lg_sl ([.ref a, .int x1])).length) Slot.unset).toArray = ls at hl ⊢
  have hl : lv_has ls 2 [(0, .ref a), (1, .int x1)] := hl
  exact t_X5_put_0 (fu := fu) hM hml B.returns B.notSynchronized hc hf hc _ _ hW _ (lv_sub hl [0, 1] rfl)
abbrev RM_X5_isFact : Room := { frames := 1, cells := 0, slots := 0, locals := 22 }
abbrev w_X5_isFact : List Cond := Cond.code yX5_isFact cX5_isFact 1 (some .boolean) :: wsL_law0
noncomputable def f_X5_isFact_40 (fu : Nat)  (S : ST) (a : Nat) : Option (Int32) :=
  some ((1 : Int32))
set_option maxHeartbeats 4000000 in
set_option maxRecDepth 100000 in
theorem t_X5_isFact_40 {G : GG} {p : Program} {l : Launch} {e : Env} {s : State} {m : MethodId} {args : Array Value} {below : List Frame} {meth : Method} {c : Code} {S : ST} {fu : Nat} {z : Int32} {a : Nat}  (hM : MC G p s m args c cX5_isFact w_X5_isFact RX5) (hml : c.maxLocals = 1) (hr : meth.sig.returnType = (some .boolean)) (hlk : meth.locks = false) (ha : gC (S a) = 5)  (hf : f_X5_isFact_40 fu  S a  = some z) : ∀ (H : Heap) (locs : List Loc), WB G S s H locs → ∀ (ls : Array Slot), lv_has ls 1 [] → W p l e RM_X5_isFact s m args below meth c H locs 0 0 (QR G below args s (some (.int z)) S S) (F0 m 40 ls []) := by
  intro  H locs hW ls hl
  have hx := hM.1
  have hb := hM.2.1
  refine lv_iconst (v := (1 : Int32)) hx hb dX5_isFact_40 (by decide) ?_
  refine lv_goto (tgt := 45) hx hb dX5_isFact_41 (by decide) ?_
  cases hf
  exact W.zret (v := (1 : Int32)) hx hb hr (by decide) (b_ret0 hW (fun _ _ => rfl) _) hW.2.2.2 dX5_isFact_45 hlk
noncomputable def f_X5_isFact_0 (fu : Nat)  (S : ST) (a : Nat) : Option (Int32) :=
  bd (gR (S a) 0) fun q1 =>
  ck (decide (gC (S q1) = 8)) <|
  bd (f_X8_isAt_ fu (S q1) 26) fun r3 =>
  if r3 = 0 then
    (bd (gR (S a) 0) fun q5 =>
    ck (decide (gC (S q5) = 8)) <|
    bd (f_X8_isAt_ fu (S q5) 27) fun r7 =>
    if r7 = 0 then
      (bd (gR (S a) 0) fun q9 =>
      ck (decide (gC (S q9) = 8)) <|
      ck (decide ((gI (S a) 3).toNatClampNeg < 30)) <|
      bd (f_X8_isAt_ fu (S q9) (gI (S a) 3).toNatClampNeg) fun r12 =>
      if r12 = 0 then
        (some ((0 : Int32)))
      else
        (f_X5_isFact_40 fu S a))
    else
      (f_X5_isFact_40 fu S a))
  else
    (f_X5_isFact_40 fu S a)
set_option maxHeartbeats 4000000 in
set_option maxRecDepth 100000 in
theorem t_X5_isFact_0 {G : GG} {p : Program} {l : Launch} {e : Env} {s : State} {m : MethodId} {args : Array Value} {below : List Frame} {meth : Method} {c : Code} {S : ST} {fu : Nat} {z : Int32} {a : Nat}  (hM : MC G p s m args c cX5_isFact w_X5_isFact RX5) (hml : c.maxLocals = 1) (hr : meth.sig.returnType = (some .boolean)) (hlk : meth.locks = false) (ha : gC (S a) = 5)  (hf : f_X5_isFact_0 fu  S a  = some z) : ∀ (H : Heap) (locs : List Loc), WB G S s H locs → ∀ (ls : Array Slot), lv_has ls 1 [(0, .ref a)] → W p l e RM_X5_isFact s m args below meth c H locs 0 0 (QR G below args s (some (.int z)) S S) (F0 m 0 ls []) := by
  intro  H locs hW ls hl
  have hx := hM.1
  have hb := hM.2.1
  refine lv_aload_n hx hb dX5_isFact_0 rfl (lv_at hl 0 rfl) ?_
  obtain ⟨q1, hq1, hf⟩ := bd_elim hf
  refine b_get hM (hW.at_ a) 4 0 ha rfl rfl (by decide) wi_X5 (wgm fk_RX5_28) (x := .ref q1) (by show va_rf _ = _; rw [hq1]; rfl) dX5_isFact_1 ?_
  obtain ⟨h2, hf⟩ := ck_elim hf
  have h2 := of_decide_eq_true h2
  refine k_word hM hW 26 (by decide) (wgm fk_RX5_104) dX5_isFact_4 ?_
  obtain ⟨r3, hr3, hf⟩ := bd_elim hf
  refine s_callVi [.ref (kAd G 26)] [] hM hml hl.1 hW h2 rfl (by decide) (Ct_rd (c_X8_isAt_ l G fu _ q1 (S q1) _ h2 (by decide) hr3)) (cwV 1 hM.2.2.2.1 (gV mk_RX5_53 im_X8_isAt_ se_X8_isAt_ it_RX8 cd_X8_isAt_) rfl rfl rfl (by decide +kernel) ⟨Nat.le_of_ble_eq_true rfl, Nat.le_of_ble_eq_true rfl⟩) rfl rfl (Nat.le_of_ble_eq_true rfl) ⟨Nat.zero_le _, Nat.zero_le _⟩ dX5_isFact_7 (fun H locs hW hk => ?_)
  refine lv_if_ne (tgt := 40) hx hb dX5_isFact_10 (by decide) (fun c4 => ?_) (fun c4 => ?_)
  · have hf := if_f c4 hf
    exact t_X5_isFact_40 (fu := fu) hM hml hr hlk ha hf _ _ hW _ (lv_sub hl [] rfl)
  · have hf := if_t c4 hf
    refine lv_aload_n hx hb dX5_isFact_13 rfl (lv_at hl 0 rfl) ?_
    obtain ⟨q5, hq5, hf⟩ := bd_elim hf
    refine b_get hM (hW.at_ a) 4 0 ha rfl rfl (by decide) wi_X5 (wgm fk_RX5_28) (x := .ref q5) (by show va_rf _ = _; rw [hq5]; rfl) dX5_isFact_14 ?_
    obtain ⟨h6, hf⟩ := ck_elim hf
    have h6 := of_decide_eq_true h6
    refine k_word hM hW 27 (by decide) (wgm fk_RX5_107) dX5_isFact_17 ?_
    obtain ⟨r7, hr7, hf⟩ := bd_elim hf
    refine s_callVi [.ref (kAd G 27)] [] hM hml hl.1 hW h6 rfl (by decide) (Ct_rd (c_X8_isAt_ l G fu _ q5 (S q5) _ h6 (by decide) hr7)) (cwV 1 hM.2.2.2.1 (gV mk_RX5_53 im_X8_isAt_ se_X8_isAt_ it_RX8 cd_X8_isAt_) rfl rfl rfl (by decide +kernel) ⟨Nat.le_of_ble_eq_true rfl, Nat.le_of_ble_eq_true rfl⟩) rfl rfl (Nat.le_of_ble_eq_true rfl) ⟨Nat.zero_le _, Nat.zero_le _⟩ dX5_isFact_20 (fun H locs hW hk => ?_)
    refine lv_if_ne (tgt := 40) hx hb dX5_isFact_23 (by decide) (fun c8 => ?_) (fun c8 => ?_)
    · have hf := if_f c8 hf
      exact t_X5_isFact_40 (fu := fu) hM hml hr hlk ha hf _ _ hW _ (lv_sub hl [] rfl)
    · have hf := if_t c8 hf
      refine lv_aload_n hx hb dX5_isFact_26 rfl (lv_at hl 0 rfl) ?_
      obtain ⟨q9, hq9, hf⟩ := bd_elim hf
      refine b_get hM (hW.at_ a) 4 0 ha rfl rfl (by decide) wi_X5 (wgm fk_RX5_28) (x := .ref q9) (by show va_rf _ = _; rw [hq9]; rfl) dX5_isFact_27 ?_
      obtain ⟨h10, hf⟩ := ck_elim hf
      have h10 := of_decide_eq_true h10
      refine lv_aload_n hx hb dX5_isFact_30 rfl (lv_at hl 0 rfl) ?_
      refine b_get hM (hW.at_ a) 4 3 ha rfl rfl (by decide) wi_X5 (wgm fk_RX5_25) (x := .ref (kAd G (gI (S a) 3).toNatClampNeg)) rfl dX5_isFact_31 ?_
      obtain ⟨h11, hf⟩ := ck_elim hf
      have h11 := of_decide_eq_true h11
      obtain ⟨r12, hr12, hf⟩ := bd_elim hf
      refine s_callVi [.ref (kAd G (gI (S a) 3).toNatClampNeg)] [] hM hml hl.1 hW h10 rfl (by decide) (Ct_rd (c_X8_isAt_ l G fu _ q9 (S q9) _ h10 h11 hr12)) (cwV 1 hM.2.2.2.1 (gV mk_RX5_53 im_X8_isAt_ se_X8_isAt_ it_RX8 cd_X8_isAt_) rfl rfl rfl (by decide +kernel) ⟨Nat.le_of_ble_eq_true rfl, Nat.le_of_ble_eq_true rfl⟩) rfl rfl (Nat.le_of_ble_eq_true rfl) ⟨Nat.zero_le _, Nat.zero_le _⟩ dX5_isFact_34 (fun H locs hW hk => ?_)
      refine lv_if_eq (tgt := 44) hx hb dX5_isFact_37 (by decide) (fun c13 => ?_) (fun c13 => ?_)
      · have hf := if_t c13 hf
        refine lv_iconst (v := (0 : Int32)) hx hb dX5_isFact_44 (by decide) ?_
        cases hf
        exact W.zret (v := (0 : Int32)) hx hb hr (by decide) (b_ret0 hW (fun _ _ => rfl) _) hW.2.2.2 dX5_isFact_45 hlk
      · have hf := if_f c13 hf
        exact t_X5_isFact_40 (fu := fu) hM hml hr hlk ha hf _ _ hW _ (lv_sub hl [] rfl)
noncomputable def f_X5_isFact (fu : Nat) (S : ST) (a : Nat) : Option (Int32) := f_X5_isFact_0 fu S a
set_option maxHeartbeats 4000000 in
set_option maxRecDepth 100000 in
theorem c_X5_isFact (l : Launch) (G : GG) (fu : Nat) (S : ST) (a : Nat) {z : Int32} (ha : gC (S a) = 5) (hf : f_X5_isFact fu S a = some z) : Ct l yX5_isFact w_X5_isFact RM_X5_isFact G S [.ref a] (some (.int z)) S 0 0 := by
  refine Met.ofW (cc := cX5_isFact) (maxL := 1) (ret := (some .boolean)) (by decide) rfl ?_
  intro p e s m args below meth c s₁ B hml hv
  obtain ⟨rfl, hB, hK, hz⟩ := hv
  have hM : MC G p s m _ c cX5_isFact w_X5_isFact RX5 := ⟨B.exec, B.bytes, findClass_of_methodNamed B.named, atoms_spec (ws := w_X5_isFact) B.pre, hK, hz⟩
  have hW : WB G S s s.heap [] := ⟨hB, va_S.rf⟩
  have hl := lv_entry ([.ref a]) (n := 1) (Nat.le_of_ble_eq_true rfl)
  rw [lg_entry_eq]
  generalize (lg_sl ([.ref a]) ++ List.replicate (1 - (lg_sl ([.ref a])).length) Slot.unset).toArray = ls at hl ⊢
  have hl : lv_has ls 1 [(0, .ref a)] := hl
  exact t_X5_isFact_0 (fu := fu) hM hml B.returns B.notSynchronized ha hf _ _ hW _ (lv_sub hl [0] rfl)
abbrev RM_X5_factStep : Room := { frames := 1, cells := 0, slots := 0, locals := 22 }
abbrev w_X5_factStep : List Cond := Cond.code yX5_factStep cX5_factStep 1 (some .int) :: wsL_law0
noncomputable def f_X5_factStep_0 (fu : Nat)  (S : ST) (a : Nat) : Option (Int32) :=
  bd (gR (S a) 0) fun q1 =>
  ck (decide (gC (S q1) = 8)) <|
  bd (f_X8_isAt_ fu (S q1) 26) fun r3 =>
  if r3 = 0 then
    (bd (gR (S a) 0) fun q5 =>
    ck (decide (gC (S q5) = 8)) <|
    bd (f_X8_isAt_ fu (S q5) 27) fun r7 =>
    if r7 = 0 then
      (some ((-3 : Int32)))
    else
      (some ((-2 : Int32))))
  else
    (some ((-1 : Int32)))
set_option maxHeartbeats 4000000 in
set_option maxRecDepth 100000 in
theorem t_X5_factStep_0 {G : GG} {p : Program} {l : Launch} {e : Env} {s : State} {m : MethodId} {args : Array Value} {below : List Frame} {meth : Method} {c : Code} {S : ST} {fu : Nat} {z : Int32} {a : Nat}  (hM : MC G p s m args c cX5_factStep w_X5_factStep RX5) (hml : c.maxLocals = 1) (hr : meth.sig.returnType = (some .int)) (hlk : meth.locks = false) (ha : gC (S a) = 5)  (hf : f_X5_factStep_0 fu  S a  = some z) : ∀ (H : Heap) (locs : List Loc), WB G S s H locs → ∀ (ls : Array Slot), lv_has ls 1 [(0, .ref a)] → W p l e RM_X5_factStep s m args below meth c H locs 0 0 (QR G below args s (some (.int z)) S S) (F0 m 0 ls []) := by
  intro  H locs hW ls hl
  have hx := hM.1
  have hb := hM.2.1
  refine lv_aload_n hx hb dX5_factStep_0 rfl (lv_at hl 0 rfl) ?_
  obtain ⟨q1, hq1, hf⟩ := bd_elim hf
  refine b_get hM (hW.at_ a) 4 0 ha rfl rfl (by decide) wi_X5 (wgm fk_RX5_28) (x := .ref q1) (by show va_rf _ = _; rw [hq1]; rfl) dX5_factStep_1 ?_
  obtain ⟨h2, hf⟩ := ck_elim hf
  have h2 := of_decide_eq_true h2
  refine k_word hM hW 26 (by decide) (wgm fk_RX5_104) dX5_factStep_4 ?_
  obtain ⟨r3, hr3, hf⟩ := bd_elim hf
  refine s_callVi [.ref (kAd G 26)] [] hM hml hl.1 hW h2 rfl (by decide) (Ct_rd (c_X8_isAt_ l G fu _ q1 (S q1) _ h2 (by decide) hr3)) (cwV 1 hM.2.2.2.1 (gV mk_RX5_53 im_X8_isAt_ se_X8_isAt_ it_RX8 cd_X8_isAt_) rfl rfl rfl (by decide +kernel) ⟨Nat.le_of_ble_eq_true rfl, Nat.le_of_ble_eq_true rfl⟩) rfl rfl (Nat.le_of_ble_eq_true rfl) ⟨Nat.zero_le _, Nat.zero_le _⟩ dX5_factStep_7 (fun H locs hW hk => ?_)
  refine lv_if_eq (tgt := 15) hx hb dX5_factStep_10 (by decide) (fun c4 => ?_) (fun c4 => ?_)
  · have hf := if_t c4 hf
    refine lv_aload_n hx hb dX5_factStep_15 rfl (lv_at hl 0 rfl) ?_
    obtain ⟨q5, hq5, hf⟩ := bd_elim hf
    refine b_get hM (hW.at_ a) 4 0 ha rfl rfl (by decide) wi_X5 (wgm fk_RX5_28) (x := .ref q5) (by show va_rf _ = _; rw [hq5]; rfl) dX5_factStep_16 ?_
    obtain ⟨h6, hf⟩ := ck_elim hf
    have h6 := of_decide_eq_true h6
    refine k_word hM hW 27 (by decide) (wgm fk_RX5_107) dX5_factStep_19 ?_
    obtain ⟨r7, hr7, hf⟩ := bd_elim hf
    refine s_callVi [.ref (kAd G 27)] [] hM hml hl.1 hW h6 rfl (by decide) (Ct_rd (c_X8_isAt_ l G fu _ q5 (S q5) _ h6 (by decide) hr7)) (cwV 1 hM.2.2.2.1 (gV mk_RX5_53 im_X8_isAt_ se_X8_isAt_ it_RX8 cd_X8_isAt_) rfl rfl rfl (by decide +kernel) ⟨Nat.le_of_ble_eq_true rfl, Nat.le_of_ble_eq_true rfl⟩) rfl rfl (Nat.le_of_ble_eq_true rfl) ⟨Nat.zero_le _, Nat.zero_le _⟩ dX5_factStep_22 (fun H locs hW hk => ?_)
    refine lv_if_eq (tgt := 33) hx hb dX5_factStep_25 (by decide) (fun c8 => ?_) (fun c8 => ?_)
    · have hf := if_t c8 hf
      refine lv_bipush (v := (-3 : Int32)) hx hb dX5_factStep_33 (by decide) ?_
      cases hf
      exact W.iret hx hb hr (b_ret0 hW (fun _ _ => rfl) _) hW.2.2.2 dX5_factStep_35 hlk
    · have hf := if_f c8 hf
      refine lv_bipush (v := (-2 : Int32)) hx hb dX5_factStep_28 (by decide) ?_
      refine lv_goto (tgt := 35) hx hb dX5_factStep_30 (by decide) ?_
      cases hf
      exact W.iret hx hb hr (b_ret0 hW (fun _ _ => rfl) _) hW.2.2.2 dX5_factStep_35 hlk
  · have hf := if_f c4 hf
    refine lv_iconst (v := (-1 : Int32)) hx hb dX5_factStep_13 (by decide) ?_
    cases hf
    exact W.iret hx hb hr (b_ret0 hW (fun _ _ => rfl) _) hW.2.2.2 dX5_factStep_14 hlk
noncomputable def f_X5_factStep (fu : Nat) (S : ST) (a : Nat) : Option (Int32) := f_X5_factStep_0 fu S a
set_option maxHeartbeats 4000000 in
set_option maxRecDepth 100000 in
theorem c_X5_factStep (l : Launch) (G : GG) (fu : Nat) (S : ST) (a : Nat) {z : Int32} (ha : gC (S a) = 5) (hf : f_X5_factStep fu S a = some z) : Ct l yX5_factStep w_X5_factStep RM_X5_factStep G S [.ref a] (some (.int z)) S 0 0 := by
  refine Met.ofW (cc := cX5_factStep) (maxL := 1) (ret := (some .int)) (by decide) rfl ?_
  intro p e s m args below meth c s₁ B hml hv
  obtain ⟨rfl, hB, hK, hz⟩ := hv
  have hM : MC G p s m _ c cX5_factStep w_X5_factStep RX5 := ⟨B.exec, B.bytes, findClass_of_methodNamed B.named, atoms_spec (ws := w_X5_factStep) B.pre, hK, hz⟩
  have hW : WB G S s s.heap [] := ⟨hB, va_S.rf⟩
  have hl := lv_entry ([.ref a]) (n := 1) (Nat.le_of_ble_eq_true rfl)
  rw [lg_entry_eq]
  generalize (lg_sl ([.ref a]) ++ List.replicate (1 - (lg_sl ([.ref a])).length) Slot.unset).toArray = ls at hl ⊢
  have hl : lv_has ls 1 [(0, .ref a)] := hl
  exact t_X5_factStep_0 (fu := fu) hM hml B.returns B.notSynchronized ha hf _ _ hW _ (lv_sub hl [0] rfl)
