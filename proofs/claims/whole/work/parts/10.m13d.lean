abbrev w_X13_nights : List Cond := Cond.code yX13_nights cX13_nights 3 (some .int) :: wsL_law0
abbrev RM_X13_nights : Room := { frames := 6, cells := 0, slots := 0, locals := 133 }
noncomputable def f_X13_nights_130s (fu : Nat)  (k130 : Int32 → GV → Option (Int32 × GV)) (x1 : Int32) (x2 : Int32) (v : GV) : Option (Int32 × GV) :=
  if ((4 : Int32) * x1) ≤ x2 then
    (some ((0 : Int32), v))
  else
    (nm (((125 : Int32) + x2)) fun y2 =>
    ck (inb y2 250) <|
    nm ((gA v 21 y2.toNatClampNeg)) fun y4 =>
    ck (inb ((1 : Int32) + x2) 250) <|
    nm (sA v 21 ((1 : Int32) + x2).toNatClampNeg y4) fun v6 =>
    nm (x2 + (1 : Int32)) fun y7 =>
    k130 y7 v6)
noncomputable def f_X13_nights_130 (fu n : Nat)  (x1 : Int32) : Int32 → GV → Option (Int32 × GV) :=
  lq_2 (fun k130 => f_X13_nights_130s fu  k130 x1) n
set_option maxHeartbeats 4000000 in
set_option maxRecDepth 100000 in
theorem t_X13_nights_130s {G : GG} {p : Program} {l : Launch} {e : Env} {s : State} {m : MethodId} {args : Array Value} {below : List Frame} {meth : Method} {c : Code} {S : ST} {fu : Nat} {z : Int32 × GV} {a : Nat} {v0 : GV}  (hM : MC G p s m args c cX13_nights w_X13_nights RX13) (hml : c.maxLocals = 3) (hr : meth.sig.returnType = (some .int)) (hlk : meth.locks = false) (hc0 : gC v0 = 12) {k130 : Int32 → GV → Option (Int32 × GV)} {x1 : Int32}  (hk130 : ∀ (x2 : Int32) (v : GV), k130 x2 v = some z → gC v = 12 → ∀ (H : Heap) (locs : List Loc), WB G (st S a v) s H locs → ∀ (ls : Array Slot), lv_has ls 3 [(0, .ref a), (1, .int x1), (2, .int x2)] → W p l e RM_X13_nights s m args below meth c H locs 0 0 (QR G below args s (some (.int z.1)) (st S a v0) (st S a z.2)) (F0 m 130 ls [])) : ∀ (x2 : Int32) (v : GV), f_X13_nights_130s fu  k130 x1 x2 v = some z → gC v = 12 → ∀ (H : Heap) (locs : List Loc), WB G (st S a v) s H locs → ∀ (ls : Array Slot), lv_has ls 3 [(0, .ref a), (1, .int x1), (2, .int x2)] → W p l e RM_X13_nights s m args below meth c H locs 0 0 (QR G below args s (some (.int z.1)) (st S a v0) (st S a z.2)) (F0 m 130 ls []) := by
  intro x2 v hf hc H locs hW ls hl
  have hx := hM.1
  have hb := hM.2.1
  refine lv_iload_n hx hb dX13_nights_130 rfl (lv_at hl 2 rfl) ?_
  refine lv_iconst (v := (4 : Int32)) hx hb dX13_nights_131 (by decide) ?_
  refine lv_iload_n hx hb dX13_nights_132 rfl (lv_at hl 1 rfl) ?_
  refine lv_imul hx hb dX13_nights_133 ?_
  refine lv_icmp_ge (tgt := 160) hx hb dX13_nights_134 (by decide) (fun c1 => ?_) (fun c1 => ?_)
  · have hf := if_t c1 hf
    refine lv_iconst (v := (0 : Int32)) hx hb dX13_nights_160 (by decide) ?_
    cases hf
    exact W.iret hx hb hr (b_ret0 hW (keep_s2 hc0 hc) _) hW.2.2.2 dX13_nights_161 hlk
  · have hf := if_f c1 hf
    refine lv_aload_n hx hb dX13_nights_137 rfl (lv_at hl 0 rfl) ?_
    refine b_get hM hW 11 21 hc rfl rfl (by decide) wi_X13 (wgm fk_RX13_116) (x := .ref (a + 13)) rfl dX13_nights_138 ?_
    refine lv_iconst (v := (1 : Int32)) hx hb dX13_nights_141 (by decide) ?_
    refine lv_iload_n hx hb dX13_nights_142 rfl (lv_at hl 2 rfl) ?_
    refine lv_iadd hx hb dX13_nights_143 ?_
    refine lv_aload_n hx hb dX13_nights_144 rfl (lv_at hl 0 rfl) ?_
    refine b_get hM hW 11 21 hc rfl rfl (by decide) wi_X13 (wgm fk_RX13_116) (x := .ref (a + 13)) rfl dX13_nights_145 ?_
    refine lv_bipush (v := (125 : Int32)) hx hb dX13_nights_148 (by decide) ?_
    refine lv_iload_n hx hb dX13_nights_150 rfl (lv_at hl 2 rfl) ?_
    refine lv_iadd hx hb dX13_nights_151 ?_
    refine lv_topi (fun y2 ey2 => ?_)
    have hf := nm_at ey2 hf
    obtain ⟨h3, hf⟩ := ck_elim hf
    refine b_iald (n := 250) hM hW 11 21 hc (by decide) rfl rfl rfl rfl h3 dX13_nights_152 ?_
    refine lv_topi (fun y4 ey4 => ?_)
    have hf := nm_at ey4 hf
    obtain ⟨h5, hf⟩ := ck_elim hf
    refine b_iast (n := 250) hM hW 11 21 hc (by decide) rfl rfl rfl rfl h5 dX13_nights_153 (fun v6 ev6 hc H locs hW => ?_)
    have hf := nm_at ev6 hf
    obtain ⟨y7, ey7⟩ : ∃ y : Int32, y = x2 + (1 : Int32) := ⟨_, rfl⟩
    have hf := nm_at ey7 hf
    refine lv_iinc (v := y7) (lv' := [(2, .int y7), (0, .ref a), (1, .int x1)]) hx hb dX13_nights_154 hl (k := 2) rfl (by rw [ey7]; rfl) (by decide) rfl (fun ls hl => ?_)
    refine lv_goto (tgt := 130) hx hb dX13_nights_157 (by decide) ?_
    exact hk130 _ _ hf hc _ _ hW _ (lv_sub hl [1, 2, 0] rfl)
theorem t_X13_nights_130 {G : GG} {p : Program} {l : Launch} {e : Env} {s : State} {m : MethodId} {args : Array Value} {below : List Frame} {meth : Method} {c : Code} {S : ST} {fu : Nat} {z : Int32 × GV} {a : Nat} {v0 : GV}  {x1 : Int32} (hM : MC G p s m args c cX13_nights w_X13_nights RX13) (hml : c.maxLocals = 3) (hr : meth.sig.returnType = (some .int)) (hlk : meth.locks = false) (hc0 : gC v0 = 12)  : ∀ {n : Nat} (x2 : Int32) (v : GV), f_X13_nights_130 fu n  x1 x2 v = some z → gC v = 12 → ∀ (H : Heap) (locs : List Loc), WB G (st S a v) s H locs → ∀ (ls : Array Slot), lv_has ls 3 [(0, .ref a), (1, .int x1), (2, .int x2)] → W p l e RM_X13_nights s m args below meth c H locs 0 0 (QR G below args s (some (.int z.1)) (st S a v0) (st S a z.2)) (F0 m 130 ls []) := by
  intro n
  induction n with
  | zero => intro x2 v hf; cases hf
  | succ n ih => intro x2 v hf; exact t_X13_nights_130s (fu := fu) hM hml hr hlk hc0  (k130 := f_X13_nights_130 fu n  x1) ih _ _ hf
noncomputable def f_X13_nights_109 (fu : Nat)  (v : GV) (x1 : Int32) : Option (Int32 × GV) :=
  if (gI v 8) ≤ 0 then
    (nm (sA v 21 (0 : Int32).toNatClampNeg x1) fun v2 =>
    f_X13_nights_130 fu fu x1 (0 : Int32) v2)
  else
    (some ((gI v 8), v))
set_option maxHeartbeats 4000000 in
set_option maxRecDepth 100000 in
theorem t_X13_nights_109 {G : GG} {p : Program} {l : Launch} {e : Env} {s : State} {m : MethodId} {args : Array Value} {below : List Frame} {meth : Method} {c : Code} {S : ST} {fu : Nat} {z : Int32 × GV} {a : Nat} {v0 : GV}  {v : GV} {x1 : Int32} (hM : MC G p s m args c cX13_nights w_X13_nights RX13) (hml : c.maxLocals = 3) (hr : meth.sig.returnType = (some .int)) (hlk : meth.locks = false) (hc0 : gC v0 = 12)  (hf : f_X13_nights_109 fu  v x1 = some z) : gC v = 12 → ∀ (H : Heap) (locs : List Loc), WB G (st S a v) s H locs → ∀ (ls : Array Slot), lv_has ls 3 [(0, .ref a), (1, .int x1)] → W p l e RM_X13_nights s m args below meth c H locs 0 0 (QR G below args s (some (.int z.1)) (st S a v0) (st S a z.2)) (F0 m 109 ls []) := by
  intro hc H locs hW ls hl
  have hx := hM.1
  have hb := hM.2.1
  refine lv_aload_n hx hb dX13_nights_109 rfl (lv_at hl 0 rfl) ?_
  refine b_get hM hW 11 8 hc rfl rfl (by decide) wi_X13 (wgm fk_RX13_192) (x := .int (gI v 8)) rfl dX13_nights_110 ?_
  refine lv_if_le (tgt := 121) hx hb dX13_nights_113 (by decide) (fun c1 => ?_) (fun c1 => ?_)
  · have hf := if_t c1 hf
    refine lv_aload_n hx hb dX13_nights_121 rfl (lv_at hl 0 rfl) ?_
    refine b_get hM hW 11 21 hc rfl rfl (by decide) wi_X13 (wgm fk_RX13_116) (x := .ref (a + 13)) rfl dX13_nights_122 ?_
    refine lv_iconst (v := (0 : Int32)) hx hb dX13_nights_125 (by decide) ?_
    refine lv_iload_n hx hb dX13_nights_126 rfl (lv_at hl 1 rfl) ?_
    refine b_iast (n := 250) hM hW 11 21 hc (by decide) rfl rfl rfl rfl (by decide) dX13_nights_127 (fun v2 ev2 hc H locs hW => ?_)
    have hf := nm_at ev2 hf
    refine lv_iconst (v := (0 : Int32)) hx hb dX13_nights_128 (by decide) ?_
    refine lv_istore_n (lv' := [(2, .int (0 : Int32)), (0, .ref a), (1, .int x1)]) hx hb dX13_nights_129 rfl hl (by decide) rfl (fun ls hl => ?_)
    exact t_X13_nights_130 (fu := fu) hM hml hr hlk hc0 _ _ hf hc _ _ hW _ (lv_sub hl [1, 2, 0] rfl)
  · have hf := if_f c1 hf
    refine lv_aload_n hx hb dX13_nights_116 rfl (lv_at hl 0 rfl) ?_
    refine b_get hM hW 11 8 hc rfl rfl (by decide) wi_X13 (wgm fk_RX13_192) (x := .int (gI v 8)) rfl dX13_nights_117 ?_
    cases hf
    exact W.iret hx hb hr (b_ret0 hW (keep_s2 hc0 hc) _) hW.2.2.2 dX13_nights_120 hlk
noncomputable def f_X13_nights_100 (fu : Nat) (k11 : Int32 → GV → Option (Int32 × GV)) (v : GV) (x1 : Int32) : Option (Int32 × GV) :=
  bd (f_X13_takeSign fu v (59 : Int32)) fun v2 =>
  k11 x1 v2
set_option maxHeartbeats 4000000 in
set_option maxRecDepth 100000 in
theorem t_X13_nights_100 {G : GG} {p : Program} {l : Launch} {e : Env} {s : State} {m : MethodId} {args : Array Value} {below : List Frame} {meth : Method} {c : Code} {S : ST} {fu : Nat} {z : Int32 × GV} {a : Nat} {v0 : GV} {k11 : Int32 → GV → Option (Int32 × GV)} {v : GV} {x1 : Int32} (hM : MC G p s m args c cX13_nights w_X13_nights RX13) (hml : c.maxLocals = 3) (hr : meth.sig.returnType = (some .int)) (hlk : meth.locks = false) (hc0 : gC v0 = 12) (hk11 : ∀ (x1 : Int32) (v : GV), k11 x1 v = some z → gC v = 12 → ∀ (H : Heap) (locs : List Loc), WB G (st S a v) s H locs → ∀ (ls : Array Slot), lv_has ls 3 [(0, .ref a), (1, .int x1)] → W p l e RM_X13_nights s m args below meth c H locs 0 0 (QR G below args s (some (.int z.1)) (st S a v0) (st S a z.2)) (F0 m 11 ls [])) (hf : f_X13_nights_100 fu k11 v x1 = some z) : gC v = 12 → ∀ (H : Heap) (locs : List Loc), WB G (st S a v) s H locs → ∀ (ls : Array Slot), lv_has ls 3 [(0, .ref a), (1, .int x1)] → W p l e RM_X13_nights s m args below meth c H locs 0 0 (QR G below args s (some (.int z.1)) (st S a v0) (st S a z.2)) (F0 m 100 ls []) := by
  intro hc H locs hW ls hl
  have hx := hM.1
  have hb := hM.2.1
  refine lv_aload_n hx hb dX13_nights_100 rfl (lv_at hl 0 rfl) ?_
  refine lv_bipush (v := (59 : Int32)) hx hb dX13_nights_101 (by decide) ?_
  obtain ⟨v2, hr1, hf⟩ := bd_elim hf
  refine b_callVv [.int (59 : Int32)] [] hM hml hl.1 hW hc rfl (by decide) (c_X13_takeSign l G fu _ a v _ hc hr1) (cwV 1 hM.2.2.2.1 (gV mk_RX13_248 im_X13_takeSign se_X13_takeSign it_RX13 cd_X13_takeSign) rfl rfl rfl (by decide +kernel) ⟨Nat.le_of_ble_eq_true rfl, Nat.le_of_ble_eq_true rfl⟩) rfl rfl (Nat.le_of_ble_eq_true rfl) ⟨Nat.zero_le _, Nat.zero_le _⟩ dX13_nights_103 (fun H locs hW hk => ?_)
  have hc := keep_at hc hk
  refine lv_goto (tgt := 11) hx hb dX13_nights_106 (by decide) ?_
  exact hk11 _ _ hf hc _ _ hW _ (lv_sub hl [0, 1] rfl)
noncomputable def f_X13_nights_11s (fu : Nat)  (k11 : Int32 → GV → Option (Int32 × GV)) (x1 : Int32) (v : GV) : Option (Int32 × GV) :=
  if (gI v 8) = 0 then
    (nm ((gI v 7)) fun y2 =>
    ck (inb y2 1002) <|
    if (gA v 4 y2.toNatClampNeg) = 0 then
      (f_X13_nights_109 fu v x1)
    else
      (bd (f_X13_wordHere fu v (13 : Int32) (5 : Int32)) fun r5 =>
      if 0 ≤ r5 then
        (if x1 = (30 : Int32) then
          (bd (f_X13_wrong fu v (5 : Int32)) fun v15 =>
          f_X13_nights_100 fu k11 v15 x1)
        else
          (nm (sI v 7 ((gI v 7) + (1 : Int32))) fun v8 =>
          ck (inb ((125 : Int32) + ((4 : Int32) * x1)) 250) <|
          nm (sA v8 21 ((125 : Int32) + ((4 : Int32) * x1)).toNatClampNeg r5) fun v10 =>
          bd (f_X13_readNight fu v10 r5 ((126 : Int32) + ((4 : Int32) * x1))) fun v12 =>
          nm (x1 + (1 : Int32)) fun y13 =>
          f_X13_nights_100 fu k11 v12 y13))
      else
        (bd (f_X13_wrong fu v (1 : Int32)) fun v17 =>
        f_X13_nights_100 fu k11 v17 x1)))
  else
    (f_X13_nights_109 fu v x1)
noncomputable def f_X13_nights_11 (fu n : Nat)  : Int32 → GV → Option (Int32 × GV) :=
  lq_2 (fun k11 => f_X13_nights_11s fu  k11 ) n
set_option maxHeartbeats 4000000 in
set_option maxRecDepth 100000 in
theorem t_X13_nights_11s {G : GG} {p : Program} {l : Launch} {e : Env} {s : State} {m : MethodId} {args : Array Value} {below : List Frame} {meth : Method} {c : Code} {S : ST} {fu : Nat} {z : Int32 × GV} {a : Nat} {v0 : GV}  (hM : MC G p s m args c cX13_nights w_X13_nights RX13) (hml : c.maxLocals = 3) (hr : meth.sig.returnType = (some .int)) (hlk : meth.locks = false) (hc0 : gC v0 = 12) {k11 : Int32 → GV → Option (Int32 × GV)}  (hk11 : ∀ (x1 : Int32) (v : GV), k11 x1 v = some z → gC v = 12 → ∀ (H : Heap) (locs : List Loc), WB G (st S a v) s H locs → ∀ (ls : Array Slot), lv_has ls 3 [(0, .ref a), (1, .int x1)] → W p l e RM_X13_nights s m args below meth c H locs 0 0 (QR G below args s (some (.int z.1)) (st S a v0) (st S a z.2)) (F0 m 11 ls [])) : ∀ (x1 : Int32) (v : GV), f_X13_nights_11s fu  k11  x1 v = some z → gC v = 12 → ∀ (H : Heap) (locs : List Loc), WB G (st S a v) s H locs → ∀ (ls : Array Slot), lv_has ls 3 [(0, .ref a), (1, .int x1)] → W p l e RM_X13_nights s m args below meth c H locs 0 0 (QR G below args s (some (.int z.1)) (st S a v0) (st S a z.2)) (F0 m 11 ls []) := by
  intro x1 v hf hc H locs hW ls hl
  have hx := hM.1
  have hb := hM.2.1
  refine lv_aload_n hx hb dX13_nights_11 rfl (lv_at hl 0 rfl) ?_
  refine b_get hM hW 11 8 hc rfl rfl (by decide) wi_X13 (wgm fk_RX13_192) (x := .int (gI v 8)) rfl dX13_nights_12 ?_
  refine lv_if_ne (tgt := 109) hx hb dX13_nights_15 (by decide) (fun c1 => ?_) (fun c1 => ?_)
  · have hf := if_f c1 hf
    exact t_X13_nights_109 (fu := fu) hM hml hr hlk hc0 hf hc _ _ hW _ (lv_sub hl [0, 1] rfl)
  · have hf := if_t c1 hf
    refine lv_aload_n hx hb dX13_nights_18 rfl (lv_at hl 0 rfl) ?_
    refine b_get hM hW 11 4 hc rfl rfl (by decide) wi_X13 (wgm fk_RX13_24) (x := .ref (a + 2)) rfl dX13_nights_19 ?_
    refine lv_aload_n hx hb dX13_nights_22 rfl (lv_at hl 0 rfl) ?_
    refine b_get hM hW 11 7 hc rfl rfl (by decide) wi_X13 (wgm fk_RX13_189) (x := .int (gI v 7)) rfl dX13_nights_23 ?_
    refine lv_topi (fun y2 ey2 => ?_)
    have hf := nm_at ey2 hf
    obtain ⟨h3, hf⟩ := ck_elim hf
    refine b_iald (n := 1002) hM hW 11 4 hc (by decide) rfl rfl rfl rfl h3 dX13_nights_26 ?_
    refine lv_if_eq (tgt := 109) hx hb dX13_nights_27 (by decide) (fun c4 => ?_) (fun c4 => ?_)
    · have hf := if_t c4 hf
      exact t_X13_nights_109 (fu := fu) hM hml hr hlk hc0 hf hc _ _ hW _ (lv_sub hl [0, 1] rfl)
    · have hf := if_f c4 hf
      refine lv_aload_n hx hb dX13_nights_30 rfl (lv_at hl 0 rfl) ?_
      refine lv_bipush (v := (13 : Int32)) hx hb dX13_nights_31 (by decide) ?_
      refine lv_iconst (v := (5 : Int32)) hx hb dX13_nights_33 (by decide) ?_
      obtain ⟨r5, hr5, hf⟩ := bd_elim hf
      refine b_callVi [.int (13 : Int32), .int (5 : Int32)] [] hM hml hl.1 hW hc rfl (by decide) (c_X13_wordHere l G fu _ a v _ _ hc hr5) (cwV 2 hM.2.2.2.1 (gV mk_RX13_214 im_X13_wordHere se_X13_wordHere it_RX13 cd_X13_wordHere) rfl rfl rfl (by decide +kernel) ⟨Nat.le_of_ble_eq_true rfl, Nat.le_of_ble_eq_true rfl⟩) rfl rfl (Nat.le_of_ble_eq_true rfl) ⟨Nat.zero_le _, Nat.zero_le _⟩ dX13_nights_34 (fun H locs hW hk => ?_)
      refine lv_istore_n (lv' := [(2, .int r5), (0, .ref a), (1, .int x1)]) hx hb dX13_nights_37 rfl hl (by decide) rfl (fun ls hl => ?_)
      refine lv_iload_n hx hb dX13_nights_38 rfl (lv_at hl 0 rfl) ?_
      refine lv_if_ge (tgt := 50) hx hb dX13_nights_39 (by decide) (fun c6 => ?_) (fun c6 => ?_)
      · have hf := if_t c6 hf
        refine lv_iload_n hx hb dX13_nights_50 rfl (lv_at hl 2 rfl) ?_
        refine lv_bipush (v := (30 : Int32)) hx hb dX13_nights_51 (by decide) ?_
        refine lv_icmp_ne (tgt := 64) hx hb dX13_nights_53 (by decide) (fun c7 => ?_) (fun c7 => ?_)
        · have hf := if_f c7 hf
          refine lv_aload_n hx hb dX13_nights_64 rfl (lv_at hl 1 rfl) ?_
          refine lv_dup hx hb dX13_nights_65 rfl ?_
          refine b_get hM hW 11 7 hc rfl rfl (by decide) wi_X13 (wgm fk_RX13_189) (x := .int (gI v 7)) rfl dX13_nights_66 ?_
          refine lv_iconst (v := (1 : Int32)) hx hb dX13_nights_69 (by decide) ?_
          refine lv_iadd hx hb dX13_nights_70 ?_
          refine b_putI hM hW 11 7 hc rfl rfl (by decide) wi_X13 tyX13 tyX13_ok nmX13 (wgm fk_RX13_189) rfl rfl rfl dX13_nights_71 (fun v8 ev8 hc H locs hW => ?_)
          have hf := nm_at ev8 hf
          refine lv_aload_n hx hb dX13_nights_74 rfl (lv_at hl 1 rfl) ?_
          refine b_get hM hW 11 21 hc rfl rfl (by decide) wi_X13 (wgm fk_RX13_116) (x := .ref (a + 13)) rfl dX13_nights_75 ?_
          refine lv_bipush (v := (125 : Int32)) hx hb dX13_nights_78 (by decide) ?_
          refine lv_iconst (v := (4 : Int32)) hx hb dX13_nights_80 (by decide) ?_
          refine lv_iload_n hx hb dX13_nights_81 rfl (lv_at hl 2 rfl) ?_
          refine lv_imul hx hb dX13_nights_82 ?_
          refine lv_iadd hx hb dX13_nights_83 ?_
          refine lv_iload_n hx hb dX13_nights_84 rfl (lv_at hl 0 rfl) ?_
          obtain ⟨h9, hf⟩ := ck_elim hf
          refine b_iast (n := 250) hM hW 11 21 hc (by decide) rfl rfl rfl rfl h9 dX13_nights_85 (fun v10 ev10 hc H locs hW => ?_)
          have hf := nm_at ev10 hf
          refine lv_aload_n hx hb dX13_nights_86 rfl (lv_at hl 1 rfl) ?_
          refine lv_iload_n hx hb dX13_nights_87 rfl (lv_at hl 0 rfl) ?_
          refine lv_bipush (v := (126 : Int32)) hx hb dX13_nights_88 (by decide) ?_
          refine lv_iconst (v := (4 : Int32)) hx hb dX13_nights_90 (by decide) ?_
          refine lv_iload_n hx hb dX13_nights_91 rfl (lv_at hl 2 rfl) ?_
          refine lv_imul hx hb dX13_nights_92 ?_
          refine lv_iadd hx hb dX13_nights_93 ?_
          obtain ⟨v12, hr11, hf⟩ := bd_elim hf
          refine b_callVv [.int r5, .int ((126 : Int32) + ((4 : Int32) * x1))] [] hM hml hl.1 hW hc rfl (by decide) (c_X13_readNight l G fu _ a v10 _ _ hc hr11) (cwV 2 hM.2.2.2.1 (gV mk_RX13_299 im_X13_readNight se_X13_readNight it_RX13 cd_X13_readNight) rfl rfl rfl (by decide +kernel) ⟨Nat.le_of_ble_eq_true rfl, Nat.le_of_ble_eq_true rfl⟩) rfl rfl (Nat.le_of_ble_eq_true rfl) ⟨Nat.zero_le _, Nat.zero_le _⟩ dX13_nights_94 (fun H locs hW hk => ?_)
          have hc := keep_at hc hk
          obtain ⟨y13, ey13⟩ : ∃ y : Int32, y = x1 + (1 : Int32) := ⟨_, rfl⟩
          have hf := nm_at ey13 hf
          refine lv_iinc (v := y13) (lv' := [(1, .int y13), (2, .int r5), (0, .ref a)]) hx hb dX13_nights_97 hl (k := 2) rfl (by rw [ey13]; rfl) (by decide) rfl (fun ls hl => ?_)
          exact t_X13_nights_100 (fu := fu) hM hml hr hlk hc0 hk11 hf hc _ _ hW _ (lv_sub hl [2, 0] rfl)
        · have hf := if_t c7 hf
          refine lv_aload_n hx hb dX13_nights_56 rfl (lv_at hl 1 rfl) ?_
          refine lv_iconst (v := (5 : Int32)) hx hb dX13_nights_57 (by decide) ?_
          obtain ⟨v15, hr14, hf⟩ := bd_elim hf
          refine b_callVv [.int (5 : Int32)] [] hM hml hl.1 hW hc rfl (by decide) (c_X13_wrong l G fu _ a v _ hc hr14) (cwV 1 hM.2.2.2.1 (gV mk_RX13_198 im_X13_wrong se_X13_wrong it_RX13 cd_X13_wrong) rfl rfl rfl (by decide +kernel) ⟨Nat.le_of_ble_eq_true rfl, Nat.le_of_ble_eq_true rfl⟩) rfl rfl (Nat.le_of_ble_eq_true rfl) ⟨Nat.zero_le _, Nat.zero_le _⟩ dX13_nights_58 (fun H locs hW hk => ?_)
          have hc := keep_at hc hk
          refine lv_goto (tgt := 100) hx hb dX13_nights_61 (by decide) ?_
          exact t_X13_nights_100 (fu := fu) hM hml hr hlk hc0 hk11 hf hc _ _ hW _ (lv_sub hl [1, 2] rfl)
      · have hf := if_f c6 hf
        refine lv_aload_n hx hb dX13_nights_42 rfl (lv_at hl 1 rfl) ?_
        refine lv_iconst (v := (1 : Int32)) hx hb dX13_nights_43 (by decide) ?_
        obtain ⟨v17, hr16, hf⟩ := bd_elim hf
        refine b_callVv [.int (1 : Int32)] [] hM hml hl.1 hW hc rfl (by decide) (c_X13_wrong l G fu _ a v _ hc hr16) (cwV 1 hM.2.2.2.1 (gV mk_RX13_198 im_X13_wrong se_X13_wrong it_RX13 cd_X13_wrong) rfl rfl rfl (by decide +kernel) ⟨Nat.le_of_ble_eq_true rfl, Nat.le_of_ble_eq_true rfl⟩) rfl rfl (Nat.le_of_ble_eq_true rfl) ⟨Nat.zero_le _, Nat.zero_le _⟩ dX13_nights_44 (fun H locs hW hk => ?_)
        have hc := keep_at hc hk
        refine lv_goto (tgt := 100) hx hb dX13_nights_47 (by decide) ?_
        exact t_X13_nights_100 (fu := fu) hM hml hr hlk hc0 hk11 hf hc _ _ hW _ (lv_sub hl [1, 2] rfl)
theorem t_X13_nights_11 {G : GG} {p : Program} {l : Launch} {e : Env} {s : State} {m : MethodId} {args : Array Value} {below : List Frame} {meth : Method} {c : Code} {S : ST} {fu : Nat} {z : Int32 × GV} {a : Nat} {v0 : GV}  (hM : MC G p s m args c cX13_nights w_X13_nights RX13) (hml : c.maxLocals = 3) (hr : meth.sig.returnType = (some .int)) (hlk : meth.locks = false) (hc0 : gC v0 = 12)  : ∀ {n : Nat} (x1 : Int32) (v : GV), f_X13_nights_11 fu n   x1 v = some z → gC v = 12 → ∀ (H : Heap) (locs : List Loc), WB G (st S a v) s H locs → ∀ (ls : Array Slot), lv_has ls 3 [(0, .ref a), (1, .int x1)] → W p l e RM_X13_nights s m args below meth c H locs 0 0 (QR G below args s (some (.int z.1)) (st S a v0) (st S a z.2)) (F0 m 11 ls []) := by
  intro n
  induction n with
  | zero => intro x1 v hf; cases hf
  | succ n ih => intro x1 v hf; exact t_X13_nights_11s (fu := fu) hM hml hr hlk hc0  (k11 := f_X13_nights_11 fu n  ) ih _ _ hf
noncomputable def f_X13_nights_0 (fu : Nat)  (v : GV) : Option (Int32 × GV) :=
  nm (sI v 0 (0 : Int32)) fun v1 =>
  bd (f_X13_cutAll fu v1) fun v3 =>
  f_X13_nights_11 fu fu (0 : Int32) v3
set_option maxHeartbeats 4000000 in
set_option maxRecDepth 100000 in
theorem t_X13_nights_0 {G : GG} {p : Program} {l : Launch} {e : Env} {s : State} {m : MethodId} {args : Array Value} {below : List Frame} {meth : Method} {c : Code} {S : ST} {fu : Nat} {z : Int32 × GV} {a : Nat} {v0 : GV}  {v : GV} (hM : MC G p s m args c cX13_nights w_X13_nights RX13) (hml : c.maxLocals = 3) (hr : meth.sig.returnType = (some .int)) (hlk : meth.locks = false) (hc0 : gC v0 = 12)  (hf : f_X13_nights_0 fu  v  = some z) : gC v = 12 → ∀ (H : Heap) (locs : List Loc), WB G (st S a v) s H locs → ∀ (ls : Array Slot), lv_has ls 3 [(0, .ref a)] → W p l e RM_X13_nights s m args below meth c H locs 0 0 (QR G below args s (some (.int z.1)) (st S a v0) (st S a z.2)) (F0 m 0 ls []) := by
  intro hc H locs hW ls hl
  have hx := hM.1
  have hb := hM.2.1
  refine lv_aload_n hx hb dX13_nights_0 rfl (lv_at hl 0 rfl) ?_
  refine lv_iconst (v := (0 : Int32)) hx hb dX13_nights_1 (by decide) ?_
  refine b_putI hM hW 11 0 hc rfl rfl (by decide) wi_X13 tyX13 tyX13_ok nmX13 (wgm fk_RX13_1) rfl rfl rfl dX13_nights_2 (fun v1 ev1 hc H locs hW => ?_)
  have hf := nm_at ev1 hf
  refine lv_aload_n hx hb dX13_nights_5 rfl (lv_at hl 0 rfl) ?_
  obtain ⟨v3, hr2, hf⟩ := bd_elim hf
  refine b_callVv [] [] hM hml hl.1 hW hc rfl (by decide) (c_X13_cutAll l G fu _ a v1 hc hr2) (cwV 0 hM.2.2.2.1 (gV mk_RX13_239 im_X13_cutAll se_X13_cutAll it_RX13 cd_X13_cutAll) rfl rfl rfl (by decide +kernel) ⟨Nat.le_of_ble_eq_true rfl, Nat.le_of_ble_eq_true rfl⟩) rfl rfl (Nat.le_of_ble_eq_true rfl) ⟨Nat.zero_le _, Nat.zero_le _⟩ dX13_nights_6 (fun H locs hW hk => ?_)
  have hc := keep_at hc hk
  refine lv_iconst (v := (0 : Int32)) hx hb dX13_nights_9 (by decide) ?_
  refine lv_istore_n (lv' := [(1, .int (0 : Int32)), (0, .ref a)]) hx hb dX13_nights_10 rfl hl (by decide) rfl (fun ls hl => ?_)
  exact t_X13_nights_11 (fu := fu) hM hml hr hlk hc0 _ _ hf hc _ _ hW _ (lv_sub hl [1, 0] rfl)
noncomputable def f_X13_nights (fu : Nat) (v : GV) : Option (Int32 × GV) := f_X13_nights_0 fu v
set_option maxHeartbeats 4000000 in
set_option maxRecDepth 100000 in
theorem c_X13_nights (l : Launch) (G : GG) (fu : Nat) (S : ST) (a : Nat) (v : GV) {z : Int32} {w : GV} (hc : gC v = 12) (hf : f_X13_nights fu v = some (z, w)) : Ct l yX13_nights w_X13_nights RM_X13_nights G (st S a v) [.ref a] (some (.int z)) (st S a w) 0 0 := by
  refine Met.ofW (cc := cX13_nights) (maxL := 3) (ret := (some .int)) (by decide) rfl ?_
  intro p e s m args below meth c s₁ B hml hv
  obtain ⟨rfl, hB, hK, hz⟩ := hv
  have hM : MC G p s m _ c cX13_nights w_X13_nights RX13 := ⟨B.exec, B.bytes, findClass_of_methodNamed B.named, atoms_spec (ws := w_X13_nights) B.pre, hK, hz⟩
  have hW : WB G (st S a v) s s.heap [] := ⟨hB, va_S.rf⟩
  have hl := lv_entry ([.ref a]) (n := 3) (Nat.le_of_ble_eq_true rfl)
  rw [lg_entry_eq]
  generalize (lg_sl ([.ref a]) ++ List.replicate (3 - (lg_sl ([.ref a])).length) Slot.unset).toArray = ls at hl ⊢
  have hl : lv_has ls 3 [(0, .ref a)] := hl
  exact t_X13_nights_0 hM hml B.returns B.notSynchronized hc hf hc _ _ hW _ (lv_sub hl [0] rfl)
abbrev w_X13_both : List Cond := Cond.code yX13_both cX13_both 3 (some .int) :: wsL_law0
abbrev RM_X13_both : Room := { frames := 0, cells := 0, slots := 0, locals := 0 }
noncomputable def f_X13_both_96 (fu : Nat)  : Option (Int32) :=
  some (1 : Int32)
set_option maxHeartbeats 4000000 in
set_option maxRecDepth 100000 in
theorem t_X13_both_96 {G : GG} {p : Program} {l : Launch} {e : Env} {s : State} {m : MethodId} {args : Array Value} {below : List Frame} {meth : Method} {c : Code} {S : ST} {fu : Nat} {z : Int32}  (hM : MC G p s m args c cX13_both w_X13_both RX13) (hml : c.maxLocals = 3) (hr : meth.sig.returnType = (some .int)) (hlk : meth.locks = false)  (hf : f_X13_both_96 fu    = some z) : ∀ (H : Heap) (locs : List Loc), WB G S s H locs → ∀ (ls : Array Slot), lv_has ls 3 [] → W p l e RM_X13_both s m args below meth c H locs 0 0 (QR G below args s (some (.int z)) S S) (F0 m 96 ls []) := by
  intro H locs hW ls hl
  have hx := hM.1
  have hb := hM.2.1
  refine lv_iconst (v := (1 : Int32)) hx hb dX13_both_96 (by decide) ?_
  refine lv_goto (tgt := 101) hx hb dX13_both_97 (by decide) ?_
  cases hf
  exact W.iret hx hb hr (b_ret0 hW (fun _ _ => rfl) _) hW.2.2.2 dX13_both_101 hlk
noncomputable def f_X13_both_86 (fu : Nat)  : Option (Int32) :=
  some (0 : Int32)
set_option maxHeartbeats 4000000 in
set_option maxRecDepth 100000 in
theorem t_X13_both_86 {G : GG} {p : Program} {l : Launch} {e : Env} {s : State} {m : MethodId} {args : Array Value} {below : List Frame} {meth : Method} {c : Code} {S : ST} {fu : Nat} {z : Int32}  (hM : MC G p s m args c cX13_both w_X13_both RX13) (hml : c.maxLocals = 3) (hr : meth.sig.returnType = (some .int)) (hlk : meth.locks = false)  (hf : f_X13_both_86 fu    = some z) : ∀ (H : Heap) (locs : List Loc), WB G S s H locs → ∀ (ls : Array Slot), lv_has ls 3 [] → W p l e RM_X13_both s m args below meth c H locs 0 0 (QR G below args s (some (.int z)) S S) (F0 m 86 ls []) := by
  intro H locs hW ls hl
  have hx := hM.1
  have hb := hM.2.1
  refine lv_iconst (v := (0 : Int32)) hx hb dX13_both_86 (by decide) ?_
  cases hf
  exact W.iret hx hb hr (b_ret0 hW (fun _ _ => rfl) _) hW.2.2.2 dX13_both_87 hlk
noncomputable def f_X13_both_0 (fu : Nat)  (x0 : Int32) (x1 : Int32) (x2 : Int32) : Option (Int32) :=
  if x0 = (4 : Int32) then
    (some (x1 + x2))
  else
  if x0 = (5 : Int32) then
    (some (x1 - x2))
  else
  if x0 = (6 : Int32) then
    (some (x1 * x2))
  else
  if x0 = (7 : Int32) then
    (if x2 ≤ x1 then
      (some (0 : Int32))
    else
      (some (1 : Int32)))
  else
  if x0 = (8 : Int32) then
    (if x1 = x2 then
      (some (1 : Int32))
    else
      (some (0 : Int32)))
  else
  if x0 = (9 : Int32) then
    (if x1 = 0 then
      (f_X13_both_86 fu)
    else
      (if x2 = 0 then
        (f_X13_both_86 fu)
      else
        (some (1 : Int32))))
  else
  (if x1 = 0 then
    (if x2 = 0 then
      (some (0 : Int32))
    else
      (f_X13_both_96 fu))
  else
    (f_X13_both_96 fu))
set_option maxHeartbeats 4000000 in
set_option maxRecDepth 100000 in
theorem t_X13_both_0 {G : GG} {p : Program} {l : Launch} {e : Env} {s : State} {m : MethodId} {args : Array Value} {below : List Frame} {meth : Method} {c : Code} {S : ST} {fu : Nat} {z : Int32}  {x0 : Int32} {x1 : Int32} {x2 : Int32} (hM : MC G p s m args c cX13_both w_X13_both RX13) (hml : c.maxLocals = 3) (hr : meth.sig.returnType = (some .int)) (hlk : meth.locks = false)  (hf : f_X13_both_0 fu   x0 x1 x2 = some z) : ∀ (H : Heap) (locs : List Loc), WB G S s H locs → ∀ (ls : Array Slot), lv_has ls 3 [(0, .int x0), (1, .int x1), (2, .int x2)] → W p l e RM_X13_both s m args below meth c H locs 0 0 (QR G below args s (some (.int z)) S S) (F0 m 0 ls []) := by
  intro H locs hW ls hl
  have hx := hM.1
  have hb := hM.2.1
  refine lv_iload_n hx hb dX13_both_0 rfl (lv_at hl 0 rfl) ?_
  by_cases c1 : x0 = (4 : Int32)
  · have hf := if_t c1 hf
    refine lv_tableIn (off := 39) (tgt := 40) hx hb dX13_both_1 (by rw [c1]; decide) (by rw [c1]; decide) (by rw [c1]; rfl) (by decide) ?_
    refine lv_iload_n hx hb dX13_both_40 rfl (lv_at hl 1 rfl) ?_
    refine lv_iload_n hx hb dX13_both_41 rfl (lv_at hl 2 rfl) ?_
    refine lv_iadd hx hb dX13_both_42 ?_
    cases hf
    exact W.iret hx hb hr (b_ret0 hW (fun _ _ => rfl) _) hW.2.2.2 dX13_both_43 hlk
  have hf := if_f c1 hf
  by_cases c2 : x0 = (5 : Int32)
  · have hf := if_t c2 hf
    refine lv_tableIn (off := 43) (tgt := 44) hx hb dX13_both_1 (by rw [c2]; decide) (by rw [c2]; decide) (by rw [c2]; rfl) (by decide) ?_
    refine lv_iload_n hx hb dX13_both_44 rfl (lv_at hl 1 rfl) ?_
    refine lv_iload_n hx hb dX13_both_45 rfl (lv_at hl 2 rfl) ?_
    refine lv_isub hx hb dX13_both_46 ?_
    cases hf
    exact W.iret hx hb hr (b_ret0 hW (fun _ _ => rfl) _) hW.2.2.2 dX13_both_47 hlk
  have hf := if_f c2 hf
  by_cases c3 : x0 = (6 : Int32)
  · have hf := if_t c3 hf
    refine lv_tableIn (off := 47) (tgt := 48) hx hb dX13_both_1 (by rw [c3]; decide) (by rw [c3]; decide) (by rw [c3]; rfl) (by decide) ?_
    refine lv_iload_n hx hb dX13_both_48 rfl (lv_at hl 1 rfl) ?_
    refine lv_iload_n hx hb dX13_both_49 rfl (lv_at hl 2 rfl) ?_
    refine lv_imul hx hb dX13_both_50 ?_
    cases hf
    exact W.iret hx hb hr (b_ret0 hW (fun _ _ => rfl) _) hW.2.2.2 dX13_both_51 hlk
  have hf := if_f c3 hf
  by_cases c4 : x0 = (7 : Int32)
  · have hf := if_t c4 hf
    refine lv_tableIn (off := 51) (tgt := 52) hx hb dX13_both_1 (by rw [c4]; decide) (by rw [c4]; decide) (by rw [c4]; rfl) (by decide) ?_
    refine lv_iload_n hx hb dX13_both_52 rfl (lv_at hl 1 rfl) ?_
    refine lv_iload_n hx hb dX13_both_53 rfl (lv_at hl 2 rfl) ?_
    refine lv_icmp_ge (tgt := 61) hx hb dX13_both_54 (by decide) (fun c5 => ?_) (fun c5 => ?_)
    · have hf := if_t c5 hf
      refine lv_iconst (v := (0 : Int32)) hx hb dX13_both_61 (by decide) ?_
      cases hf
      exact W.iret hx hb hr (b_ret0 hW (fun _ _ => rfl) _) hW.2.2.2 dX13_both_62 hlk
    · have hf := if_f c5 hf
      refine lv_iconst (v := (1 : Int32)) hx hb dX13_both_57 (by decide) ?_
      refine lv_goto (tgt := 62) hx hb dX13_both_58 (by decide) ?_
      cases hf
      exact W.iret hx hb hr (b_ret0 hW (fun _ _ => rfl) _) hW.2.2.2 dX13_both_62 hlk
  have hf := if_f c4 hf
  by_cases c6 : x0 = (8 : Int32)
  · have hf := if_t c6 hf
    refine lv_tableIn (off := 62) (tgt := 63) hx hb dX13_both_1 (by rw [c6]; decide) (by rw [c6]; decide) (by rw [c6]; rfl) (by decide) ?_
    refine lv_iload_n hx hb dX13_both_63 rfl (lv_at hl 1 rfl) ?_
    refine lv_iload_n hx hb dX13_both_64 rfl (lv_at hl 2 rfl) ?_
    refine lv_icmp_ne (tgt := 72) hx hb dX13_both_65 (by decide) (fun c7 => ?_) (fun c7 => ?_)
    · have hf := if_f c7 hf
      refine lv_iconst (v := (0 : Int32)) hx hb dX13_both_72 (by decide) ?_
      cases hf
      exact W.iret hx hb hr (b_ret0 hW (fun _ _ => rfl) _) hW.2.2.2 dX13_both_73 hlk
    · have hf := if_t c7 hf
      refine lv_iconst (v := (1 : Int32)) hx hb dX13_both_68 (by decide) ?_
      refine lv_goto (tgt := 73) hx hb dX13_both_69 (by decide) ?_
      cases hf
      exact W.iret hx hb hr (b_ret0 hW (fun _ _ => rfl) _) hW.2.2.2 dX13_both_73 hlk
  have hf := if_f c6 hf
  by_cases c8 : x0 = (9 : Int32)
  · have hf := if_t c8 hf
    refine lv_tableIn (off := 73) (tgt := 74) hx hb dX13_both_1 (by rw [c8]; decide) (by rw [c8]; decide) (by rw [c8]; rfl) (by decide) ?_
    refine lv_iload_n hx hb dX13_both_74 rfl (lv_at hl 1 rfl) ?_
    refine lv_if_eq (tgt := 86) hx hb dX13_both_75 (by decide) (fun c9 => ?_) (fun c9 => ?_)
    · have hf := if_t c9 hf
      exact t_X13_both_86 (fu := fu) hM hml hr hlk hf _ _ hW _ (lv_sub hl [] rfl)
    · have hf := if_f c9 hf
      refine lv_iload_n hx hb dX13_both_78 rfl (lv_at hl 2 rfl) ?_
      refine lv_if_eq (tgt := 86) hx hb dX13_both_79 (by decide) (fun c10 => ?_) (fun c10 => ?_)
      · have hf := if_t c10 hf
        exact t_X13_both_86 (fu := fu) hM hml hr hlk hf _ _ hW _ (lv_sub hl [] rfl)
      · have hf := if_f c10 hf
        refine lv_iconst (v := (1 : Int32)) hx hb dX13_both_82 (by decide) ?_
        refine lv_goto (tgt := 87) hx hb dX13_both_83 (by decide) ?_
        cases hf
        exact W.iret hx hb hr (b_ret0 hW (fun _ _ => rfl) _) hW.2.2.2 dX13_both_87 hlk
  have hf := if_f c8 hf
  refine lv_tableOut (tgt := 88) hx hb dX13_both_1 (sw_out (fun j h1 h2 hj => ?_)) (by decide) ?_
  · have hcases : j = 4 ∨ j = 5 ∨ j = 6 ∨ j = 7 ∨ j = 8 ∨ j = 9 := by omega
    rcases hcases with rfl | rfl | rfl | rfl | rfl | rfl
    · exact c1 (Int32.toInt_inj.mp (hj.trans (by decide)))
    · exact c2 (Int32.toInt_inj.mp (hj.trans (by decide)))
    · exact c3 (Int32.toInt_inj.mp (hj.trans (by decide)))
    · exact c4 (Int32.toInt_inj.mp (hj.trans (by decide)))
    · exact c6 (Int32.toInt_inj.mp (hj.trans (by decide)))
    · exact c8 (Int32.toInt_inj.mp (hj.trans (by decide)))
  · refine lv_iload_n hx hb dX13_both_88 rfl (lv_at hl 1 rfl) ?_
    refine lv_if_ne (tgt := 96) hx hb dX13_both_89 (by decide) (fun c11 => ?_) (fun c11 => ?_)
    · have hf := if_f c11 hf
      exact t_X13_both_96 (fu := fu) hM hml hr hlk hf _ _ hW _ (lv_sub hl [] rfl)
    · have hf := if_t c11 hf
      refine lv_iload_n hx hb dX13_both_92 rfl (lv_at hl 2 rfl) ?_
      refine lv_if_eq (tgt := 100) hx hb dX13_both_93 (by decide) (fun c12 => ?_) (fun c12 => ?_)
      · have hf := if_t c12 hf
        refine lv_iconst (v := (0 : Int32)) hx hb dX13_both_100 (by decide) ?_
        cases hf
        exact W.iret hx hb hr (b_ret0 hW (fun _ _ => rfl) _) hW.2.2.2 dX13_both_101 hlk
      · have hf := if_f c12 hf
        exact t_X13_both_96 (fu := fu) hM hml hr hlk hf _ _ hW _ (lv_sub hl [] rfl)
noncomputable def f_X13_both (fu : Nat) (x0 : Int32) (x1 : Int32) (x2 : Int32) : Option (Int32) := f_X13_both_0 fu x0 x1 x2
set_option maxHeartbeats 4000000 in
set_option maxRecDepth 100000 in
theorem c_X13_both (l : Launch) (G : GG) (fu : Nat) (S : ST) (x0 : Int32) (x1 : Int32) (x2 : Int32) {z : Int32} (hf : f_X13_both fu x0 x1 x2 = some z) : Ct l yX13_both w_X13_both RM_X13_both G S [.int x0, .int x1, .int x2] (some (.int z)) S 0 0 := by
  refine Met.ofW (cc := cX13_both) (maxL := 3) (ret := (some .int)) (by decide) rfl ?_
  intro p e s m args below meth c s₁ B hml hv
  obtain ⟨rfl, hB, hK, hz⟩ := hv
  have hM : MC G p s m _ c cX13_both w_X13_both RX13 := ⟨B.exec, B.bytes, findClass_of_methodNamed B.named, atoms_spec (ws := w_X13_both) B.pre, hK, hz⟩
  have hW : WB G S s s.heap [] := ⟨hB, va_S.rf⟩
  have hl := lv_entry ([.int x0, .int x1, .int x2]) (n := 3) (Nat.le_of_ble_eq_true rfl)
  rw [lg_entry_eq]
  generalize (lg_sl ([.int x0, .int x1, .int x2]) ++ List.replicate (3 - (lg_sl ([.int x0, .int x1, .int x2])).length) Slot.unset).toArray = ls at hl ⊢
  have hl : lv_has ls 3 [(0, .int x0), (1, .int x1), (2, .int x2)] := hl
  exact t_X13_both_0 hM hml B.returns B.notSynchronized hf _ _ hW _ (lv_sub hl [0, 1, 2] rfl)
abbrev w_X13_worthAt : List Cond := Cond.code yX13_worthAt cX13_worthAt 5 (some .int) :: wsL_law0
abbrev RM_X13_worthAt : Room := { frames := 1, cells := 0, slots := 0, locals := 22 }
noncomputable def f_X13_worthAt_134 (fu : Nat) (k4 : Int32 → Int32 → GV → Option (Int32 × GV)) (v : GV) (x2 : Int32) (x3 : Int32) : Option (Int32 × GV) :=
  nm (x3 + (1 : Int32)) fun y1 =>
  k4 x2 y1 v
set_option maxHeartbeats 4000000 in
set_option maxRecDepth 100000 in
theorem t_X13_worthAt_134 {G : GG} {p : Program} {l : Launch} {e : Env} {s : State} {m : MethodId} {args : Array Value} {below : List Frame} {meth : Method} {c : Code} {S : ST} {fu : Nat} {z : Int32 × GV} {a : Nat} {v0 : GV} {k4 : Int32 → Int32 → GV → Option (Int32 × GV)} {v : GV} {x2 : Int32} {x3 : Int32} (hM : MC G p s m args c cX13_worthAt w_X13_worthAt RX13) (hml : c.maxLocals = 5) (hr : meth.sig.returnType = (some .int)) (hlk : meth.locks = false) (hc0 : gC v0 = 12) (hk4 : ∀ (x2 : Int32) (x3 : Int32) (v : GV), k4 x2 x3 v = some z → gC v = 12 → ∀ (H : Heap) (locs : List Loc), WB G (st S a v) s H locs → ∀ (ls : Array Slot), lv_has ls 5 [(0, .ref a), (2, .int x2), (3, .int x3)] → W p l e RM_X13_worthAt s m args below meth c H locs 0 0 (QR G below args s (some (.int z.1)) (st S a v0) (st S a z.2)) (F0 m 4 ls [])) (hf : f_X13_worthAt_134 fu k4 v x2 x3 = some z) : gC v = 12 → ∀ (H : Heap) (locs : List Loc), WB G (st S a v) s H locs → ∀ (ls : Array Slot), lv_has ls 5 [(0, .ref a), (2, .int x2), (3, .int x3)] → W p l e RM_X13_worthAt s m args below meth c H locs 0 0 (QR G below args s (some (.int z.1)) (st S a v0) (st S a z.2)) (F0 m 134 ls []) := by
  intro hc H locs hW ls hl
  have hx := hM.1
  have hb := hM.2.1
  obtain ⟨y1, ey1⟩ : ∃ y : Int32, y = x3 + (1 : Int32) := ⟨_, rfl⟩
  have hf := nm_at ey1 hf
  refine lv_iinc (v := y1) (lv' := [(3, .int y1), (0, .ref a), (2, .int x2)]) hx hb dX13_worthAt_134 hl (k := 2) rfl (by rw [ey1]; rfl) (by decide) rfl (fun ls hl => ?_)
  refine lv_goto (tgt := 4) hx hb dX13_worthAt_137 (by decide) ?_
  exact hk4 _ _ _ hf hc _ _ hW _ (lv_sub hl [1, 2, 0] rfl)
noncomputable def f_X13_worthAt_100 (fu : Nat) (k4 : Int32 → Int32 → GV → Option (Int32 × GV)) (v : GV) (x2 : Int32) (x3 : Int32) (t1 : Int32) (t2 : Int32) : Option (Int32 × GV) :=
  ck (inb t1 1100) <|
  nm (sA v 23 t1.toNatClampNeg t2) fun v2 =>
  f_X13_worthAt_134 fu k4 v2 x2 x3
set_option maxHeartbeats 4000000 in
set_option maxRecDepth 100000 in
theorem t_X13_worthAt_100 {G : GG} {p : Program} {l : Launch} {e : Env} {s : State} {m : MethodId} {args : Array Value} {below : List Frame} {meth : Method} {c : Code} {S : ST} {fu : Nat} {z : Int32 × GV} {a : Nat} {v0 : GV} {k4 : Int32 → Int32 → GV → Option (Int32 × GV)} {v : GV} {x2 : Int32} {x3 : Int32} {t1 : Int32} {t2 : Int32} (hM : MC G p s m args c cX13_worthAt w_X13_worthAt RX13) (hml : c.maxLocals = 5) (hr : meth.sig.returnType = (some .int)) (hlk : meth.locks = false) (hc0 : gC v0 = 12) (hk4 : ∀ (x2 : Int32) (x3 : Int32) (v : GV), k4 x2 x3 v = some z → gC v = 12 → ∀ (H : Heap) (locs : List Loc), WB G (st S a v) s H locs → ∀ (ls : Array Slot), lv_has ls 5 [(0, .ref a), (2, .int x2), (3, .int x3)] → W p l e RM_X13_worthAt s m args below meth c H locs 0 0 (QR G below args s (some (.int z.1)) (st S a v0) (st S a z.2)) (F0 m 4 ls [])) (hf : f_X13_worthAt_100 fu k4 v x2 x3 t1 t2 = some z) : gC v = 12 → ∀ (H : Heap) (locs : List Loc), WB G (st S a v) s H locs → ∀ (ls : Array Slot), lv_has ls 5 [(0, .ref a), (2, .int x2), (3, .int x3)] → W p l e RM_X13_worthAt s m args below meth c H locs 0 0 (QR G below args s (some (.int z.1)) (st S a v0) (st S a z.2)) (F0 m 100 ls [.int t2, .int t1, .ref (a + 15)]) := by
  intro hc H locs hW ls hl
  have hx := hM.1
  have hb := hM.2.1
  obtain ⟨h1, hf⟩ := ck_elim hf
  refine b_iast (n := 1100) hM hW 11 23 hc (by decide) rfl rfl rfl rfl h1 dX13_worthAt_100 (fun v2 ev2 hc H locs hW => ?_)
  have hf := nm_at ev2 hf
  refine lv_goto (tgt := 134) hx hb dX13_worthAt_101 (by decide) ?_
  exact t_X13_worthAt_134 (fu := fu) hM hml hr hlk hc0 hk4 hf hc _ _ hW _ (lv_sub hl [0, 1, 2] rfl)
noncomputable def f_X13_worthAt_64 (fu : Nat) (k4 : Int32 → Int32 → GV → Option (Int32 × GV)) (v : GV) (x2 : Int32) (x3 : Int32) (t1 : Int32) (t2 : Int32) : Option (Int32 × GV) :=
  ck (inb t1 1100) <|
  nm (sA v 23 t1.toNatClampNeg t2) fun v2 =>
  nm (x2 + (1 : Int32)) fun y3 =>
  f_X13_worthAt_134 fu k4 v2 y3 x3
set_option maxHeartbeats 4000000 in
set_option maxRecDepth 100000 in
theorem t_X13_worthAt_64 {G : GG} {p : Program} {l : Launch} {e : Env} {s : State} {m : MethodId} {args : Array Value} {below : List Frame} {meth : Method} {c : Code} {S : ST} {fu : Nat} {z : Int32 × GV} {a : Nat} {v0 : GV} {k4 : Int32 → Int32 → GV → Option (Int32 × GV)} {v : GV} {x2 : Int32} {x3 : Int32} {t1 : Int32} {t2 : Int32} (hM : MC G p s m args c cX13_worthAt w_X13_worthAt RX13) (hml : c.maxLocals = 5) (hr : meth.sig.returnType = (some .int)) (hlk : meth.locks = false) (hc0 : gC v0 = 12) (hk4 : ∀ (x2 : Int32) (x3 : Int32) (v : GV), k4 x2 x3 v = some z → gC v = 12 → ∀ (H : Heap) (locs : List Loc), WB G (st S a v) s H locs → ∀ (ls : Array Slot), lv_has ls 5 [(0, .ref a), (2, .int x2), (3, .int x3)] → W p l e RM_X13_worthAt s m args below meth c H locs 0 0 (QR G below args s (some (.int z.1)) (st S a v0) (st S a z.2)) (F0 m 4 ls [])) (hf : f_X13_worthAt_64 fu k4 v x2 x3 t1 t2 = some z) : gC v = 12 → ∀ (H : Heap) (locs : List Loc), WB G (st S a v) s H locs → ∀ (ls : Array Slot), lv_has ls 5 [(0, .ref a), (2, .int x2), (3, .int x3)] → W p l e RM_X13_worthAt s m args below meth c H locs 0 0 (QR G below args s (some (.int z.1)) (st S a v0) (st S a z.2)) (F0 m 64 ls [.int t2, .int t1, .ref (a + 15)]) := by
  intro hc H locs hW ls hl
  have hx := hM.1
  have hb := hM.2.1
  obtain ⟨h1, hf⟩ := ck_elim hf
  refine b_iast (n := 1100) hM hW 11 23 hc (by decide) rfl rfl rfl rfl h1 dX13_worthAt_64 (fun v2 ev2 hc H locs hW => ?_)
  have hf := nm_at ev2 hf
  obtain ⟨y3, ey3⟩ : ∃ y : Int32, y = x2 + (1 : Int32) := ⟨_, rfl⟩
  have hf := nm_at ey3 hf
  refine lv_iinc (v := y3) (lv' := [(2, .int y3), (0, .ref a), (3, .int x3)]) hx hb dX13_worthAt_65 hl (k := 1) rfl (by rw [ey3]; rfl) (by decide) rfl (fun ls hl => ?_)
  refine lv_goto (tgt := 134) hx hb dX13_worthAt_68 (by decide) ?_
  exact t_X13_worthAt_134 (fu := fu) hM hml hr hlk hc0 hk4 hf hc _ _ hW _ (lv_sub hl [1, 0, 2] rfl)
noncomputable def f_X13_worthAt_33 (fu : Nat) (k4 : Int32 → Int32 → GV → Option (Int32 × GV)) (v : GV) (x2 : Int32) (x3 : Int32) (x4 : Int32) : Option (Int32 × GV) :=
  if x4 = (1 : Int32) then
    (ck (inb x3 2200) <|
    f_X13_worthAt_64 fu k4 v x2 x3 x2 (gA v 12 x3.toNatClampNeg))
  else
    (ck (inb x3 2200) <|
    nm ((gA v 12 x3.toNatClampNeg)) fun y3 =>
    ck (inb y3 4) <|
    f_X13_worthAt_64 fu k4 v x2 x3 x2 (gA v 22 y3.toNatClampNeg))
set_option maxHeartbeats 4000000 in
set_option maxRecDepth 100000 in
theorem t_X13_worthAt_33 {G : GG} {p : Program} {l : Launch} {e : Env} {s : State} {m : MethodId} {args : Array Value} {below : List Frame} {meth : Method} {c : Code} {S : ST} {fu : Nat} {z : Int32 × GV} {a : Nat} {v0 : GV} {k4 : Int32 → Int32 → GV → Option (Int32 × GV)} {v : GV} {x2 : Int32} {x3 : Int32} {x4 : Int32} (hM : MC G p s m args c cX13_worthAt w_X13_worthAt RX13) (hml : c.maxLocals = 5) (hr : meth.sig.returnType = (some .int)) (hlk : meth.locks = false) (hc0 : gC v0 = 12) (hk4 : ∀ (x2 : Int32) (x3 : Int32) (v : GV), k4 x2 x3 v = some z → gC v = 12 → ∀ (H : Heap) (locs : List Loc), WB G (st S a v) s H locs → ∀ (ls : Array Slot), lv_has ls 5 [(0, .ref a), (2, .int x2), (3, .int x3)] → W p l e RM_X13_worthAt s m args below meth c H locs 0 0 (QR G below args s (some (.int z.1)) (st S a v0) (st S a z.2)) (F0 m 4 ls [])) (hf : f_X13_worthAt_33 fu k4 v x2 x3 x4 = some z) : gC v = 12 → ∀ (H : Heap) (locs : List Loc), WB G (st S a v) s H locs → ∀ (ls : Array Slot), lv_has ls 5 [(0, .ref a), (2, .int x2), (3, .int x3), (4, .int x4)] → W p l e RM_X13_worthAt s m args below meth c H locs 0 0 (QR G below args s (some (.int z.1)) (st S a v0) (st S a z.2)) (F0 m 33 ls []) := by
  intro hc H locs hW ls hl
  have hx := hM.1
  have hb := hM.2.1
  refine lv_aload_n hx hb dX13_worthAt_33 rfl (lv_at hl 0 rfl) ?_
  refine b_get hM hW 11 23 hc rfl rfl (by decide) wi_X13 (wgm fk_RX13_122) (x := .ref (a + 15)) rfl dX13_worthAt_34 ?_
  refine lv_iload_n hx hb dX13_worthAt_37 rfl (lv_at hl 1 rfl) ?_
  refine lv_iload hx hb dX13_worthAt_38 (lv_at hl 3 rfl) ?_
  refine lv_iconst (v := (1 : Int32)) hx hb dX13_worthAt_40 (by decide) ?_
  refine lv_icmp_ne (tgt := 53) hx hb dX13_worthAt_41 (by decide) (fun c1 => ?_) (fun c1 => ?_)
  · have hf := if_f c1 hf
    refine lv_aload_n hx hb dX13_worthAt_53 rfl (lv_at hl 0 rfl) ?_
    refine b_get hM hW 11 22 hc rfl rfl (by decide) wi_X13 (wgm fk_RX13_119) (x := .ref (a + 14)) rfl dX13_worthAt_54 ?_
    refine lv_aload_n hx hb dX13_worthAt_57 rfl (lv_at hl 0 rfl) ?_
    refine b_get hM hW 11 12 hc rfl rfl (by decide) wi_X13 (wgm fk_RX13_101) (x := .ref (a + 8)) rfl dX13_worthAt_58 ?_
    refine lv_iload_n hx hb dX13_worthAt_61 rfl (lv_at hl 2 rfl) ?_
    obtain ⟨h2, hf⟩ := ck_elim hf
    refine b_iald (n := 2200) hM hW 11 12 hc (by decide) rfl rfl rfl rfl h2 dX13_worthAt_62 ?_
    refine lv_topi (fun y3 ey3 => ?_)
    have hf := nm_at ey3 hf
    obtain ⟨h4, hf⟩ := ck_elim hf
    refine b_iald (n := 4) hM hW 11 22 hc (by decide) rfl rfl rfl rfl h4 dX13_worthAt_63 ?_
    exact t_X13_worthAt_64 (fu := fu) hM hml hr hlk hc0 hk4 hf hc _ _ hW _ (lv_sub hl [0, 1, 2] rfl)
  · have hf := if_t c1 hf
    refine lv_aload_n hx hb dX13_worthAt_44 rfl (lv_at hl 0 rfl) ?_
    refine b_get hM hW 11 12 hc rfl rfl (by decide) wi_X13 (wgm fk_RX13_101) (x := .ref (a + 8)) rfl dX13_worthAt_45 ?_
    refine lv_iload_n hx hb dX13_worthAt_48 rfl (lv_at hl 2 rfl) ?_
    obtain ⟨h5, hf⟩ := ck_elim hf
    refine b_iald (n := 2200) hM hW 11 12 hc (by decide) rfl rfl rfl rfl h5 dX13_worthAt_49 ?_
    refine lv_goto (tgt := 64) hx hb dX13_worthAt_50 (by decide) ?_
    exact t_X13_worthAt_64 (fu := fu) hM hml hr hlk hc0 hk4 hf hc _ _ hW _ (lv_sub hl [0, 1, 2] rfl)
noncomputable def f_X13_worthAt_4s (fu : Nat)  (k4 : Int32 → Int32 → GV → Option (Int32 × GV)) (x2 : Int32) (x3 : Int32) (v : GV) : Option (Int32 × GV) :=
  ck (inb x3 2200) <|
  if (gA v 11 x3.toNatClampNeg) = 0 then
    (some ((gA v 23 (0 : Int32).toNatClampNeg), v))
  else
    (ck (inb x3 2200) <|
    nm ((gA v 11 x3.toNatClampNeg)) fun y4 =>
    if y4 = (1 : Int32) then
      (f_X13_worthAt_33 fu k4 v x2 x3 y4)
    else
      (if y4 = (2 : Int32) then
        (f_X13_worthAt_33 fu k4 v x2 x3 y4)
      else
        (if y4 = (3 : Int32) then
          (nm ((x2 - (1 : Int32))) fun y15 =>
          ck (inb y15 1100) <|
          if (gA v 23 y15.toNatClampNeg) = 0 then
            (f_X13_worthAt_100 fu k4 v x2 x3 (x2 - (1 : Int32)) (1 : Int32))
          else
            (f_X13_worthAt_100 fu k4 v x2 x3 (x2 - (1 : Int32)) (0 : Int32)))
        else
          (nm (x2 + (-1 : Int32)) fun y8 =>
          nm ((y8 - (1 : Int32))) fun y9 =>
          ck (inb y9 1100) <|
          ck (inb y8 1100) <|
          bd (f_X13_both fu y4 (gA v 23 y9.toNatClampNeg) (gA v 23 y8.toNatClampNeg)) fun r12 =>
          ck (inb (y8 - (1 : Int32)) 1100) <|
          nm (sA v 23 (y8 - (1 : Int32)).toNatClampNeg r12) fun v14 =>
          f_X13_worthAt_134 fu k4 v14 y8 x3))))
noncomputable def f_X13_worthAt_4 (fu n : Nat)  : Int32 → Int32 → GV → Option (Int32 × GV) :=
  lq_3 (fun k4 => f_X13_worthAt_4s fu  k4 ) n
set_option maxHeartbeats 4000000 in
set_option maxRecDepth 100000 in
theorem t_X13_worthAt_4s {G : GG} {p : Program} {l : Launch} {e : Env} {s : State} {m : MethodId} {args : Array Value} {below : List Frame} {meth : Method} {c : Code} {S : ST} {fu : Nat} {z : Int32 × GV} {a : Nat} {v0 : GV}  (hM : MC G p s m args c cX13_worthAt w_X13_worthAt RX13) (hml : c.maxLocals = 5) (hr : meth.sig.returnType = (some .int)) (hlk : meth.locks = false) (hc0 : gC v0 = 12) {k4 : Int32 → Int32 → GV → Option (Int32 × GV)}  (hk4 : ∀ (x2 : Int32) (x3 : Int32) (v : GV), k4 x2 x3 v = some z → gC v = 12 → ∀ (H : Heap) (locs : List Loc), WB G (st S a v) s H locs → ∀ (ls : Array Slot), lv_has ls 5 [(0, .ref a), (2, .int x2), (3, .int x3)] → W p l e RM_X13_worthAt s m args below meth c H locs 0 0 (QR G below args s (some (.int z.1)) (st S a v0) (st S a z.2)) (F0 m 4 ls [])) : ∀ (x2 : Int32) (x3 : Int32) (v : GV), f_X13_worthAt_4s fu  k4  x2 x3 v = some z → gC v = 12 → ∀ (H : Heap) (locs : List Loc), WB G (st S a v) s H locs → ∀ (ls : Array Slot), lv_has ls 5 [(0, .ref a), (2, .int x2), (3, .int x3)] → W p l e RM_X13_worthAt s m args below meth c H locs 0 0 (QR G below args s (some (.int z.1)) (st S a v0) (st S a z.2)) (F0 m 4 ls []) := by
  intro x2 x3 v hf hc H locs hW ls hl
  have hx := hM.1
  have hb := hM.2.1
  refine lv_aload_n hx hb dX13_worthAt_4 rfl (lv_at hl 0 rfl) ?_
  refine b_get hM hW 11 11 hc rfl rfl (by decide) wi_X13 (wgm fk_RX13_98) (x := .ref (a + 7)) rfl dX13_worthAt_5 ?_
  refine lv_iload_n hx hb dX13_worthAt_8 rfl (lv_at hl 2 rfl) ?_
  obtain ⟨h1, hf⟩ := ck_elim hf
  refine b_iald (n := 2200) hM hW 11 11 hc (by decide) rfl rfl rfl rfl h1 dX13_worthAt_9 ?_
  refine lv_if_eq (tgt := 140) hx hb dX13_worthAt_10 (by decide) (fun c2 => ?_) (fun c2 => ?_)
  · have hf := if_t c2 hf
    refine lv_aload_n hx hb dX13_worthAt_140 rfl (lv_at hl 0 rfl) ?_
    refine b_get hM hW 11 23 hc rfl rfl (by decide) wi_X13 (wgm fk_RX13_122) (x := .ref (a + 15)) rfl dX13_worthAt_141 ?_
    refine lv_iconst (v := (0 : Int32)) hx hb dX13_worthAt_144 (by decide) ?_
    refine b_iald (n := 1100) hM hW 11 23 hc (by decide) rfl rfl rfl rfl (by decide) dX13_worthAt_145 ?_
    cases hf
    exact W.iret hx hb hr (b_ret0 hW (keep_s2 hc0 hc) _) hW.2.2.2 dX13_worthAt_146 hlk
  · have hf := if_f c2 hf
    refine lv_aload_n hx hb dX13_worthAt_13 rfl (lv_at hl 0 rfl) ?_
    refine b_get hM hW 11 11 hc rfl rfl (by decide) wi_X13 (wgm fk_RX13_98) (x := .ref (a + 7)) rfl dX13_worthAt_14 ?_
    refine lv_iload_n hx hb dX13_worthAt_17 rfl (lv_at hl 2 rfl) ?_
    obtain ⟨h3, hf⟩ := ck_elim hf
    refine b_iald (n := 2200) hM hW 11 11 hc (by decide) rfl rfl rfl rfl h3 dX13_worthAt_18 ?_
    refine lv_topi (fun y4 ey4 => ?_)
    have hf := nm_at ey4 hf
    refine lv_istore (lv' := [(4, .int y4), (0, .ref a), (2, .int x2), (3, .int x3)]) hx hb dX13_worthAt_19 hl (by decide) rfl (fun ls hl => ?_)
    refine lv_iload hx hb dX13_worthAt_21 (lv_at hl 0 rfl) ?_
    refine lv_iconst (v := (1 : Int32)) hx hb dX13_worthAt_23 (by decide) ?_
    refine lv_icmp_eq (tgt := 33) hx hb dX13_worthAt_24 (by decide) (fun c5 => ?_) (fun c5 => ?_)
    · have hf := if_t c5 hf
      exact t_X13_worthAt_33 (fu := fu) hM hml hr hlk hc0 hk4 hf hc _ _ hW _ (lv_sub hl [1, 2, 3, 0] rfl)
    · have hf := if_f c5 hf
      refine lv_iload hx hb dX13_worthAt_27 (lv_at hl 0 rfl) ?_
      refine lv_iconst (v := (2 : Int32)) hx hb dX13_worthAt_29 (by decide) ?_
      refine lv_icmp_ne (tgt := 71) hx hb dX13_worthAt_30 (by decide) (fun c6 => ?_) (fun c6 => ?_)
      · have hf := if_f c6 hf
        refine lv_iload hx hb dX13_worthAt_71 (lv_at hl 0 rfl) ?_
        refine lv_iconst (v := (3 : Int32)) hx hb dX13_worthAt_73 (by decide) ?_
        refine lv_icmp_ne (tgt := 104) hx hb dX13_worthAt_74 (by decide) (fun c7 => ?_) (fun c7 => ?_)
        · have hf := if_f c7 hf
          obtain ⟨y8, ey8⟩ : ∃ y : Int32, y = x2 + (-1 : Int32) := ⟨_, rfl⟩
          have hf := nm_at ey8 hf
          refine lv_iinc (v := y8) (lv' := [(2, .int y8), (4, .int y4), (0, .ref a), (3, .int x3)]) hx hb dX13_worthAt_104 hl (k := 2) rfl (by rw [ey8]; rfl) (by decide) rfl (fun ls hl => ?_)
          refine lv_aload_n hx hb dX13_worthAt_107 rfl (lv_at hl 2 rfl) ?_
          refine b_get hM hW 11 23 hc rfl rfl (by decide) wi_X13 (wgm fk_RX13_122) (x := .ref (a + 15)) rfl dX13_worthAt_108 ?_
          refine lv_iload_n hx hb dX13_worthAt_111 rfl (lv_at hl 0 rfl) ?_
          refine lv_iconst (v := (1 : Int32)) hx hb dX13_worthAt_112 (by decide) ?_
          refine lv_isub hx hb dX13_worthAt_113 ?_
          refine lv_iload hx hb dX13_worthAt_114 (lv_at hl 1 rfl) ?_
          refine lv_aload_n hx hb dX13_worthAt_116 rfl (lv_at hl 2 rfl) ?_
          refine b_get hM hW 11 23 hc rfl rfl (by decide) wi_X13 (wgm fk_RX13_122) (x := .ref (a + 15)) rfl dX13_worthAt_117 ?_
          refine lv_iload_n hx hb dX13_worthAt_120 rfl (lv_at hl 0 rfl) ?_
          refine lv_iconst (v := (1 : Int32)) hx hb dX13_worthAt_121 (by decide) ?_
          refine lv_isub hx hb dX13_worthAt_122 ?_
          refine lv_topi (fun y9 ey9 => ?_)
          have hf := nm_at ey9 hf
          obtain ⟨h10, hf⟩ := ck_elim hf
          refine b_iald (n := 1100) hM hW 11 23 hc (by decide) rfl rfl rfl rfl h10 dX13_worthAt_123 ?_
          refine lv_aload_n hx hb dX13_worthAt_124 rfl (lv_at hl 2 rfl) ?_
          refine b_get hM hW 11 23 hc rfl rfl (by decide) wi_X13 (wgm fk_RX13_122) (x := .ref (a + 15)) rfl dX13_worthAt_125 ?_
          refine lv_iload_n hx hb dX13_worthAt_128 rfl (lv_at hl 0 rfl) ?_
          obtain ⟨h11, hf⟩ := ck_elim hf
          refine b_iald (n := 1100) hM hW 11 23 hc (by decide) rfl rfl rfl rfl h11 dX13_worthAt_129 ?_
          obtain ⟨r12, hr12, hf⟩ := bd_elim hf
          refine b_callSi [.int y4, .int (gA v 23 y9.toNatClampNeg), .int (gA v 23 y8.toNatClampNeg)] [.int (y8 - (1 : Int32)), .ref (a + 15)] hM hml hl.1 hW (c_X13_both l G fu _ _ _ _ hr12) (va_cwS 3 hM.2.2.2.1 (gS mk_RX13_317 sm_X13_both it_RX13 cd_X13_both) rfl rfl rfl (by decide +kernel) ⟨Nat.le_of_ble_eq_true rfl, Nat.le_of_ble_eq_true rfl⟩) rfl rfl (Nat.le_of_ble_eq_true rfl) ⟨Nat.zero_le _, Nat.zero_le _⟩ dX13_worthAt_130 (fun H locs hW hk => ?_)
          obtain ⟨h13, hf⟩ := ck_elim hf
          refine b_iast (n := 1100) hM hW 11 23 hc (by decide) rfl rfl rfl rfl h13 dX13_worthAt_133 (fun v14 ev14 hc H locs hW => ?_)
          have hf := nm_at ev14 hf
          exact t_X13_worthAt_134 (fu := fu) hM hml hr hlk hc0 hk4 hf hc _ _ hW _ (lv_sub hl [2, 0, 3] rfl)
        · have hf := if_t c7 hf
          refine lv_aload_n hx hb dX13_worthAt_77 rfl (lv_at hl 1 rfl) ?_
          refine b_get hM hW 11 23 hc rfl rfl (by decide) wi_X13 (wgm fk_RX13_122) (x := .ref (a + 15)) rfl dX13_worthAt_78 ?_
          refine lv_iload_n hx hb dX13_worthAt_81 rfl (lv_at hl 2 rfl) ?_
          refine lv_iconst (v := (1 : Int32)) hx hb dX13_worthAt_82 (by decide) ?_
          refine lv_isub hx hb dX13_worthAt_83 ?_
          refine lv_aload_n hx hb dX13_worthAt_84 rfl (lv_at hl 1 rfl) ?_
          refine b_get hM hW 11 23 hc rfl rfl (by decide) wi_X13 (wgm fk_RX13_122) (x := .ref (a + 15)) rfl dX13_worthAt_85 ?_
          refine lv_iload_n hx hb dX13_worthAt_88 rfl (lv_at hl 2 rfl) ?_
          refine lv_iconst (v := (1 : Int32)) hx hb dX13_worthAt_89 (by decide) ?_
          refine lv_isub hx hb dX13_worthAt_90 ?_
          refine lv_topi (fun y15 ey15 => ?_)
          have hf := nm_at ey15 hf
          obtain ⟨h16, hf⟩ := ck_elim hf
          refine b_iald (n := 1100) hM hW 11 23 hc (by decide) rfl rfl rfl rfl h16 dX13_worthAt_91 ?_
          refine lv_if_ne (tgt := 99) hx hb dX13_worthAt_92 (by decide) (fun c17 => ?_) (fun c17 => ?_)
          · have hf := if_f c17 hf
            refine lv_iconst (v := (0 : Int32)) hx hb dX13_worthAt_99 (by decide) ?_
            exact t_X13_worthAt_100 (fu := fu) hM hml hr hlk hc0 hk4 hf hc _ _ hW _ (lv_sub hl [1, 2, 3] rfl)
          · have hf := if_t c17 hf
            refine lv_iconst (v := (1 : Int32)) hx hb dX13_worthAt_95 (by decide) ?_
            refine lv_goto (tgt := 100) hx hb dX13_worthAt_96 (by decide) ?_
            exact t_X13_worthAt_100 (fu := fu) hM hml hr hlk hc0 hk4 hf hc _ _ hW _ (lv_sub hl [1, 2, 3] rfl)
      · have hf := if_t c6 hf
        exact t_X13_worthAt_33 (fu := fu) hM hml hr hlk hc0 hk4 hf hc _ _ hW _ (lv_sub hl [1, 2, 3, 0] rfl)
theorem t_X13_worthAt_4 {G : GG} {p : Program} {l : Launch} {e : Env} {s : State} {m : MethodId} {args : Array Value} {below : List Frame} {meth : Method} {c : Code} {S : ST} {fu : Nat} {z : Int32 × GV} {a : Nat} {v0 : GV}  (hM : MC G p s m args c cX13_worthAt w_X13_worthAt RX13) (hml : c.maxLocals = 5) (hr : meth.sig.returnType = (some .int)) (hlk : meth.locks = false) (hc0 : gC v0 = 12)  : ∀ {n : Nat} (x2 : Int32) (x3 : Int32) (v : GV), f_X13_worthAt_4 fu n   x2 x3 v = some z → gC v = 12 → ∀ (H : Heap) (locs : List Loc), WB G (st S a v) s H locs → ∀ (ls : Array Slot), lv_has ls 5 [(0, .ref a), (2, .int x2), (3, .int x3)] → W p l e RM_X13_worthAt s m args below meth c H locs 0 0 (QR G below args s (some (.int z.1)) (st S a v0) (st S a z.2)) (F0 m 4 ls []) := by
  intro n
  induction n with
  | zero => intro x2 x3 v hf; cases hf
  | succ n ih => intro x2 x3 v hf; exact t_X13_worthAt_4s (fu := fu) hM hml hr hlk hc0  (k4 := f_X13_worthAt_4 fu n  ) ih _ _ _ hf
noncomputable def f_X13_worthAt_0 (fu : Nat)  (v : GV) (x1 : Int32) : Option (Int32 × GV) :=
  f_X13_worthAt_4 fu fu (0 : Int32) x1 v
set_option maxHeartbeats 4000000 in
set_option maxRecDepth 100000 in
theorem t_X13_worthAt_0 {G : GG} {p : Program} {l : Launch} {e : Env} {s : State} {m : MethodId} {args : Array Value} {below : List Frame} {meth : Method} {c : Code} {S : ST} {fu : Nat} {z : Int32 × GV} {a : Nat} {v0 : GV}  {v : GV} {x1 : Int32} (hM : MC G p s m args c cX13_worthAt w_X13_worthAt RX13) (hml : c.maxLocals = 5) (hr : meth.sig.returnType = (some .int)) (hlk : meth.locks = false) (hc0 : gC v0 = 12)  (hf : f_X13_worthAt_0 fu  v x1 = some z) : gC v = 12 → ∀ (H : Heap) (locs : List Loc), WB G (st S a v) s H locs → ∀ (ls : Array Slot), lv_has ls 5 [(0, .ref a), (1, .int x1)] → W p l e RM_X13_worthAt s m args below meth c H locs 0 0 (QR G below args s (some (.int z.1)) (st S a v0) (st S a z.2)) (F0 m 0 ls []) := by
  intro hc H locs hW ls hl
  have hx := hM.1
  have hb := hM.2.1
  refine lv_iconst (v := (0 : Int32)) hx hb dX13_worthAt_0 (by decide) ?_
  refine lv_istore_n (lv' := [(2, .int (0 : Int32)), (0, .ref a), (1, .int x1)]) hx hb dX13_worthAt_1 rfl hl (by decide) rfl (fun ls hl => ?_)
  refine lv_iload_n hx hb dX13_worthAt_2 rfl (lv_at hl 2 rfl) ?_
  refine lv_istore_n (lv' := [(3, .int x1), (2, .int (0 : Int32)), (0, .ref a), (1, .int x1)]) hx hb dX13_worthAt_3 rfl hl (by decide) rfl (fun ls hl => ?_)
  exact t_X13_worthAt_4 (fu := fu) hM hml hr hlk hc0 _ _ _ hf hc _ _ hW _ (lv_sub hl [2, 1, 0] rfl)
noncomputable def f_X13_worthAt (fu : Nat) (v : GV) (x1 : Int32) : Option (Int32 × GV) := f_X13_worthAt_0 fu v x1
set_option maxHeartbeats 4000000 in
set_option maxRecDepth 100000 in
theorem c_X13_worthAt (l : Launch) (G : GG) (fu : Nat) (S : ST) (a : Nat) (v : GV) (x1 : Int32) {z : Int32} {w : GV} (hc : gC v = 12) (hf : f_X13_worthAt fu v x1 = some (z, w)) : Ct l yX13_worthAt w_X13_worthAt RM_X13_worthAt G (st S a v) [.ref a, .int x1] (some (.int z)) (st S a w) 0 0 := by
  refine Met.ofW (cc := cX13_worthAt) (maxL := 5) (ret := (some .int)) (by decide) rfl ?_
  intro p e s m args below meth c s₁ B hml hv
  obtain ⟨rfl, hB, hK, hz⟩ := hv
  have hM : MC G p s m _ c cX13_worthAt w_X13_worthAt RX13 := ⟨B.exec, B.bytes, findClass_of_methodNamed B.named, atoms_spec (ws := w_X13_worthAt) B.pre, hK, hz⟩
  have hW : WB G (st S a v) s s.heap [] := ⟨hB, va_S.rf⟩
  have hl := lv_entry ([.ref a, .int x1]) (n := 5) (Nat.le_of_ble_eq_true rfl)
  rw [lg_entry_eq]
  generalize (lg_sl ([.ref a, .int x1]) ++ List.replicate (5 - (lg_sl ([.ref a, .int x1])).length) Slot.unset).toArray = ls at hl ⊢
  have hl : lv_has ls 5 [(0, .ref a), (1, .int x1)] := hl
  exact t_X13_worthAt_0 hM hml B.returns B.notSynchronized hc hf hc _ _ hW _ (lv_sub hl [0, 1] rfl)
abbrev w_X13_copies : List Cond := Cond.code yX13_copies cX13_copies 5 none :: wsL_law0
abbrev RM_X13_copies : Room := { frames := 0, cells := 0, slots := 0, locals := 0 }
noncomputable def f_X13_copies_3s (fu : Nat)  (k3 : Int32 → GV → Option (GV)) (x1 : Int32) (x2 : Int32) (x3 : Int32) (x4 : Int32) (v : GV) : Option (GV) :=
  if x3 ≤ x4 then
    (some v)
  else
    (nm ((x1 + x4)) fun y2 =>
    ck (inb y2 1518) <|
    nm ((gA v 24 y2.toNatClampNeg)) fun y4 =>
    ck (inb (x2 + x4) 1518) <|
    nm (sA v 24 (x2 + x4).toNatClampNeg y4) fun v6 =>
    nm (x4 + (1 : Int32)) fun y7 =>
    k3 y7 v6)
noncomputable def f_X13_copies_3 (fu n : Nat)  (x1 : Int32) (x2 : Int32) (x3 : Int32) : Int32 → GV → Option (GV) :=
  lq_2 (fun k3 => f_X13_copies_3s fu  k3 x1 x2 x3) n
set_option maxHeartbeats 4000000 in
set_option maxRecDepth 100000 in
theorem t_X13_copies_3s {G : GG} {p : Program} {l : Launch} {e : Env} {s : State} {m : MethodId} {args : Array Value} {below : List Frame} {meth : Method} {c : Code} {S : ST} {fu : Nat} {z : GV} {a : Nat} {v0 : GV}  (hM : MC G p s m args c cX13_copies w_X13_copies RX13) (hml : c.maxLocals = 5) (hr : meth.sig.returnType = none) (hlk : meth.locks = false) (hc0 : gC v0 = 12) {k3 : Int32 → GV → Option (GV)} {x1 : Int32} {x2 : Int32} {x3 : Int32}  (hk3 : ∀ (x4 : Int32) (v : GV), k3 x4 v = some z → gC v = 12 → ∀ (H : Heap) (locs : List Loc), WB G (st S a v) s H locs → ∀ (ls : Array Slot), lv_has ls 5 [(0, .ref a), (1, .int x1), (2, .int x2), (3, .int x3), (4, .int x4)] → W p l e RM_X13_copies s m args below meth c H locs 0 0 (QR G below args s none (st S a v0) (st S a z)) (F0 m 3 ls [])) : ∀ (x4 : Int32) (v : GV), f_X13_copies_3s fu  k3 x1 x2 x3 x4 v = some z → gC v = 12 → ∀ (H : Heap) (locs : List Loc), WB G (st S a v) s H locs → ∀ (ls : Array Slot), lv_has ls 5 [(0, .ref a), (1, .int x1), (2, .int x2), (3, .int x3), (4, .int x4)] → W p l e RM_X13_copies s m args below meth c H locs 0 0 (QR G below args s none (st S a v0) (st S a z)) (F0 m 3 ls []) := by
  intro x4 v hf hc H locs hW ls hl
  have hx := hM.1
  have hb := hM.2.1
  refine lv_iload hx hb dX13_copies_3 (lv_at hl 4 rfl) ?_
  refine lv_iload_n hx hb dX13_copies_5 rfl (lv_at hl 3 rfl) ?_
  refine lv_icmp_ge (tgt := 33) hx hb dX13_copies_6 (by decide) (fun c1 => ?_) (fun c1 => ?_)
  · have hf := if_t c1 hf
    cases hf
    exact W.vret hx hb hr (b_ret0 hW (keep_s2 hc0 hc) _) hW.2.2.2 dX13_copies_33 hlk
  · have hf := if_f c1 hf
    refine lv_aload_n hx hb dX13_copies_9 rfl (lv_at hl 0 rfl) ?_
    refine b_get hM hW 11 24 hc rfl rfl (by decide) wi_X13 (wgm fk_RX13_125) (x := .ref (a + 16)) rfl dX13_copies_10 ?_
    refine lv_iload_n hx hb dX13_copies_13 rfl (lv_at hl 2 rfl) ?_
    refine lv_iload hx hb dX13_copies_14 (lv_at hl 4 rfl) ?_
    refine lv_iadd hx hb dX13_copies_16 ?_
    refine lv_aload_n hx hb dX13_copies_17 rfl (lv_at hl 0 rfl) ?_
    refine b_get hM hW 11 24 hc rfl rfl (by decide) wi_X13 (wgm fk_RX13_125) (x := .ref (a + 16)) rfl dX13_copies_18 ?_
    refine lv_iload_n hx hb dX13_copies_21 rfl (lv_at hl 1 rfl) ?_
    refine lv_iload hx hb dX13_copies_22 (lv_at hl 4 rfl) ?_
    refine lv_iadd hx hb dX13_copies_24 ?_
    refine lv_topi (fun y2 ey2 => ?_)
    have hf := nm_at ey2 hf
    obtain ⟨h3, hf⟩ := ck_elim hf
    refine b_iald (n := 1518) hM hW 11 24 hc (by decide) rfl rfl rfl rfl h3 dX13_copies_25 ?_
    refine lv_topi (fun y4 ey4 => ?_)
    have hf := nm_at ey4 hf
    obtain ⟨h5, hf⟩ := ck_elim hf
    refine b_iast (n := 1518) hM hW 11 24 hc (by decide) rfl rfl rfl rfl h5 dX13_copies_26 (fun v6 ev6 hc H locs hW => ?_)
    have hf := nm_at ev6 hf
    obtain ⟨y7, ey7⟩ : ∃ y : Int32, y = x4 + (1 : Int32) := ⟨_, rfl⟩
    have hf := nm_at ey7 hf
    refine lv_iinc (v := y7) (lv' := [(4, .int y7), (0, .ref a), (1, .int x1), (2, .int x2), (3, .int x3)]) hx hb dX13_copies_27 hl (k := 4) rfl (by rw [ey7]; rfl) (by decide) rfl (fun ls hl => ?_)
    refine lv_goto (tgt := 3) hx hb dX13_copies_30 (by decide) ?_
    exact hk3 _ _ hf hc _ _ hW _ (lv_sub hl [1, 2, 3, 4, 0] rfl)
theorem t_X13_copies_3 {G : GG} {p : Program} {l : Launch} {e : Env} {s : State} {m : MethodId} {args : Array Value} {below : List Frame} {meth : Method} {c : Code} {S : ST} {fu : Nat} {z : GV} {a : Nat} {v0 : GV}  {x1 : Int32} {x2 : Int32} {x3 : Int32} (hM : MC G p s m args c cX13_copies w_X13_copies RX13) (hml : c.maxLocals = 5) (hr : meth.sig.returnType = none) (hlk : meth.locks = false) (hc0 : gC v0 = 12)  : ∀ {n : Nat} (x4 : Int32) (v : GV), f_X13_copies_3 fu n  x1 x2 x3 x4 v = some z → gC v = 12 → ∀ (H : Heap) (locs : List Loc), WB G (st S a v) s H locs → ∀ (ls : Array Slot), lv_has ls 5 [(0, .ref a), (1, .int x1), (2, .int x2), (3, .int x3), (4, .int x4)] → W p l e RM_X13_copies s m args below meth c H locs 0 0 (QR G below args s none (st S a v0) (st S a z)) (F0 m 3 ls []) := by
  intro n
  induction n with
  | zero => intro x4 v hf; cases hf
  | succ n ih => intro x4 v hf; exact t_X13_copies_3s (fu := fu) hM hml hr hlk hc0  (k3 := f_X13_copies_3 fu n  x1 x2 x3) ih _ _ hf
noncomputable def f_X13_copies_0 (fu : Nat)  (v : GV) (x1 : Int32) (x2 : Int32) (x3 : Int32) : Option (GV) :=
  f_X13_copies_3 fu fu x1 x2 x3 (0 : Int32) v
set_option maxHeartbeats 4000000 in
set_option maxRecDepth 100000 in
theorem t_X13_copies_0 {G : GG} {p : Program} {l : Launch} {e : Env} {s : State} {m : MethodId} {args : Array Value} {below : List Frame} {meth : Method} {c : Code} {S : ST} {fu : Nat} {z : GV} {a : Nat} {v0 : GV}  {v : GV} {x1 : Int32} {x2 : Int32} {x3 : Int32} (hM : MC G p s m args c cX13_copies w_X13_copies RX13) (hml : c.maxLocals = 5) (hr : meth.sig.returnType = none) (hlk : meth.locks = false) (hc0 : gC v0 = 12)  (hf : f_X13_copies_0 fu  v x1 x2 x3 = some z) : gC v = 12 → ∀ (H : Heap) (locs : List Loc), WB G (st S a v) s H locs → ∀ (ls : Array Slot), lv_has ls 5 [(0, .ref a), (1, .int x1), (2, .int x2), (3, .int x3)] → W p l e RM_X13_copies s m args below meth c H locs 0 0 (QR G below args s none (st S a v0) (st S a z)) (F0 m 0 ls []) := by
  intro hc H locs hW ls hl
  have hx := hM.1
  have hb := hM.2.1
  refine lv_iconst (v := (0 : Int32)) hx hb dX13_copies_0 (by decide) ?_
  refine lv_istore (lv' := [(4, .int (0 : Int32)), (0, .ref a), (1, .int x1), (2, .int x2), (3, .int x3)]) hx hb dX13_copies_1 hl (by decide) rfl (fun ls hl => ?_)
  exact t_X13_copies_3 (fu := fu) hM hml hr hlk hc0 _ _ hf hc _ _ hW _ (lv_sub hl [1, 2, 3, 4, 0] rfl)
noncomputable def f_X13_copies (fu : Nat) (v : GV) (x1 : Int32) (x2 : Int32) (x3 : Int32) : Option (GV) := f_X13_copies_0 fu v x1 x2 x3
set_option maxHeartbeats 4000000 in
set_option maxRecDepth 100000 in
theorem c_X13_copies (l : Launch) (G : GG) (fu : Nat) (S : ST) (a : Nat) (v : GV) (x1 : Int32) (x2 : Int32) (x3 : Int32) {z : GV} (hc : gC v = 12) (hf : f_X13_copies fu v x1 x2 x3 = some z) : Ct l yX13_copies w_X13_copies RM_X13_copies G (st S a v) [.ref a, .int x1, .int x2, .int x3] none (st S a z) 0 0 := by
  refine Met.ofW (cc := cX13_copies) (maxL := 5) (ret := none) (by decide) rfl ?_
  intro p e s m args below meth c s₁ B hml hv
  obtain ⟨rfl, hB, hK, hz⟩ := hv
  have hM : MC G p s m _ c cX13_copies w_X13_copies RX13 := ⟨B.exec, B.bytes, findClass_of_methodNamed B.named, atoms_spec (ws := w_X13_copies) B.pre, hK, hz⟩
  have hW : WB G (st S a v) s s.heap [] := ⟨hB, va_S.rf⟩
  have hl := lv_entry ([.ref a, .int x1, .int x2, .int x3]) (n := 5) (Nat.le_of_ble_eq_true rfl)
  rw [lg_entry_eq]
  generalize (lg_sl ([.ref a, .int x1, .int x2, .int x3]) ++ List.replicate (5 - (lg_sl ([.ref a, .int x1, .int x2, .int x3])).length) Slot.unset).toArray = ls at hl ⊢
  have hl : lv_has ls 5 [(0, .ref a), (1, .int x1), (2, .int x2), (3, .int x3)] := hl
  exact t_X13_copies_0 hM hml B.returns B.notSynchronized hc hf hc _ _ hW _ (lv_sub hl [0, 1, 2, 3] rfl)
abbrev w_X13_keeps : List Cond := Cond.code yX13_keeps cX13_keeps 2 none :: wsL_law0
abbrev RM_X13_keeps : Room := { frames := 1, cells := 0, slots := 0, locals := 24 }
noncomputable def f_X13_keeps_53 (fu : Nat)  (v : GV) : Option (GV) :=
  bd (f_X13_copies fu v (0 : Int32) ((66 : Int32) * ((5 : Int32) + (gI v 25))) (48 : Int32)) fun v2 =>
  nm (sI v2 25 ((gI v2 25) + (1 : Int32))) fun v3 =>
  some v3
set_option maxHeartbeats 4000000 in
set_option maxRecDepth 100000 in
theorem t_X13_keeps_53 {G : GG} {p : Program} {l : Launch} {e : Env} {s : State} {m : MethodId} {args : Array Value} {below : List Frame} {meth : Method} {c : Code} {S : ST} {fu : Nat} {z : GV} {a : Nat} {v0 : GV}  {v : GV} (hM : MC G p s m args c cX13_keeps w_X13_keeps RX13) (hml : c.maxLocals = 2) (hr : meth.sig.returnType = none) (hlk : meth.locks = false) (hc0 : gC v0 = 12)  (hf : f_X13_keeps_53 fu  v  = some z) : gC v = 12 → ∀ (H : Heap) (locs : List Loc), WB G (st S a v) s H locs → ∀ (ls : Array Slot), lv_has ls 2 [(0, .ref a)] → W p l e RM_X13_keeps s m args below meth c H locs 0 0 (QR G below args s none (st S a v0) (st S a z)) (F0 m 53 ls []) := by
  intro hc H locs hW ls hl
  have hx := hM.1
  have hb := hM.2.1
  refine lv_aload_n hx hb dX13_keeps_53 rfl (lv_at hl 0 rfl) ?_
  refine lv_iconst (v := (0 : Int32)) hx hb dX13_keeps_54 (by decide) ?_
  refine lv_bipush (v := (66 : Int32)) hx hb dX13_keeps_55 (by decide) ?_
  refine lv_iconst (v := (5 : Int32)) hx hb dX13_keeps_57 (by decide) ?_
  refine lv_aload_n hx hb dX13_keeps_58 rfl (lv_at hl 0 rfl) ?_
  refine b_get hM hW 11 25 hc rfl rfl (by decide) wi_X13 (wgm fk_RX13_329) (x := .int (gI v 25)) rfl dX13_keeps_59 ?_
  refine lv_iadd hx hb dX13_keeps_62 ?_
  refine lv_imul hx hb dX13_keeps_63 ?_
  refine lv_bipush (v := (48 : Int32)) hx hb dX13_keeps_64 (by decide) ?_
  obtain ⟨v2, hr1, hf⟩ := bd_elim hf
  refine b_callVv [.int (0 : Int32), .int ((66 : Int32) * ((5 : Int32) + (gI v 25))), .int (48 : Int32)] [] hM hml hl.1 hW hc rfl (by decide) (c_X13_copies l G fu _ a v _ _ _ hc hr1) (cwV 3 hM.2.2.2.1 (gV mk_RX13_332 im_X13_copies se_X13_copies it_RX13 cd_X13_copies) rfl rfl rfl (by decide +kernel) ⟨Nat.le_of_ble_eq_true rfl, Nat.le_of_ble_eq_true rfl⟩) rfl rfl (Nat.le_of_ble_eq_true rfl) ⟨Nat.zero_le _, Nat.zero_le _⟩ dX13_keeps_66 (fun H locs hW hk => ?_)
  have hc := keep_at hc hk
  refine lv_aload_n hx hb dX13_keeps_69 rfl (lv_at hl 0 rfl) ?_
  refine lv_dup hx hb dX13_keeps_70 rfl ?_
  refine b_get hM hW 11 25 hc rfl rfl (by decide) wi_X13 (wgm fk_RX13_329) (x := .int (gI v2 25)) rfl dX13_keeps_71 ?_
  refine lv_iconst (v := (1 : Int32)) hx hb dX13_keeps_74 (by decide) ?_
  refine lv_iadd hx hb dX13_keeps_75 ?_
  refine b_putI hM hW 11 25 hc rfl rfl (by decide) wi_X13 tyX13 tyX13_ok nmX13 (wgm fk_RX13_329) rfl rfl rfl dX13_keeps_76 (fun v3 ev3 hc H locs hW => ?_)
  have hf := nm_at ev3 hf
  cases hf
  exact W.vret hx hb hr (b_ret0 hW (keep_s2 hc0 hc) _) hW.2.2.2 dX13_keeps_79 hlk
noncomputable def f_X13_keeps_11s (fu : Nat)  (k11 : Int32 → GV → Option (GV)) (x1 : Int32) (v : GV) : Option (GV) :=
  if (16 : Int32) ≤ x1 then
    (nm (sI v 25 ((gI v 25) - (1 : Int32))) fun v2 =>
    f_X13_keeps_53 fu v2)
  else
    (bd (f_X13_copies fu v ((66 : Int32) * ((5 : Int32) + x1)) ((66 : Int32) * (((5 : Int32) + x1) - (1 : Int32))) (48 : Int32)) fun v4 =>
    nm (x1 + (1 : Int32)) fun y5 =>
    k11 y5 v4)
noncomputable def f_X13_keeps_11 (fu n : Nat)  : Int32 → GV → Option (GV) :=
  lq_2 (fun k11 => f_X13_keeps_11s fu  k11 ) n
set_option maxHeartbeats 4000000 in
set_option maxRecDepth 100000 in
theorem t_X13_keeps_11s {G : GG} {p : Program} {l : Launch} {e : Env} {s : State} {m : MethodId} {args : Array Value} {below : List Frame} {meth : Method} {c : Code} {S : ST} {fu : Nat} {z : GV} {a : Nat} {v0 : GV}  (hM : MC G p s m args c cX13_keeps w_X13_keeps RX13) (hml : c.maxLocals = 2) (hr : meth.sig.returnType = none) (hlk : meth.locks = false) (hc0 : gC v0 = 12) {k11 : Int32 → GV → Option (GV)}  (hk11 : ∀ (x1 : Int32) (v : GV), k11 x1 v = some z → gC v = 12 → ∀ (H : Heap) (locs : List Loc), WB G (st S a v) s H locs → ∀ (ls : Array Slot), lv_has ls 2 [(0, .ref a), (1, .int x1)] → W p l e RM_X13_keeps s m args below meth c H locs 0 0 (QR G below args s none (st S a v0) (st S a z)) (F0 m 11 ls [])) : ∀ (x1 : Int32) (v : GV), f_X13_keeps_11s fu  k11  x1 v = some z → gC v = 12 → ∀ (H : Heap) (locs : List Loc), WB G (st S a v) s H locs → ∀ (ls : Array Slot), lv_has ls 2 [(0, .ref a), (1, .int x1)] → W p l e RM_X13_keeps s m args below meth c H locs 0 0 (QR G below args s none (st S a v0) (st S a z)) (F0 m 11 ls []) := by
  intro x1 v hf hc H locs hW ls hl
  have hx := hM.1
  have hb := hM.2.1
  refine lv_iload_n hx hb dX13_keeps_11 rfl (lv_at hl 1 rfl) ?_
  refine lv_bipush (v := (16 : Int32)) hx hb dX13_keeps_12 (by decide) ?_
  refine lv_icmp_ge (tgt := 43) hx hb dX13_keeps_14 (by decide) (fun c1 => ?_) (fun c1 => ?_)
  · have hf := if_t c1 hf
    refine lv_aload_n hx hb dX13_keeps_43 rfl (lv_at hl 0 rfl) ?_
    refine lv_dup hx hb dX13_keeps_44 rfl ?_
    refine b_get hM hW 11 25 hc rfl rfl (by decide) wi_X13 (wgm fk_RX13_329) (x := .int (gI v 25)) rfl dX13_keeps_45 ?_
    refine lv_iconst (v := (1 : Int32)) hx hb dX13_keeps_48 (by decide) ?_
    refine lv_isub hx hb dX13_keeps_49 ?_
    refine b_putI hM hW 11 25 hc rfl rfl (by decide) wi_X13 tyX13 tyX13_ok nmX13 (wgm fk_RX13_329) rfl rfl rfl dX13_keeps_50 (fun v2 ev2 hc H locs hW => ?_)
    have hf := nm_at ev2 hf
    exact t_X13_keeps_53 (fu := fu) hM hml hr hlk hc0 hf hc _ _ hW _ (lv_sub hl [0] rfl)
  · have hf := if_f c1 hf
    refine lv_aload_n hx hb dX13_keeps_17 rfl (lv_at hl 0 rfl) ?_
    refine lv_bipush (v := (66 : Int32)) hx hb dX13_keeps_18 (by decide) ?_
    refine lv_iconst (v := (5 : Int32)) hx hb dX13_keeps_20 (by decide) ?_
    refine lv_iload_n hx hb dX13_keeps_21 rfl (lv_at hl 1 rfl) ?_
    refine lv_iadd hx hb dX13_keeps_22 ?_
    refine lv_imul hx hb dX13_keeps_23 ?_
    refine lv_bipush (v := (66 : Int32)) hx hb dX13_keeps_24 (by decide) ?_
    refine lv_iconst (v := (5 : Int32)) hx hb dX13_keeps_26 (by decide) ?_
    refine lv_iload_n hx hb dX13_keeps_27 rfl (lv_at hl 1 rfl) ?_
    refine lv_iadd hx hb dX13_keeps_28 ?_
    refine lv_iconst (v := (1 : Int32)) hx hb dX13_keeps_29 (by decide) ?_
    refine lv_isub hx hb dX13_keeps_30 ?_
    refine lv_imul hx hb dX13_keeps_31 ?_
    refine lv_bipush (v := (48 : Int32)) hx hb dX13_keeps_32 (by decide) ?_
    obtain ⟨v4, hr3, hf⟩ := bd_elim hf
    refine b_callVv [.int ((66 : Int32) * ((5 : Int32) + x1)), .int ((66 : Int32) * (((5 : Int32) + x1) - (1 : Int32))), .int (48 : Int32)] [] hM hml hl.1 hW hc rfl (by decide) (c_X13_copies l G fu _ a v _ _ _ hc hr3) (cwV 3 hM.2.2.2.1 (gV mk_RX13_332 im_X13_copies se_X13_copies it_RX13 cd_X13_copies) rfl rfl rfl (by decide +kernel) ⟨Nat.le_of_ble_eq_true rfl, Nat.le_of_ble_eq_true rfl⟩) rfl rfl (Nat.le_of_ble_eq_true rfl) ⟨Nat.zero_le _, Nat.zero_le _⟩ dX13_keeps_34 (fun H locs hW hk => ?_)
    have hc := keep_at hc hk
    obtain ⟨y5, ey5⟩ : ∃ y : Int32, y = x1 + (1 : Int32) := ⟨_, rfl⟩
    have hf := nm_at ey5 hf
    refine lv_iinc (v := y5) (lv' := [(1, .int y5), (0, .ref a)]) hx hb dX13_keeps_37 hl (k := 1) rfl (by rw [ey5]; rfl) (by decide) rfl (fun ls hl => ?_)
    refine lv_goto (tgt := 11) hx hb dX13_keeps_40 (by decide) ?_
    exact hk11 _ _ hf hc _ _ hW _ (lv_sub hl [1, 0] rfl)
theorem t_X13_keeps_11 {G : GG} {p : Program} {l : Launch} {e : Env} {s : State} {m : MethodId} {args : Array Value} {below : List Frame} {meth : Method} {c : Code} {S : ST} {fu : Nat} {z : GV} {a : Nat} {v0 : GV}  (hM : MC G p s m args c cX13_keeps w_X13_keeps RX13) (hml : c.maxLocals = 2) (hr : meth.sig.returnType = none) (hlk : meth.locks = false) (hc0 : gC v0 = 12)  : ∀ {n : Nat} (x1 : Int32) (v : GV), f_X13_keeps_11 fu n   x1 v = some z → gC v = 12 → ∀ (H : Heap) (locs : List Loc), WB G (st S a v) s H locs → ∀ (ls : Array Slot), lv_has ls 2 [(0, .ref a), (1, .int x1)] → W p l e RM_X13_keeps s m args below meth c H locs 0 0 (QR G below args s none (st S a v0) (st S a z)) (F0 m 11 ls []) := by
  intro n
  induction n with
  | zero => intro x1 v hf; cases hf
  | succ n ih => intro x1 v hf; exact t_X13_keeps_11s (fu := fu) hM hml hr hlk hc0  (k11 := f_X13_keeps_11 fu n  ) ih _ _ hf
noncomputable def f_X13_keeps_0 (fu : Nat)  (v : GV) : Option (GV) :=
  if (gI v 25) = (16 : Int32) then
    (f_X13_keeps_11 fu fu (1 : Int32) v)
  else
    (f_X13_keeps_53 fu v)
set_option maxHeartbeats 4000000 in
set_option maxRecDepth 100000 in
theorem t_X13_keeps_0 {G : GG} {p : Program} {l : Launch} {e : Env} {s : State} {m : MethodId} {args : Array Value} {below : List Frame} {meth : Method} {c : Code} {S : ST} {fu : Nat} {z : GV} {a : Nat} {v0 : GV}  {v : GV} (hM : MC G p s m args c cX13_keeps w_X13_keeps RX13) (hml : c.maxLocals = 2) (hr : meth.sig.returnType = none) (hlk : meth.locks = false) (hc0 : gC v0 = 12)  (hf : f_X13_keeps_0 fu  v  = some z) : gC v = 12 → ∀ (H : Heap) (locs : List Loc), WB G (st S a v) s H locs → ∀ (ls : Array Slot), lv_has ls 2 [(0, .ref a)] → W p l e RM_X13_keeps s m args below meth c H locs 0 0 (QR G below args s none (st S a v0) (st S a z)) (F0 m 0 ls []) := by
  intro hc H locs hW ls hl
  have hx := hM.1
  have hb := hM.2.1
  refine lv_aload_n hx hb dX13_keeps_0 rfl (lv_at hl 0 rfl) ?_
  refine b_get hM hW 11 25 hc rfl rfl (by decide) wi_X13 (wgm fk_RX13_329) (x := .int (gI v 25)) rfl dX13_keeps_1 ?_
  refine lv_bipush (v := (16 : Int32)) hx hb dX13_keeps_4 (by decide) ?_
  refine lv_icmp_ne (tgt := 53) hx hb dX13_keeps_6 (by decide) (fun c1 => ?_) (fun c1 => ?_)
  · have hf := if_f c1 hf
    exact t_X13_keeps_53 (fu := fu) hM hml hr hlk hc0 hf hc _ _ hW _ (lv_sub hl [0] rfl)
  · have hf := if_t c1 hf
    refine lv_iconst (v := (1 : Int32)) hx hb dX13_keeps_9 (by decide) ?_
    refine lv_istore_n (lv' := [(1, .int (1 : Int32)), (0, .ref a)]) hx hb dX13_keeps_10 rfl hl (by decide) rfl (fun ls hl => ?_)
    exact t_X13_keeps_11 (fu := fu) hM hml hr hlk hc0 _ _ hf hc _ _ hW _ (lv_sub hl [1, 0] rfl)
noncomputable def f_X13_keeps (fu : Nat) (v : GV) : Option (GV) := f_X13_keeps_0 fu v
set_option maxHeartbeats 4000000 in
set_option maxRecDepth 100000 in
theorem c_X13_keeps (l : Launch) (G : GG) (fu : Nat) (S : ST) (a : Nat) (v : GV) {z : GV} (hc : gC v = 12) (hf : f_X13_keeps fu v = some z) : Ct l yX13_keeps w_X13_keeps RM_X13_keeps G (st S a v) [.ref a] none (st S a z) 0 0 := by
  refine Met.ofW (cc := cX13_keeps) (maxL := 2) (ret := none) (by decide) rfl ?_
  intro p e s m args below meth c s₁ B hml hv
  obtain ⟨rfl, hB, hK, hz⟩ := hv
  have hM : MC G p s m _ c cX13_keeps w_X13_keeps RX13 := ⟨B.exec, B.bytes, findClass_of_methodNamed B.named, atoms_spec (ws := w_X13_keeps) B.pre, hK, hz⟩
  have hW : WB G (st S a v) s s.heap [] := ⟨hB, va_S.rf⟩
  have hl := lv_entry ([.ref a]) (n := 2) (Nat.le_of_ble_eq_true rfl)
  rw [lg_entry_eq]
  generalize (lg_sl ([.ref a]) ++ List.replicate (2 - (lg_sl ([.ref a])).length) Slot.unset).toArray = ls at hl ⊢
  have hl : lv_has ls 2 [(0, .ref a)] := hl
  exact t_X13_keeps_0 hM hml B.returns B.notSynchronized hc hf hc _ _ hW _ (lv_sub hl [0] rfl)
abbrev w_X13_spots : List Cond := Cond.code yX13_spots cX13_spots 1 (some .int) :: wsL_law0
abbrev RM_X13_spots : Room := { frames := 0, cells := 0, slots := 0, locals := 0 }
noncomputable def f_X13_spots_0 (fu : Nat)  (v : GV) : Option (Int32) :=
  some (gA v 10 (0 : Int32).toNatClampNeg)
set_option maxHeartbeats 4000000 in
set_option maxRecDepth 100000 in
theorem t_X13_spots_0 {G : GG} {p : Program} {l : Launch} {e : Env} {s : State} {m : MethodId} {args : Array Value} {below : List Frame} {meth : Method} {c : Code} {S : ST} {fu : Nat} {z : Int32} {a : Nat} {v : GV}  (hM : MC G p s m args c cX13_spots w_X13_spots RX13) (hml : c.maxLocals = 1) (hr : meth.sig.returnType = (some .int)) (hlk : meth.locks = false) (hc0 : gC v = 12)  (hf : f_X13_spots_0 fu  v  = some z) : ∀ (H : Heap) (locs : List Loc), WB G (st S a v) s H locs → ∀ (ls : Array Slot), lv_has ls 1 [(0, .ref a)] → W p l e RM_X13_spots s m args below meth c H locs 0 0 (QR G below args s (some (.int z)) (st S a v) (st S a v)) (F0 m 0 ls []) := by
  intro H locs hW ls hl
  have hx := hM.1
  have hb := hM.2.1
  have hc := hc0
  refine lv_aload_n hx hb dX13_spots_0 rfl (lv_at hl 0 rfl) ?_
  refine b_get hM hW 11 10 hc rfl rfl (by decide) wi_X13 (wgm fk_RX13_95) (x := .ref (a + 6)) rfl dX13_spots_1 ?_
  refine lv_iconst (v := (0 : Int32)) hx hb dX13_spots_4 (by decide) ?_
  refine b_iald (n := 140) hM hW 11 10 hc (by decide) rfl rfl rfl rfl (by decide) dX13_spots_5 ?_
  cases hf
  exact W.iret hx hb hr (b_ret0 hW (fun _ _ => rfl) _) hW.2.2.2 dX13_spots_6 hlk
noncomputable def f_X13_spots (fu : Nat) (v : GV) : Option (Int32) := f_X13_spots_0 fu v
set_option maxHeartbeats 4000000 in
set_option maxRecDepth 100000 in
theorem c_X13_spots (l : Launch) (G : GG) (fu : Nat) (S : ST) (a : Nat) (v : GV) {z : Int32} (hc : gC v = 12) (hf : f_X13_spots fu v = some z) : Ct l yX13_spots w_X13_spots RM_X13_spots G (st S a v) [.ref a] (some (.int z)) (st S a v) 0 0 := by
  refine Met.ofW (cc := cX13_spots) (maxL := 1) (ret := (some .int)) (by decide) rfl ?_
  intro p e s m args below meth c s₁ B hml hv
  obtain ⟨rfl, hB, hK, hz⟩ := hv
  have hM : MC G p s m _ c cX13_spots w_X13_spots RX13 := ⟨B.exec, B.bytes, findClass_of_methodNamed B.named, atoms_spec (ws := w_X13_spots) B.pre, hK, hz⟩
  have hW : WB G (st S a v) s s.heap [] := ⟨hB, va_S.rf⟩
  have hl := lv_entry ([.ref a]) (n := 1) (Nat.le_of_ble_eq_true rfl)
  rw [lg_entry_eq]
  generalize (lg_sl ([.ref a]) ++ List.replicate (1 - (lg_sl ([.ref a])).length) Slot.unset).toArray = ls at hl ⊢
  have hl : lv_has ls 1 [(0, .ref a)] := hl
  exact t_X13_spots_0 hM hml B.returns B.notSynchronized hc hf _ _ hW _ (lv_sub hl [0] rfl)
abbrev w_X13_experts : List Cond := Cond.code yX13_experts cX13_experts 1 (some .int) :: wsL_law0
abbrev RM_X13_experts : Room := { frames := 0, cells := 0, slots := 0, locals := 0 }
noncomputable def f_X13_experts_0 (fu : Nat)  (v : GV) : Option (Int32) :=
  some (gA v 10 (2 : Int32).toNatClampNeg)
set_option maxHeartbeats 4000000 in
set_option maxRecDepth 100000 in
theorem t_X13_experts_0 {G : GG} {p : Program} {l : Launch} {e : Env} {s : State} {m : MethodId} {args : Array Value} {below : List Frame} {meth : Method} {c : Code} {S : ST} {fu : Nat} {z : Int32} {a : Nat} {v : GV}  (hM : MC G p s m args c cX13_experts w_X13_experts RX13) (hml : c.maxLocals = 1) (hr : meth.sig.returnType = (some .int)) (hlk : meth.locks = false) (hc0 : gC v = 12)  (hf : f_X13_experts_0 fu  v  = some z) : ∀ (H : Heap) (locs : List Loc), WB G (st S a v) s H locs → ∀ (ls : Array Slot), lv_has ls 1 [(0, .ref a)] → W p l e RM_X13_experts s m args below meth c H locs 0 0 (QR G below args s (some (.int z)) (st S a v) (st S a v)) (F0 m 0 ls []) := by
  intro H locs hW ls hl
  have hx := hM.1
  have hb := hM.2.1
  have hc := hc0
  refine lv_aload_n hx hb dX13_experts_0 rfl (lv_at hl 0 rfl) ?_
  refine b_get hM hW 11 10 hc rfl rfl (by decide) wi_X13 (wgm fk_RX13_95) (x := .ref (a + 6)) rfl dX13_experts_1 ?_
  refine lv_iconst (v := (2 : Int32)) hx hb dX13_experts_4 (by decide) ?_
  refine b_iald (n := 140) hM hW 11 10 hc (by decide) rfl rfl rfl rfl (by decide) dX13_experts_5 ?_
  cases hf
  exact W.iret hx hb hr (b_ret0 hW (fun _ _ => rfl) _) hW.2.2.2 dX13_experts_6 hlk
noncomputable def f_X13_experts (fu : Nat) (v : GV) : Option (Int32) := f_X13_experts_0 fu v
set_option maxHeartbeats 4000000 in
set_option maxRecDepth 100000 in
theorem c_X13_experts (l : Launch) (G : GG) (fu : Nat) (S : ST) (a : Nat) (v : GV) {z : Int32} (hc : gC v = 12) (hf : f_X13_experts fu v = some z) : Ct l yX13_experts w_X13_experts RM_X13_experts G (st S a v) [.ref a] (some (.int z)) (st S a v) 0 0 := by
  refine Met.ofW (cc := cX13_experts) (maxL := 1) (ret := (some .int)) (by decide) rfl ?_
  intro p e s m args below meth c s₁ B hml hv
  obtain ⟨rfl, hB, hK, hz⟩ := hv
  have hM : MC G p s m _ c cX13_experts w_X13_experts RX13 := ⟨B.exec, B.bytes, findClass_of_methodNamed B.named, atoms_spec (ws := w_X13_experts) B.pre, hK, hz⟩
  have hW : WB G (st S a v) s s.heap [] := ⟨hB, va_S.rf⟩
  have hl := lv_entry ([.ref a]) (n := 1) (Nat.le_of_ble_eq_true rfl)
  rw [lg_entry_eq]
  generalize (lg_sl ([.ref a]) ++ List.replicate (1 - (lg_sl ([.ref a])).length) Slot.unset).toArray = ls at hl ⊢
  have hl : lv_has ls 1 [(0, .ref a)] := hl
  exact t_X13_experts_0 hM hml B.returns B.notSynchronized hc hf _ _ hW _ (lv_sub hl [0] rfl)
abbrev w_X13_isThief : List Cond := Cond.code yX13_isThief cX13_isThief 2 (some .boolean) :: wsL_law0
abbrev RM_X13_isThief : Room := { frames := 1, cells := 0, slots := 0, locals := 20 }
noncomputable def f_X13_isThief_16 (fu : Nat)  (v : GV) : Option (Int32) :=
  some (0 : Int32)
set_option maxHeartbeats 4000000 in
set_option maxRecDepth 100000 in
theorem t_X13_isThief_16 {G : GG} {p : Program} {l : Launch} {e : Env} {s : State} {m : MethodId} {args : Array Value} {below : List Frame} {meth : Method} {c : Code} {S : ST} {fu : Nat} {z : Int32} {a : Nat} {v : GV}  (hM : MC G p s m args c cX13_isThief w_X13_isThief RX13) (hml : c.maxLocals = 2) (hr : meth.sig.returnType = (some .boolean)) (hlk : meth.locks = false) (hc0 : gC v = 12)  (hf : f_X13_isThief_16 fu  v  = some z) : ∀ (H : Heap) (locs : List Loc), WB G (st S a v) s H locs → ∀ (ls : Array Slot), lv_has ls 2 [] → W p l e RM_X13_isThief s m args below meth c H locs 0 0 (QR G below args s (some (.int z)) (st S a v) (st S a v)) (F0 m 16 ls []) := by
  intro H locs hW ls hl
  have hx := hM.1
  have hb := hM.2.1
  have hc := hc0
  refine lv_iconst (v := (0 : Int32)) hx hb dX13_isThief_16 (by decide) ?_
  cases hf
  exact W.zret (v := (0 : Int32)) hx hb hr (by decide) (b_ret0 hW (fun _ _ => rfl) _) hW.2.2.2 dX13_isThief_17 hlk
noncomputable def f_X13_isThief_0 (fu : Nat)  (v : GV) (x1 : Int32) : Option (Int32) :=
  if x1 < 0 then
    (f_X13_isThief_16 fu v)
  else
    (bd (f_X13_thieves fu v) fun r2 =>
    if r2 ≤ x1 then
      (f_X13_isThief_16 fu v)
    else
      (some (1 : Int32)))
set_option maxHeartbeats 4000000 in
set_option maxRecDepth 100000 in
theorem t_X13_isThief_0 {G : GG} {p : Program} {l : Launch} {e : Env} {s : State} {m : MethodId} {args : Array Value} {below : List Frame} {meth : Method} {c : Code} {S : ST} {fu : Nat} {z : Int32} {a : Nat} {v : GV}  {x1 : Int32} (hM : MC G p s m args c cX13_isThief w_X13_isThief RX13) (hml : c.maxLocals = 2) (hr : meth.sig.returnType = (some .boolean)) (hlk : meth.locks = false) (hc0 : gC v = 12)  (hf : f_X13_isThief_0 fu  v x1 = some z) : ∀ (H : Heap) (locs : List Loc), WB G (st S a v) s H locs → ∀ (ls : Array Slot), lv_has ls 2 [(0, .ref a), (1, .int x1)] → W p l e RM_X13_isThief s m args below meth c H locs 0 0 (QR G below args s (some (.int z)) (st S a v) (st S a v)) (F0 m 0 ls []) := by
  intro H locs hW ls hl
  have hx := hM.1
  have hb := hM.2.1
  have hc := hc0
  refine lv_iload_n hx hb dX13_isThief_0 rfl (lv_at hl 1 rfl) ?_
  refine lv_if_lt (tgt := 16) hx hb dX13_isThief_1 (by decide) (fun c1 => ?_) (fun c1 => ?_)
  · have hf := if_t c1 hf
    exact t_X13_isThief_16 (fu := fu) hM hml hr hlk hc0 hf _ _ hW _ (lv_sub hl [] rfl)
  · have hf := if_f c1 hf
    refine lv_iload_n hx hb dX13_isThief_4 rfl (lv_at hl 1 rfl) ?_
    refine lv_aload_n hx hb dX13_isThief_5 rfl (lv_at hl 0 rfl) ?_
    obtain ⟨r2, hr2, hf⟩ := bd_elim hf
    refine b_callVi [] [.int x1] hM hml hl.1 hW hc rfl (by decide) (c_X13_thieves l G fu _ a v hc hr2) (cwV 0 hM.2.2.2.1 (gV mk_RX13_320 im_X13_thieves se_X13_thieves it_RX13 cd_X13_thieves) rfl rfl rfl (by decide +kernel) ⟨Nat.le_of_ble_eq_true rfl, Nat.le_of_ble_eq_true rfl⟩) rfl rfl (Nat.le_of_ble_eq_true rfl) ⟨Nat.zero_le _, Nat.zero_le _⟩ dX13_isThief_6 (fun H locs hW hk => ?_)
    refine lv_icmp_ge (tgt := 16) hx hb dX13_isThief_9 (by decide) (fun c3 => ?_) (fun c3 => ?_)
    · have hf := if_t c3 hf
      exact t_X13_isThief_16 (fu := fu) hM hml hr hlk hc0 hf _ _ hW _ (lv_sub hl [] rfl)
    · have hf := if_f c3 hf
      refine lv_iconst (v := (1 : Int32)) hx hb dX13_isThief_12 (by decide) ?_
      refine lv_goto (tgt := 17) hx hb dX13_isThief_13 (by decide) ?_
      cases hf
      exact W.zret (v := (1 : Int32)) hx hb hr (by decide) (b_ret0 hW (fun _ _ => rfl) _) hW.2.2.2 dX13_isThief_17 hlk
noncomputable def f_X13_isThief (fu : Nat) (v : GV) (x1 : Int32) : Option (Int32) := f_X13_isThief_0 fu v x1
set_option maxHeartbeats 4000000 in
set_option maxRecDepth 100000 in
theorem c_X13_isThief (l : Launch) (G : GG) (fu : Nat) (S : ST) (a : Nat) (v : GV) (x1 : Int32) {z : Int32} (hc : gC v = 12) (hf : f_X13_isThief fu v x1 = some z) : Ct l yX13_isThief w_X13_isThief RM_X13_isThief G (st S a v) [.ref a, .int x1] (some (.int z)) (st S a v) 0 0 := by
  refine Met.ofW (cc := cX13_isThief) (maxL := 2) (ret := (some .boolean)) (by decide) rfl ?_
  intro p e s m args below meth c s₁ B hml hv
  obtain ⟨rfl, hB, hK, hz⟩ := hv
  have hM : MC G p s m _ c cX13_isThief w_X13_isThief RX13 := ⟨B.exec, B.bytes, findClass_of_methodNamed B.named, atoms_spec (ws := w_X13_isThief) B.pre, hK, hz⟩
  have hW : WB G (st S a v) s s.heap [] := ⟨hB, va_S.rf⟩
  have hl := lv_entry ([.ref a, .int x1]) (n := 2) (Nat.le_of_ble_eq_true rfl)
  rw [lg_entry_eq]
  generalize (lg_sl ([.ref a, .int x1]) ++ List.replicate (2 - (lg_sl ([.ref a, .int x1])).length) Slot.unset).toArray = ls at hl ⊢
  have hl : lv_has ls 2 [(0, .ref a), (1, .int x1)] := hl
  exact t_X13_isThief_0 hM hml B.returns B.notSynchronized hc hf _ _ hW _ (lv_sub hl [0, 1] rfl)
abbrev w_X13_isSpot : List Cond := Cond.code yX13_isSpot cX13_isSpot 2 (some .boolean) :: wsL_law0
abbrev RM_X13_isSpot : Room := { frames := 1, cells := 0, slots := 0, locals := 20 }
noncomputable def f_X13_isSpot_16 (fu : Nat)  (v : GV) : Option (Int32) :=
  some (0 : Int32)
set_option maxHeartbeats 4000000 in
set_option maxRecDepth 100000 in
theorem t_X13_isSpot_16 {G : GG} {p : Program} {l : Launch} {e : Env} {s : State} {m : MethodId} {args : Array Value} {below : List Frame} {meth : Method} {c : Code} {S : ST} {fu : Nat} {z : Int32} {a : Nat} {v : GV}  (hM : MC G p s m args c cX13_isSpot w_X13_isSpot RX13) (hml : c.maxLocals = 2) (hr : meth.sig.returnType = (some .boolean)) (hlk : meth.locks = false) (hc0 : gC v = 12)  (hf : f_X13_isSpot_16 fu  v  = some z) : ∀ (H : Heap) (locs : List Loc), WB G (st S a v) s H locs → ∀ (ls : Array Slot), lv_has ls 2 [] → W p l e RM_X13_isSpot s m args below meth c H locs 0 0 (QR G below args s (some (.int z)) (st S a v) (st S a v)) (F0 m 16 ls []) := by
  intro H locs hW ls hl
  have hx := hM.1
  have hb := hM.2.1
  have hc := hc0
  refine lv_iconst (v := (0 : Int32)) hx hb dX13_isSpot_16 (by decide) ?_
  cases hf
  exact W.zret (v := (0 : Int32)) hx hb hr (by decide) (b_ret0 hW (fun _ _ => rfl) _) hW.2.2.2 dX13_isSpot_17 hlk
noncomputable def f_X13_isSpot_0 (fu : Nat)  (v : GV) (x1 : Int32) : Option (Int32) :=
  if x1 < 0 then
    (f_X13_isSpot_16 fu v)
  else
    (bd (f_X13_spots fu v) fun r2 =>
    if r2 ≤ x1 then
      (f_X13_isSpot_16 fu v)
    else
      (some (1 : Int32)))
set_option maxHeartbeats 4000000 in
set_option maxRecDepth 100000 in
theorem t_X13_isSpot_0 {G : GG} {p : Program} {l : Launch} {e : Env} {s : State} {m : MethodId} {args : Array Value} {below : List Frame} {meth : Method} {c : Code} {S : ST} {fu : Nat} {z : Int32} {a : Nat} {v : GV}  {x1 : Int32} (hM : MC G p s m args c cX13_isSpot w_X13_isSpot RX13) (hml : c.maxLocals = 2) (hr : meth.sig.returnType = (some .boolean)) (hlk : meth.locks = false) (hc0 : gC v = 12)  (hf : f_X13_isSpot_0 fu  v x1 = some z) : ∀ (H : Heap) (locs : List Loc), WB G (st S a v) s H locs → ∀ (ls : Array Slot), lv_has ls 2 [(0, .ref a), (1, .int x1)] → W p l e RM_X13_isSpot s m args below meth c H locs 0 0 (QR G below args s (some (.int z)) (st S a v) (st S a v)) (F0 m 0 ls []) := by
  intro H locs hW ls hl
  have hx := hM.1
  have hb := hM.2.1
  have hc := hc0
  refine lv_iload_n hx hb dX13_isSpot_0 rfl (lv_at hl 1 rfl) ?_
  refine lv_if_lt (tgt := 16) hx hb dX13_isSpot_1 (by decide) (fun c1 => ?_) (fun c1 => ?_)
  · have hf := if_t c1 hf
    exact t_X13_isSpot_16 (fu := fu) hM hml hr hlk hc0 hf _ _ hW _ (lv_sub hl [] rfl)
  · have hf := if_f c1 hf
    refine lv_iload_n hx hb dX13_isSpot_4 rfl (lv_at hl 1 rfl) ?_
    refine lv_aload_n hx hb dX13_isSpot_5 rfl (lv_at hl 0 rfl) ?_
    obtain ⟨r2, hr2, hf⟩ := bd_elim hf
    refine b_callVi [] [.int x1] hM hml hl.1 hW hc rfl (by decide) (c_X13_spots l G fu _ a v hc hr2) (cwV 0 hM.2.2.2.1 (gV mk_RX13_336 im_X13_spots se_X13_spots it_RX13 cd_X13_spots) rfl rfl rfl (by decide +kernel) ⟨Nat.le_of_ble_eq_true rfl, Nat.le_of_ble_eq_true rfl⟩) rfl rfl (Nat.le_of_ble_eq_true rfl) ⟨Nat.zero_le _, Nat.zero_le _⟩ dX13_isSpot_6 (fun H locs hW hk => ?_)
    refine lv_icmp_ge (tgt := 16) hx hb dX13_isSpot_9 (by decide) (fun c3 => ?_) (fun c3 => ?_)
    · have hf := if_t c3 hf
      exact t_X13_isSpot_16 (fu := fu) hM hml hr hlk hc0 hf _ _ hW _ (lv_sub hl [] rfl)
    · have hf := if_f c3 hf
      refine lv_iconst (v := (1 : Int32)) hx hb dX13_isSpot_12 (by decide) ?_
      refine lv_goto (tgt := 17) hx hb dX13_isSpot_13 (by decide) ?_
      cases hf
      exact W.zret (v := (1 : Int32)) hx hb hr (by decide) (b_ret0 hW (fun _ _ => rfl) _) hW.2.2.2 dX13_isSpot_17 hlk
noncomputable def f_X13_isSpot (fu : Nat) (v : GV) (x1 : Int32) : Option (Int32) := f_X13_isSpot_0 fu v x1
set_option maxHeartbeats 4000000 in
set_option maxRecDepth 100000 in
theorem c_X13_isSpot (l : Launch) (G : GG) (fu : Nat) (S : ST) (a : Nat) (v : GV) (x1 : Int32) {z : Int32} (hc : gC v = 12) (hf : f_X13_isSpot fu v x1 = some z) : Ct l yX13_isSpot w_X13_isSpot RM_X13_isSpot G (st S a v) [.ref a, .int x1] (some (.int z)) (st S a v) 0 0 := by
  refine Met.ofW (cc := cX13_isSpot) (maxL := 2) (ret := (some .boolean)) (by decide) rfl ?_
  intro p e s m args below meth c s₁ B hml hv
  obtain ⟨rfl, hB, hK, hz⟩ := hv
  have hM : MC G p s m _ c cX13_isSpot w_X13_isSpot RX13 := ⟨B.exec, B.bytes, findClass_of_methodNamed B.named, atoms_spec (ws := w_X13_isSpot) B.pre, hK, hz⟩
  have hW : WB G (st S a v) s s.heap [] := ⟨hB, va_S.rf⟩
  have hl := lv_entry ([.ref a, .int x1]) (n := 2) (Nat.le_of_ble_eq_true rfl)
  rw [lg_entry_eq]
  generalize (lg_sl ([.ref a, .int x1]) ++ List.replicate (2 - (lg_sl ([.ref a, .int x1])).length) Slot.unset).toArray = ls at hl ⊢
  have hl : lv_has ls 2 [(0, .ref a), (1, .int x1)] := hl
  exact t_X13_isSpot_0 hM hml B.returns B.notSynchronized hc hf _ _ hW _ (lv_sub hl [0, 1] rfl)
abbrev w_X13_isPiece : List Cond := Cond.code yX13_isPiece cX13_isPiece 3 (some .boolean) :: wsL_law0
abbrev RM_X13_isPiece : Room := { frames := 0, cells := 0, slots := 0, locals := 0 }
noncomputable def f_X13_isPiece_20 (fu : Nat)  (v : GV) : Option (Int32) :=
  some (0 : Int32)
set_option maxHeartbeats 4000000 in
set_option maxRecDepth 100000 in
theorem t_X13_isPiece_20 {G : GG} {p : Program} {l : Launch} {e : Env} {s : State} {m : MethodId} {args : Array Value} {below : List Frame} {meth : Method} {c : Code} {S : ST} {fu : Nat} {z : Int32} {a : Nat} {v : GV}  (hM : MC G p s m args c cX13_isPiece w_X13_isPiece RX13) (hml : c.maxLocals = 3) (hr : meth.sig.returnType = (some .boolean)) (hlk : meth.locks = false) (hc0 : gC v = 12)  (hf : f_X13_isPiece_20 fu  v  = some z) : ∀ (H : Heap) (locs : List Loc), WB G (st S a v) s H locs → ∀ (ls : Array Slot), lv_has ls 3 [] → W p l e RM_X13_isPiece s m args below meth c H locs 0 0 (QR G below args s (some (.int z)) (st S a v) (st S a v)) (F0 m 20 ls []) := by
  intro H locs hW ls hl
  have hx := hM.1
  have hb := hM.2.1
  have hc := hc0
  refine lv_iconst (v := (0 : Int32)) hx hb dX13_isPiece_20 (by decide) ?_
  cases hf
  exact W.zret (v := (0 : Int32)) hx hb hr (by decide) (b_ret0 hW (fun _ _ => rfl) _) hW.2.2.2 dX13_isPiece_21 hlk
noncomputable def f_X13_isPiece_0 (fu : Nat)  (v : GV) (x1 : Int32) (x2 : Int32) : Option (Int32) :=
  if x2 < 0 then
    (f_X13_isPiece_20 fu v)
  else
    (nm ((x1 + (2 : Int32))) fun y2 =>
    ck (inb y2 1518) <|
    if (gA v 24 y2.toNatClampNeg) ≤ x2 then
      (f_X13_isPiece_20 fu v)
    else
      (some (1 : Int32)))
set_option maxHeartbeats 4000000 in
set_option maxRecDepth 100000 in
theorem t_X13_isPiece_0 {G : GG} {p : Program} {l : Launch} {e : Env} {s : State} {m : MethodId} {args : Array Value} {below : List Frame} {meth : Method} {c : Code} {S : ST} {fu : Nat} {z : Int32} {a : Nat} {v : GV}  {x1 : Int32} {x2 : Int32} (hM : MC G p s m args c cX13_isPiece w_X13_isPiece RX13) (hml : c.maxLocals = 3) (hr : meth.sig.returnType = (some .boolean)) (hlk : meth.locks = false) (hc0 : gC v = 12)  (hf : f_X13_isPiece_0 fu  v x1 x2 = some z) : ∀ (H : Heap) (locs : List Loc), WB G (st S a v) s H locs → ∀ (ls : Array Slot), lv_has ls 3 [(0, .ref a), (1, .int x1), (2, .int x2)] → W p l e RM_X13_isPiece s m args below meth c H locs 0 0 (QR G below args s (some (.int z)) (st S a v) (st S a v)) (F0 m 0 ls []) := by
  intro H locs hW ls hl
  have hx := hM.1
  have hb := hM.2.1
  have hc := hc0
  refine lv_iload_n hx hb dX13_isPiece_0 rfl (lv_at hl 2 rfl) ?_
  refine lv_if_lt (tgt := 20) hx hb dX13_isPiece_1 (by decide) (fun c1 => ?_) (fun c1 => ?_)
  · have hf := if_t c1 hf
    exact t_X13_isPiece_20 (fu := fu) hM hml hr hlk hc0 hf _ _ hW _ (lv_sub hl [] rfl)
  · have hf := if_f c1 hf
    refine lv_iload_n hx hb dX13_isPiece_4 rfl (lv_at hl 2 rfl) ?_
    refine lv_aload_n hx hb dX13_isPiece_5 rfl (lv_at hl 0 rfl) ?_
    refine b_get hM hW 11 24 hc rfl rfl (by decide) wi_X13 (wgm fk_RX13_125) (x := .ref (a + 16)) rfl dX13_isPiece_6 ?_
    refine lv_iload_n hx hb dX13_isPiece_9 rfl (lv_at hl 1 rfl) ?_
    refine lv_iconst (v := (2 : Int32)) hx hb dX13_isPiece_10 (by decide) ?_
    refine lv_iadd hx hb dX13_isPiece_11 ?_
    refine lv_topi (fun y2 ey2 => ?_)
    have hf := nm_at ey2 hf
    obtain ⟨h3, hf⟩ := ck_elim hf
    refine b_iald (n := 1518) hM hW 11 24 hc (by decide) rfl rfl rfl rfl h3 dX13_isPiece_12 ?_
    refine lv_icmp_ge (tgt := 20) hx hb dX13_isPiece_13 (by decide) (fun c4 => ?_) (fun c4 => ?_)
    · have hf := if_t c4 hf
      exact t_X13_isPiece_20 (fu := fu) hM hml hr hlk hc0 hf _ _ hW _ (lv_sub hl [] rfl)
    · have hf := if_f c4 hf
      refine lv_iconst (v := (1 : Int32)) hx hb dX13_isPiece_16 (by decide) ?_
      refine lv_goto (tgt := 21) hx hb dX13_isPiece_17 (by decide) ?_
      cases hf
      exact W.zret (v := (1 : Int32)) hx hb hr (by decide) (b_ret0 hW (fun _ _ => rfl) _) hW.2.2.2 dX13_isPiece_21 hlk
noncomputable def f_X13_isPiece (fu : Nat) (v : GV) (x1 : Int32) (x2 : Int32) : Option (Int32) := f_X13_isPiece_0 fu v x1 x2
set_option maxHeartbeats 4000000 in
set_option maxRecDepth 100000 in
theorem c_X13_isPiece (l : Launch) (G : GG) (fu : Nat) (S : ST) (a : Nat) (v : GV) (x1 : Int32) (x2 : Int32) {z : Int32} (hc : gC v = 12) (hf : f_X13_isPiece fu v x1 x2 = some z) : Ct l yX13_isPiece w_X13_isPiece RM_X13_isPiece G (st S a v) [.ref a, .int x1, .int x2] (some (.int z)) (st S a v) 0 0 := by
  refine Met.ofW (cc := cX13_isPiece) (maxL := 3) (ret := (some .boolean)) (by decide) rfl ?_
  intro p e s m args below meth c s₁ B hml hv
  obtain ⟨rfl, hB, hK, hz⟩ := hv
  have hM : MC G p s m _ c cX13_isPiece w_X13_isPiece RX13 := ⟨B.exec, B.bytes, findClass_of_methodNamed B.named, atoms_spec (ws := w_X13_isPiece) B.pre, hK, hz⟩
  have hW : WB G (st S a v) s s.heap [] := ⟨hB, va_S.rf⟩
  have hl := lv_entry ([.ref a, .int x1, .int x2]) (n := 3) (Nat.le_of_ble_eq_true rfl)
  rw [lg_entry_eq]
  generalize (lg_sl ([.ref a, .int x1, .int x2]) ++ List.replicate (3 - (lg_sl ([.ref a, .int x1, .int x2])).length) Slot.unset).toArray = ls at hl ⊢
  have hl : lv_has ls 3 [(0, .ref a), (1, .int x1), (2, .int x2)] := hl
  exact t_X13_isPiece_0 hM hml B.returns B.notSynchronized hc hf _ _ hW _ (lv_sub hl [0, 1, 2] rfl)
abbrev w_X13_bits : List Cond := Cond.code yX13_bits cX13_bits 3 (some .int) :: wsL_law0
abbrev RM_X13_bits : Room := { frames := 0, cells := 0, slots := 0, locals := 0 }
noncomputable def f_X13_bits_4s (fu : Nat)  (k4 : Int32 → Int32 → Option (Int32)) (x0 : Int32) (x1 : Int32) (x2 : Int32) : Option (Int32) :=
  if (30 : Int32) ≤ x2 then
    (some x1)
  else
    (nm ((x1 + ((x0 >>> (x2 &&& 31)) &&& (1 : Int32)))) fun y2 =>
    nm (x2 + (1 : Int32)) fun y3 =>
    k4 y2 y3)
noncomputable def f_X13_bits_4 (fu n : Nat)  (x0 : Int32) : Int32 → Int32 → Option (Int32) :=
  lq_2 (fun k4 => f_X13_bits_4s fu  k4 x0) n
set_option maxHeartbeats 4000000 in
set_option maxRecDepth 100000 in
theorem t_X13_bits_4s {G : GG} {p : Program} {l : Launch} {e : Env} {s : State} {m : MethodId} {args : Array Value} {below : List Frame} {meth : Method} {c : Code} {S : ST} {fu : Nat} {z : Int32}  (hM : MC G p s m args c cX13_bits w_X13_bits RX13) (hml : c.maxLocals = 3) (hr : meth.sig.returnType = (some .int)) (hlk : meth.locks = false) {k4 : Int32 → Int32 → Option (Int32)} {x0 : Int32}  (hk4 : ∀ (x1 : Int32) (x2 : Int32), k4 x1 x2 = some z → ∀ (H : Heap) (locs : List Loc), WB G S s H locs → ∀ (ls : Array Slot), lv_has ls 3 [(0, .int x0), (1, .int x1), (2, .int x2)] → W p l e RM_X13_bits s m args below meth c H locs 0 0 (QR G below args s (some (.int z)) S S) (F0 m 4 ls [])) : ∀ (x1 : Int32) (x2 : Int32), f_X13_bits_4s fu  k4 x0 x1 x2 = some z → ∀ (H : Heap) (locs : List Loc), WB G S s H locs → ∀ (ls : Array Slot), lv_has ls 3 [(0, .int x0), (1, .int x1), (2, .int x2)] → W p l e RM_X13_bits s m args below meth c H locs 0 0 (QR G below args s (some (.int z)) S S) (F0 m 4 ls []) := by
  intro x1 x2 hf H locs hW ls hl
  have hx := hM.1
  have hb := hM.2.1
  refine lv_iload_n hx hb dX13_bits_4 rfl (lv_at hl 2 rfl) ?_
  refine lv_bipush (v := (30 : Int32)) hx hb dX13_bits_5 (by decide) ?_
  refine lv_icmp_ge (tgt := 24) hx hb dX13_bits_7 (by decide) (fun c1 => ?_) (fun c1 => ?_)
  · have hf := if_t c1 hf
    refine lv_iload_n hx hb dX13_bits_24 rfl (lv_at hl 1 rfl) ?_
    cases hf
    exact W.iret hx hb hr (b_ret0 hW (fun _ _ => rfl) _) hW.2.2.2 dX13_bits_25 hlk
  · have hf := if_f c1 hf
    refine lv_iload_n hx hb dX13_bits_10 rfl (lv_at hl 1 rfl) ?_
    refine lv_iload_n hx hb dX13_bits_11 rfl (lv_at hl 0 rfl) ?_
    refine lv_iload_n hx hb dX13_bits_12 rfl (lv_at hl 2 rfl) ?_
    refine lv_ishr hx hb dX13_bits_13 ?_
    refine lv_iconst (v := (1 : Int32)) hx hb dX13_bits_14 (by decide) ?_
    refine lv_iand hx hb dX13_bits_15 ?_
    refine lv_iadd hx hb dX13_bits_16 ?_
    refine lv_topi (fun y2 ey2 => ?_)
    have hf := nm_at ey2 hf
    refine lv_istore_n (lv' := [(1, .int y2), (0, .int x0), (2, .int x2)]) hx hb dX13_bits_17 rfl hl (by decide) rfl (fun ls hl => ?_)
    obtain ⟨y3, ey3⟩ : ∃ y : Int32, y = x2 + (1 : Int32) := ⟨_, rfl⟩
    have hf := nm_at ey3 hf
    refine lv_iinc (v := y3) (lv' := [(2, .int y3), (1, .int y2), (0, .int x0)]) hx hb dX13_bits_18 hl (k := 2) rfl (by rw [ey3]; rfl) (by decide) rfl (fun ls hl => ?_)
    refine lv_goto (tgt := 4) hx hb dX13_bits_21 (by decide) ?_
    exact hk4 _ _ hf _ _ hW _ (lv_sub hl [2, 1, 0] rfl)
theorem t_X13_bits_4 {G : GG} {p : Program} {l : Launch} {e : Env} {s : State} {m : MethodId} {args : Array Value} {below : List Frame} {meth : Method} {c : Code} {S : ST} {fu : Nat} {z : Int32}  {x0 : Int32} (hM : MC G p s m args c cX13_bits w_X13_bits RX13) (hml : c.maxLocals = 3) (hr : meth.sig.returnType = (some .int)) (hlk : meth.locks = false)  : ∀ {n : Nat} (x1 : Int32) (x2 : Int32), f_X13_bits_4 fu n  x0 x1 x2 = some z → ∀ (H : Heap) (locs : List Loc), WB G S s H locs → ∀ (ls : Array Slot), lv_has ls 3 [(0, .int x0), (1, .int x1), (2, .int x2)] → W p l e RM_X13_bits s m args below meth c H locs 0 0 (QR G below args s (some (.int z)) S S) (F0 m 4 ls []) := by
  intro n
  induction n with
  | zero => intro x1 x2 hf; cases hf
  | succ n ih => intro x1 x2 hf; exact t_X13_bits_4s (fu := fu) hM hml hr hlk  (k4 := f_X13_bits_4 fu n  x0) ih _ _ hf
noncomputable def f_X13_bits_0 (fu : Nat)  (x0 : Int32) : Option (Int32) :=
  f_X13_bits_4 fu fu x0 (0 : Int32) (0 : Int32)
set_option maxHeartbeats 4000000 in
set_option maxRecDepth 100000 in
theorem t_X13_bits_0 {G : GG} {p : Program} {l : Launch} {e : Env} {s : State} {m : MethodId} {args : Array Value} {below : List Frame} {meth : Method} {c : Code} {S : ST} {fu : Nat} {z : Int32}  {x0 : Int32} (hM : MC G p s m args c cX13_bits w_X13_bits RX13) (hml : c.maxLocals = 3) (hr : meth.sig.returnType = (some .int)) (hlk : meth.locks = false)  (hf : f_X13_bits_0 fu   x0 = some z) : ∀ (H : Heap) (locs : List Loc), WB G S s H locs → ∀ (ls : Array Slot), lv_has ls 3 [(0, .int x0)] → W p l e RM_X13_bits s m args below meth c H locs 0 0 (QR G below args s (some (.int z)) S S) (F0 m 0 ls []) := by
  intro H locs hW ls hl
  have hx := hM.1
  have hb := hM.2.1
  refine lv_iconst (v := (0 : Int32)) hx hb dX13_bits_0 (by decide) ?_
  refine lv_istore_n (lv' := [(1, .int (0 : Int32)), (0, .int x0)]) hx hb dX13_bits_1 rfl hl (by decide) rfl (fun ls hl => ?_)
  refine lv_iconst (v := (0 : Int32)) hx hb dX13_bits_2 (by decide) ?_
  refine lv_istore_n (lv' := [(2, .int (0 : Int32)), (1, .int (0 : Int32)), (0, .int x0)]) hx hb dX13_bits_3 rfl hl (by decide) rfl (fun ls hl => ?_)
  exact t_X13_bits_4 (fu := fu) hM hml hr hlk _ _ hf _ _ hW _ (lv_sub hl [2, 1, 0] rfl)
noncomputable def f_X13_bits (fu : Nat) (x0 : Int32) : Option (Int32) := f_X13_bits_0 fu x0
set_option maxHeartbeats 4000000 in
set_option maxRecDepth 100000 in
theorem c_X13_bits (l : Launch) (G : GG) (fu : Nat) (S : ST) (x0 : Int32) {z : Int32} (hf : f_X13_bits fu x0 = some z) : Ct l yX13_bits w_X13_bits RM_X13_bits G S [.int x0] (some (.int z)) S 0 0 := by
  refine Met.ofW (cc := cX13_bits) (maxL := 3) (ret := (some .int)) (by decide) rfl ?_
  intro p e s m args below meth c s₁ B hml hv
  obtain ⟨rfl, hB, hK, hz⟩ := hv
  have hM : MC G p s m _ c cX13_bits w_X13_bits RX13 := ⟨B.exec, B.bytes, findClass_of_methodNamed B.named, atoms_spec (ws := w_X13_bits) B.pre, hK, hz⟩
  have hW : WB G S s s.heap [] := ⟨hB, va_S.rf⟩
  have hl := lv_entry ([.int x0]) (n := 3) (Nat.le_of_ble_eq_true rfl)
  rw [lg_entry_eq]
  generalize (lg_sl ([.int x0]) ++ List.replicate (3 - (lg_sl ([.int x0])).length) Slot.unset).toArray = ls at hl ⊢
  have hl : lv_has ls 3 [(0, .int x0)] := hl
  exact t_X13_bits_0 hM hml B.returns B.notSynchronized hf _ _ hW _ (lv_sub hl [0] rfl)
abbrev w_X13_hanging : List Cond := Cond.code yX13_hanging cX13_hanging 4 (some .int) :: wsL_law0
abbrev RM_X13_hanging : Room := { frames := 0, cells := 0, slots := 0, locals := 0 }
noncomputable def f_X13_hanging_36 (fu : Nat) (k4 : Int32 → Int32 → Option (Int32)) (v : GV) (x1 : Int32) (x3 : Int32) (t0 : Int32) : Option (Int32) :=
  nm (x3 + (1 : Int32)) fun y1 =>
  k4 t0 y1
set_option maxHeartbeats 4000000 in
set_option maxRecDepth 100000 in
theorem t_X13_hanging_36 {G : GG} {p : Program} {l : Launch} {e : Env} {s : State} {m : MethodId} {args : Array Value} {below : List Frame} {meth : Method} {c : Code} {S : ST} {fu : Nat} {z : Int32} {a : Nat} {v : GV} {k4 : Int32 → Int32 → Option (Int32)} {x1 : Int32} {x3 : Int32} {t0 : Int32} (hM : MC G p s m args c cX13_hanging w_X13_hanging RX13) (hml : c.maxLocals = 4) (hr : meth.sig.returnType = (some .int)) (hlk : meth.locks = false) (hc0 : gC v = 12) (hk4 : ∀ (x2 : Int32) (x3 : Int32), k4 x2 x3 = some z → ∀ (H : Heap) (locs : List Loc), WB G (st S a v) s H locs → ∀ (ls : Array Slot), lv_has ls 4 [(0, .ref a), (1, .int x1), (2, .int x2), (3, .int x3)] → W p l e RM_X13_hanging s m args below meth c H locs 0 0 (QR G below args s (some (.int z)) (st S a v) (st S a v)) (F0 m 4 ls [])) (hf : f_X13_hanging_36 fu k4 v x1 x3 t0 = some z) : ∀ (H : Heap) (locs : List Loc), WB G (st S a v) s H locs → ∀ (ls : Array Slot), lv_has ls 4 [(0, .ref a), (1, .int x1), (3, .int x3)] → W p l e RM_X13_hanging s m args below meth c H locs 0 0 (QR G below args s (some (.int z)) (st S a v) (st S a v)) (F0 m 36 ls [.int t0]) := by
  intro H locs hW ls hl
  have hx := hM.1
  have hb := hM.2.1
  have hc := hc0
  refine lv_istore_n (lv' := [(2, .int t0), (0, .ref a), (1, .int x1), (3, .int x3)]) hx hb dX13_hanging_36 rfl hl (by decide) rfl (fun ls hl => ?_)
  obtain ⟨y1, ey1⟩ : ∃ y : Int32, y = x3 + (1 : Int32) := ⟨_, rfl⟩
  have hf := nm_at ey1 hf
  refine lv_iinc (v := y1) (lv' := [(3, .int y1), (2, .int t0), (0, .ref a), (1, .int x1)]) hx hb dX13_hanging_37 hl (k := 3) rfl (by rw [ey1]; rfl) (by decide) rfl (fun ls hl => ?_)
  refine lv_goto (tgt := 4) hx hb dX13_hanging_40 (by decide) ?_
  exact hk4 _ _ hf _ _ hW _ (lv_sub hl [2, 3, 1, 0] rfl)
noncomputable def f_X13_hanging_4s (fu : Nat)  (k4 : Int32 → Int32 → Option (Int32)) (v : GV) (x1 : Int32) (x2 : Int32) (x3 : Int32) : Option (Int32) :=
  nm ((x1 + (2 : Int32))) fun y1 =>
  ck (inb y1 1518) <|
  if (gA v 24 y1.toNatClampNeg) ≤ x3 then
    (some x2)
  else
    (nm (((x1 + (11 : Int32)) + x3)) fun y4 =>
    ck (inb y4 1518) <|
    if (gA v 24 y4.toNatClampNeg) = (5 : Int32) then
      (f_X13_hanging_36 fu k4 v x1 x3 x3)
    else
      (f_X13_hanging_36 fu k4 v x1 x3 x2))
noncomputable def f_X13_hanging_4 (fu n : Nat)  (v : GV) (x1 : Int32) : Int32 → Int32 → Option (Int32) :=
  lq_2 (fun k4 => f_X13_hanging_4s fu  k4 v x1) n
set_option maxHeartbeats 4000000 in
set_option maxRecDepth 100000 in
theorem t_X13_hanging_4s {G : GG} {p : Program} {l : Launch} {e : Env} {s : State} {m : MethodId} {args : Array Value} {below : List Frame} {meth : Method} {c : Code} {S : ST} {fu : Nat} {z : Int32} {a : Nat} {v : GV}  (hM : MC G p s m args c cX13_hanging w_X13_hanging RX13) (hml : c.maxLocals = 4) (hr : meth.sig.returnType = (some .int)) (hlk : meth.locks = false) (hc0 : gC v = 12) {k4 : Int32 → Int32 → Option (Int32)} {x1 : Int32}  (hk4 : ∀ (x2 : Int32) (x3 : Int32), k4 x2 x3 = some z → ∀ (H : Heap) (locs : List Loc), WB G (st S a v) s H locs → ∀ (ls : Array Slot), lv_has ls 4 [(0, .ref a), (1, .int x1), (2, .int x2), (3, .int x3)] → W p l e RM_X13_hanging s m args below meth c H locs 0 0 (QR G below args s (some (.int z)) (st S a v) (st S a v)) (F0 m 4 ls [])) : ∀ (x2 : Int32) (x3 : Int32), f_X13_hanging_4s fu  k4 v x1 x2 x3 = some z → ∀ (H : Heap) (locs : List Loc), WB G (st S a v) s H locs → ∀ (ls : Array Slot), lv_has ls 4 [(0, .ref a), (1, .int x1), (2, .int x2), (3, .int x3)] → W p l e RM_X13_hanging s m args below meth c H locs 0 0 (QR G below args s (some (.int z)) (st S a v) (st S a v)) (F0 m 4 ls []) := by
  intro x2 x3 hf H locs hW ls hl
  have hx := hM.1
  have hb := hM.2.1
  have hc := hc0
  refine lv_iload_n hx hb dX13_hanging_4 rfl (lv_at hl 3 rfl) ?_
  refine lv_aload_n hx hb dX13_hanging_5 rfl (lv_at hl 0 rfl) ?_
  refine b_get hM hW 11 24 hc rfl rfl (by decide) wi_X13 (wgm fk_RX13_125) (x := .ref (a + 16)) rfl dX13_hanging_6 ?_
  refine lv_iload_n hx hb dX13_hanging_9 rfl (lv_at hl 1 rfl) ?_
  refine lv_iconst (v := (2 : Int32)) hx hb dX13_hanging_10 (by decide) ?_
  refine lv_iadd hx hb dX13_hanging_11 ?_
  refine lv_topi (fun y1 ey1 => ?_)
  have hf := nm_at ey1 hf
  obtain ⟨h2, hf⟩ := ck_elim hf
  refine b_iald (n := 1518) hM hW 11 24 hc (by decide) rfl rfl rfl rfl h2 dX13_hanging_12 ?_
  refine lv_icmp_ge (tgt := 43) hx hb dX13_hanging_13 (by decide) (fun c3 => ?_) (fun c3 => ?_)
  · have hf := if_t c3 hf
    refine lv_iload_n hx hb dX13_hanging_43 rfl (lv_at hl 2 rfl) ?_
    cases hf
    exact W.iret hx hb hr (b_ret0 hW (fun _ _ => rfl) _) hW.2.2.2 dX13_hanging_44 hlk
  · have hf := if_f c3 hf
    refine lv_aload_n hx hb dX13_hanging_16 rfl (lv_at hl 0 rfl) ?_
    refine b_get hM hW 11 24 hc rfl rfl (by decide) wi_X13 (wgm fk_RX13_125) (x := .ref (a + 16)) rfl dX13_hanging_17 ?_
    refine lv_iload_n hx hb dX13_hanging_20 rfl (lv_at hl 1 rfl) ?_
    refine lv_bipush (v := (11 : Int32)) hx hb dX13_hanging_21 (by decide) ?_
    refine lv_iadd hx hb dX13_hanging_23 ?_
    refine lv_iload_n hx hb dX13_hanging_24 rfl (lv_at hl 3 rfl) ?_
    refine lv_iadd hx hb dX13_hanging_25 ?_
    refine lv_topi (fun y4 ey4 => ?_)
    have hf := nm_at ey4 hf
    obtain ⟨h5, hf⟩ := ck_elim hf
    refine b_iald (n := 1518) hM hW 11 24 hc (by decide) rfl rfl rfl rfl h5 dX13_hanging_26 ?_
    refine lv_iconst (v := (5 : Int32)) hx hb dX13_hanging_27 (by decide) ?_
    refine lv_icmp_ne (tgt := 35) hx hb dX13_hanging_28 (by decide) (fun c6 => ?_) (fun c6 => ?_)
    · have hf := if_f c6 hf
      refine lv_iload_n hx hb dX13_hanging_35 rfl (lv_at hl 2 rfl) ?_
      exact t_X13_hanging_36 (fu := fu) hM hml hr hlk hc0 hk4 hf _ _ hW _ (lv_sub hl [0, 1, 3] rfl)
    · have hf := if_t c6 hf
      refine lv_iload_n hx hb dX13_hanging_31 rfl (lv_at hl 3 rfl) ?_
      refine lv_goto (tgt := 36) hx hb dX13_hanging_32 (by decide) ?_
      exact t_X13_hanging_36 (fu := fu) hM hml hr hlk hc0 hk4 hf _ _ hW _ (lv_sub hl [0, 1, 3] rfl)
theorem t_X13_hanging_4 {G : GG} {p : Program} {l : Launch} {e : Env} {s : State} {m : MethodId} {args : Array Value} {below : List Frame} {meth : Method} {c : Code} {S : ST} {fu : Nat} {z : Int32} {a : Nat} {v : GV}  {x1 : Int32} (hM : MC G p s m args c cX13_hanging w_X13_hanging RX13) (hml : c.maxLocals = 4) (hr : meth.sig.returnType = (some .int)) (hlk : meth.locks = false) (hc0 : gC v = 12)  : ∀ {n : Nat} (x2 : Int32) (x3 : Int32), f_X13_hanging_4 fu n  v x1 x2 x3 = some z → ∀ (H : Heap) (locs : List Loc), WB G (st S a v) s H locs → ∀ (ls : Array Slot), lv_has ls 4 [(0, .ref a), (1, .int x1), (2, .int x2), (3, .int x3)] → W p l e RM_X13_hanging s m args below meth c H locs 0 0 (QR G below args s (some (.int z)) (st S a v) (st S a v)) (F0 m 4 ls []) := by
  intro n
  induction n with
  | zero => intro x2 x3 hf; cases hf
  | succ n ih => intro x2 x3 hf; exact t_X13_hanging_4s (fu := fu) hM hml hr hlk hc0  (k4 := f_X13_hanging_4 fu n  v x1) ih _ _ hf
noncomputable def f_X13_hanging_0 (fu : Nat)  (v : GV) (x1 : Int32) : Option (Int32) :=
  f_X13_hanging_4 fu fu v x1 (-1 : Int32) (0 : Int32)
set_option maxHeartbeats 4000000 in
set_option maxRecDepth 100000 in
theorem t_X13_hanging_0 {G : GG} {p : Program} {l : Launch} {e : Env} {s : State} {m : MethodId} {args : Array Value} {below : List Frame} {meth : Method} {c : Code} {S : ST} {fu : Nat} {z : Int32} {a : Nat} {v : GV}  {x1 : Int32} (hM : MC G p s m args c cX13_hanging w_X13_hanging RX13) (hml : c.maxLocals = 4) (hr : meth.sig.returnType = (some .int)) (hlk : meth.locks = false) (hc0 : gC v = 12)  (hf : f_X13_hanging_0 fu  v x1 = some z) : ∀ (H : Heap) (locs : List Loc), WB G (st S a v) s H locs → ∀ (ls : Array Slot), lv_has ls 4 [(0, .ref a), (1, .int x1)] → W p l e RM_X13_hanging s m args below meth c H locs 0 0 (QR G below args s (some (.int z)) (st S a v) (st S a v)) (F0 m 0 ls []) := by
  intro H locs hW ls hl
  have hx := hM.1
  have hb := hM.2.1
  have hc := hc0
  refine lv_iconst (v := (-1 : Int32)) hx hb dX13_hanging_0 (by decide) ?_
  refine lv_istore_n (lv' := [(2, .int (-1 : Int32)), (0, .ref a), (1, .int x1)]) hx hb dX13_hanging_1 rfl hl (by decide) rfl (fun ls hl => ?_)
  refine lv_iconst (v := (0 : Int32)) hx hb dX13_hanging_2 (by decide) ?_
  refine lv_istore_n (lv' := [(3, .int (0 : Int32)), (2, .int (-1 : Int32)), (0, .ref a), (1, .int x1)]) hx hb dX13_hanging_3 rfl hl (by decide) rfl (fun ls hl => ?_)
  exact t_X13_hanging_4 (fu := fu) hM hml hr hlk hc0 _ _ hf _ _ hW _ (lv_sub hl [2, 3, 1, 0] rfl)
noncomputable def f_X13_hanging (fu : Nat) (v : GV) (x1 : Int32) : Option (Int32) := f_X13_hanging_0 fu v x1
set_option maxHeartbeats 4000000 in
set_option maxRecDepth 100000 in
theorem c_X13_hanging (l : Launch) (G : GG) (fu : Nat) (S : ST) (a : Nat) (v : GV) (x1 : Int32) {z : Int32} (hc : gC v = 12) (hf : f_X13_hanging fu v x1 = some z) : Ct l yX13_hanging w_X13_hanging RM_X13_hanging G (st S a v) [.ref a, .int x1] (some (.int z)) (st S a v) 0 0 := by
  refine Met.ofW (cc := cX13_hanging) (maxL := 4) (ret := (some .int)) (by decide) rfl ?_
  intro p e s m args below meth c s₁ B hml hv
  obtain ⟨rfl, hB, hK, hz⟩ := hv
  have hM : MC G p s m _ c cX13_hanging w_X13_hanging RX13 := ⟨B.exec, B.bytes, findClass_of_methodNamed B.named, atoms_spec (ws := w_X13_hanging) B.pre, hK, hz⟩
  have hW : WB G (st S a v) s s.heap [] := ⟨hB, va_S.rf⟩
  have hl := lv_entry ([.ref a, .int x1]) (n := 4) (Nat.le_of_ble_eq_true rfl)
  rw [lg_entry_eq]
  generalize (lg_sl ([.ref a, .int x1]) ++ List.replicate (4 - (lg_sl ([.ref a, .int x1])).length) Slot.unset).toArray = ls at hl ⊢
  have hl : lv_has ls 4 [(0, .ref a), (1, .int x1)] := hl
  exact t_X13_hanging_0 hM hml B.returns B.notSynchronized hc hf _ _ hW _ (lv_sub hl [0, 1] rfl)
abbrev w_X13_worthOf : List Cond := Cond.code yX13_worthOf cX13_worthOf 4 (some .int) :: wsL_law0
abbrev RM_X13_worthOf : Room := { frames := 2, cells := 0, slots := 0, locals := 46 }
noncomputable def f_X13_worthOf_79 (fu : Nat)  (v : GV) (t0 : Int32) : Option (Int32 × GV) :=
  if 0 ≤ t0 then
    (if t0 ≤ (999 : Int32) then
      (some (t0, v))
    else
      (some ((999 : Int32), v)))
  else
    (some ((0 : Int32), v))
set_option maxHeartbeats 4000000 in
set_option maxRecDepth 100000 in
theorem t_X13_worthOf_79 {G : GG} {p : Program} {l : Launch} {e : Env} {s : State} {m : MethodId} {args : Array Value} {below : List Frame} {meth : Method} {c : Code} {S : ST} {fu : Nat} {z : Int32 × GV} {a : Nat} {v0 : GV}  {v : GV} {t0 : Int32} (hM : MC G p s m args c cX13_worthOf w_X13_worthOf RX13) (hml : c.maxLocals = 4) (hr : meth.sig.returnType = (some .int)) (hlk : meth.locks = false) (hc0 : gC v0 = 12)  (hf : f_X13_worthOf_79 fu  v t0 = some z) : gC v = 12 → ∀ (H : Heap) (locs : List Loc), WB G (st S a v) s H locs → ∀ (ls : Array Slot), lv_has ls 4 [] → W p l e RM_X13_worthOf s m args below meth c H locs 0 0 (QR G below args s (some (.int z.1)) (st S a v0) (st S a z.2)) (F0 m 79 ls [.int t0]) := by
  intro hc H locs hW ls hl
  have hx := hM.1
  have hb := hM.2.1
  refine lv_istore_n (lv' := [(3, .int t0)]) hx hb dX13_worthOf_79 rfl hl (by decide) rfl (fun ls hl => ?_)
  refine lv_iload_n hx hb dX13_worthOf_80 rfl (lv_at hl 0 rfl) ?_
  refine lv_if_ge (tgt := 88) hx hb dX13_worthOf_81 (by decide) (fun c1 => ?_) (fun c1 => ?_)
  · have hf := if_t c1 hf
    refine lv_iload_n hx hb dX13_worthOf_88 rfl (lv_at hl 0 rfl) ?_
    refine lv_sipush (v := (999 : Int32)) hx hb dX13_worthOf_89 (by decide) ?_
    refine lv_icmp_le (tgt := 101) hx hb dX13_worthOf_92 (by decide) (fun c2 => ?_) (fun c2 => ?_)
    · have hf := if_t c2 hf
      refine lv_iload_n hx hb dX13_worthOf_101 rfl (lv_at hl 0 rfl) ?_
      cases hf
      exact W.iret hx hb hr (b_ret0 hW (keep_s2 hc0 hc) _) hW.2.2.2 dX13_worthOf_102 hlk
    · have hf := if_f c2 hf
      refine lv_sipush (v := (999 : Int32)) hx hb dX13_worthOf_95 (by decide) ?_
      refine lv_goto (tgt := 102) hx hb dX13_worthOf_98 (by decide) ?_
      cases hf
      exact W.iret hx hb hr (b_ret0 hW (keep_s2 hc0 hc) _) hW.2.2.2 dX13_worthOf_102 hlk
  · have hf := if_f c1 hf
    refine lv_iconst (v := (0 : Int32)) hx hb dX13_worthOf_84 (by decide) ?_
    refine lv_goto (tgt := 102) hx hb dX13_worthOf_85 (by decide) ?_
    cases hf
    exact W.iret hx hb hr (b_ret0 hW (keep_s2 hc0 hc) _) hW.2.2.2 dX13_worthOf_102 hlk
noncomputable def f_X13_worthOf_0 (fu : Nat)  (v : GV) (x1 : Int32) (x2 : Int32) : Option (Int32 × GV) :=
  nm (((x1 + (3 : Int32)) + x2)) fun y1 =>
  ck (inb y1 1518) <|
  bd (f_X13_bits fu (gA v 24 y1.toNatClampNeg)) fun r3 =>
  nm (sA v 22 (0 : Int32).toNatClampNeg r3) fun v4 =>
  nm (sA v4 22 (1 : Int32).toNatClampNeg x2) fun v5 =>
  nm (((x1 + (19 : Int32)) + x2)) fun y6 =>
  ck (inb y6 1518) <|
  nm ((gA v5 24 y6.toNatClampNeg)) fun y8 =>
  nm (sA v5 22 (2 : Int32).toNatClampNeg y8) fun v9 =>
  if 0 ≤ (gA v9 10 (4 : Int32).toNatClampNeg) then
    (bd2 (f_X13_worthAt fu v9 (gA v9 10 (4 : Int32).toNatClampNeg)) fun r11 v12 =>
    f_X13_worthOf_79 fu v12 r11)
  else
    (f_X13_worthOf_79 fu v9 (((100 : Int32) - ((gA v9 22 (0 : Int32).toNatClampNeg) * (10 : Int32))) - x2))
set_option maxHeartbeats 4000000 in
set_option maxRecDepth 100000 in
theorem t_X13_worthOf_0 {G : GG} {p : Program} {l : Launch} {e : Env} {s : State} {m : MethodId} {args : Array Value} {below : List Frame} {meth : Method} {c : Code} {S : ST} {fu : Nat} {z : Int32 × GV} {a : Nat} {v0 : GV}  {v : GV} {x1 : Int32} {x2 : Int32} (hM : MC G p s m args c cX13_worthOf w_X13_worthOf RX13) (hml : c.maxLocals = 4) (hr : meth.sig.returnType = (some .int)) (hlk : meth.locks = false) (hc0 : gC v0 = 12)  (hf : f_X13_worthOf_0 fu  v x1 x2 = some z) : gC v = 12 → ∀ (H : Heap) (locs : List Loc), WB G (st S a v) s H locs → ∀ (ls : Array Slot), lv_has ls 4 [(0, .ref a), (1, .int x1), (2, .int x2)] → W p l e RM_X13_worthOf s m args below meth c H locs 0 0 (QR G below args s (some (.int z.1)) (st S a v0) (st S a z.2)) (F0 m 0 ls []) := by
  intro hc H locs hW ls hl
  have hx := hM.1
  have hb := hM.2.1
  refine lv_aload_n hx hb dX13_worthOf_0 rfl (lv_at hl 0 rfl) ?_
  refine b_get hM hW 11 22 hc rfl rfl (by decide) wi_X13 (wgm fk_RX13_119) (x := .ref (a + 14)) rfl dX13_worthOf_1 ?_
  refine lv_iconst (v := (0 : Int32)) hx hb dX13_worthOf_4 (by decide) ?_
  refine lv_aload_n hx hb dX13_worthOf_5 rfl (lv_at hl 0 rfl) ?_
  refine b_get hM hW 11 24 hc rfl rfl (by decide) wi_X13 (wgm fk_RX13_125) (x := .ref (a + 16)) rfl dX13_worthOf_6 ?_
  refine lv_iload_n hx hb dX13_worthOf_9 rfl (lv_at hl 1 rfl) ?_
  refine lv_iconst (v := (3 : Int32)) hx hb dX13_worthOf_10 (by decide) ?_
  refine lv_iadd hx hb dX13_worthOf_11 ?_
  refine lv_iload_n hx hb dX13_worthOf_12 rfl (lv_at hl 2 rfl) ?_
  refine lv_iadd hx hb dX13_worthOf_13 ?_
  refine lv_topi (fun y1 ey1 => ?_)
  have hf := nm_at ey1 hf
  obtain ⟨h2, hf⟩ := ck_elim hf
  refine b_iald (n := 1518) hM hW 11 24 hc (by decide) rfl rfl rfl rfl h2 dX13_worthOf_14 ?_
  obtain ⟨r3, hr3, hf⟩ := bd_elim hf
  refine b_callSi [.int (gA v 24 y1.toNatClampNeg)] [.int (0 : Int32), .ref (a + 14)] hM hml hl.1 hW (c_X13_bits l G fu _ _ hr3) (va_cwS 1 hM.2.2.2.1 (gS mk_RX13_339 sm_X13_bits it_RX13 cd_X13_bits) rfl rfl rfl (by decide +kernel) ⟨Nat.le_of_ble_eq_true rfl, Nat.le_of_ble_eq_true rfl⟩) rfl rfl (Nat.le_of_ble_eq_true rfl) ⟨Nat.zero_le _, Nat.zero_le _⟩ dX13_worthOf_15 (fun H locs hW hk => ?_)
  refine b_iast (n := 4) hM hW 11 22 hc (by decide) rfl rfl rfl rfl (by decide) dX13_worthOf_18 (fun v4 ev4 hc H locs hW => ?_)
  have hf := nm_at ev4 hf
  refine lv_aload_n hx hb dX13_worthOf_19 rfl (lv_at hl 0 rfl) ?_
  refine b_get hM hW 11 22 hc rfl rfl (by decide) wi_X13 (wgm fk_RX13_119) (x := .ref (a + 14)) rfl dX13_worthOf_20 ?_
  refine lv_iconst (v := (1 : Int32)) hx hb dX13_worthOf_23 (by decide) ?_
  refine lv_iload_n hx hb dX13_worthOf_24 rfl (lv_at hl 2 rfl) ?_
  refine b_iast (n := 4) hM hW 11 22 hc (by decide) rfl rfl rfl rfl (by decide) dX13_worthOf_25 (fun v5 ev5 hc H locs hW => ?_)
  have hf := nm_at ev5 hf
  refine lv_aload_n hx hb dX13_worthOf_26 rfl (lv_at hl 0 rfl) ?_
  refine b_get hM hW 11 22 hc rfl rfl (by decide) wi_X13 (wgm fk_RX13_119) (x := .ref (a + 14)) rfl dX13_worthOf_27 ?_
  refine lv_iconst (v := (2 : Int32)) hx hb dX13_worthOf_30 (by decide) ?_
  refine lv_aload_n hx hb dX13_worthOf_31 rfl (lv_at hl 0 rfl) ?_
  refine b_get hM hW 11 24 hc rfl rfl (by decide) wi_X13 (wgm fk_RX13_125) (x := .ref (a + 16)) rfl dX13_worthOf_32 ?_
  refine lv_iload_n hx hb dX13_worthOf_35 rfl (lv_at hl 1 rfl) ?_
  refine lv_bipush (v := (19 : Int32)) hx hb dX13_worthOf_36 (by decide) ?_
  refine lv_iadd hx hb dX13_worthOf_38 ?_
  refine lv_iload_n hx hb dX13_worthOf_39 rfl (lv_at hl 2 rfl) ?_
  refine lv_iadd hx hb dX13_worthOf_40 ?_
  refine lv_topi (fun y6 ey6 => ?_)
  have hf := nm_at ey6 hf
  obtain ⟨h7, hf⟩ := ck_elim hf
  refine b_iald (n := 1518) hM hW 11 24 hc (by decide) rfl rfl rfl rfl h7 dX13_worthOf_41 ?_
  refine lv_topi (fun y8 ey8 => ?_)
  have hf := nm_at ey8 hf
  refine b_iast (n := 4) hM hW 11 22 hc (by decide) rfl rfl rfl rfl (by decide) dX13_worthOf_42 (fun v9 ev9 hc H locs hW => ?_)
  have hf := nm_at ev9 hf
  refine lv_aload_n hx hb dX13_worthOf_43 rfl (lv_at hl 0 rfl) ?_
  refine b_get hM hW 11 10 hc rfl rfl (by decide) wi_X13 (wgm fk_RX13_95) (x := .ref (a + 6)) rfl dX13_worthOf_44 ?_
  refine lv_iconst (v := (4 : Int32)) hx hb dX13_worthOf_47 (by decide) ?_
  refine b_iald (n := 140) hM hW 11 10 hc (by decide) rfl rfl rfl rfl (by decide) dX13_worthOf_48 ?_
  refine lv_if_ge (tgt := 69) hx hb dX13_worthOf_49 (by decide) (fun c10 => ?_) (fun c10 => ?_)
  · have hf := if_t c10 hf
    refine lv_aload_n hx hb dX13_worthOf_69 rfl (lv_at hl 0 rfl) ?_
    refine lv_aload_n hx hb dX13_worthOf_70 rfl (lv_at hl 0 rfl) ?_
    refine b_get hM hW 11 10 hc rfl rfl (by decide) wi_X13 (wgm fk_RX13_95) (x := .ref (a + 6)) rfl dX13_worthOf_71 ?_
    refine lv_iconst (v := (4 : Int32)) hx hb dX13_worthOf_74 (by decide) ?_
    refine b_iald (n := 140) hM hW 11 10 hc (by decide) rfl rfl rfl rfl (by decide) dX13_worthOf_75 ?_
    obtain ⟨r11, v12, hr11, hf⟩ := bd2_elim hf
    refine b_callVi [.int (gA v9 10 (4 : Int32).toNatClampNeg)] [] hM hml hl.1 hW hc rfl (by decide) (c_X13_worthAt l G fu _ a v9 _ hc hr11) (cwV 1 hM.2.2.2.1 (gV mk_RX13_342 im_X13_worthAt se_X13_worthAt it_RX13 cd_X13_worthAt) rfl rfl rfl (by decide +kernel) ⟨Nat.le_of_ble_eq_true rfl, Nat.le_of_ble_eq_true rfl⟩) rfl rfl (Nat.le_of_ble_eq_true rfl) ⟨Nat.zero_le _, Nat.zero_le _⟩ dX13_worthOf_76 (fun H locs hW hk => ?_)
    have hc := keep_at hc hk
    exact t_X13_worthOf_79 (fu := fu) hM hml hr hlk hc0 hf hc _ _ hW _ (lv_sub hl [] rfl)
  · have hf := if_f c10 hf
    refine lv_bipush (v := (100 : Int32)) hx hb dX13_worthOf_52 (by decide) ?_
    refine lv_aload_n hx hb dX13_worthOf_54 rfl (lv_at hl 0 rfl) ?_
    refine b_get hM hW 11 22 hc rfl rfl (by decide) wi_X13 (wgm fk_RX13_119) (x := .ref (a + 14)) rfl dX13_worthOf_55 ?_
    refine lv_iconst (v := (0 : Int32)) hx hb dX13_worthOf_58 (by decide) ?_
    refine b_iald (n := 4) hM hW 11 22 hc (by decide) rfl rfl rfl rfl (by decide) dX13_worthOf_59 ?_
    refine lv_bipush (v := (10 : Int32)) hx hb dX13_worthOf_60 (by decide) ?_
    refine lv_imul hx hb dX13_worthOf_62 ?_
    refine lv_isub hx hb dX13_worthOf_63 ?_
    refine lv_iload_n hx hb dX13_worthOf_64 rfl (lv_at hl 2 rfl) ?_
    refine lv_isub hx hb dX13_worthOf_65 ?_
    refine lv_goto (tgt := 79) hx hb dX13_worthOf_66 (by decide) ?_
    exact t_X13_worthOf_79 (fu := fu) hM hml hr hlk hc0 hf hc _ _ hW _ (lv_sub hl [] rfl)
noncomputable def f_X13_worthOf (fu : Nat) (v : GV) (x1 : Int32) (x2 : Int32) : Option (Int32 × GV) := f_X13_worthOf_0 fu v x1 x2
set_option maxHeartbeats 4000000 in
set_option maxRecDepth 100000 in
theorem c_X13_worthOf (l : Launch) (G : GG) (fu : Nat) (S : ST) (a : Nat) (v : GV) (x1 : Int32) (x2 : Int32) {z : Int32} {w : GV} (hc : gC v = 12) (hf : f_X13_worthOf fu v x1 x2 = some (z, w)) : Ct l yX13_worthOf w_X13_worthOf RM_X13_worthOf G (st S a v) [.ref a, .int x1, .int x2] (some (.int z)) (st S a w) 0 0 := by
  refine Met.ofW (cc := cX13_worthOf) (maxL := 4) (ret := (some .int)) (by decide) rfl ?_
  intro p e s m args below meth c s₁ B hml hv
  obtain ⟨rfl, hB, hK, hz⟩ := hv
  have hM : MC G p s m _ c cX13_worthOf w_X13_worthOf RX13 := ⟨B.exec, B.bytes, findClass_of_methodNamed B.named, atoms_spec (ws := w_X13_worthOf) B.pre, hK, hz⟩
  have hW : WB G (st S a v) s s.heap [] := ⟨hB, va_S.rf⟩
  have hl := lv_entry ([.ref a, .int x1, .int x2]) (n := 4) (Nat.le_of_ble_eq_true rfl)
  rw [lg_entry_eq]
  generalize (lg_sl ([.ref a, .int x1, .int x2]) ++ List.replicate (4 - (lg_sl ([.ref a, .int x1, .int x2])).length) Slot.unset).toArray = ls at hl ⊢
  have hl : lv_has ls 4 [(0, .ref a), (1, .int x1), (2, .int x2)] := hl
  exact t_X13_worthOf_0 hM hml B.returns B.notSynchronized hc hf hc _ _ hW _ (lv_sub hl [0, 1, 2] rfl)
abbrev w_X13_hardOf : List Cond := Cond.code yX13_hardOf cX13_hardOf 4 (some .int) :: wsL_law0
abbrev RM_X13_hardOf : Room := { frames := 2, cells := 0, slots := 0, locals := 46 }
noncomputable def f_X13_hardOf_0 (fu : Nat)  (v : GV) (x1 : Int32) (x2 : Int32) (x3 : Int32) : Option (Int32 × GV) :=
  nm (((x1 + (3 : Int32)) + x2)) fun y1 =>
  ck (inb y1 1518) <|
  bd (f_X13_bits fu (gA v 24 y1.toNatClampNeg)) fun r3 =>
  nm (sA v 22 (0 : Int32).toNatClampNeg r3) fun v4 =>
  nm (sA v4 22 (1 : Int32).toNatClampNeg x2) fun v5 =>
  nm (sA v5 22 (3 : Int32).toNatClampNeg x3) fun v6 =>
  if 0 ≤ (gA v6 10 (5 : Int32).toNatClampNeg) then
    (bd2 (f_X13_worthAt fu v6 (gA v6 10 (5 : Int32).toNatClampNeg)) fun r8 v9 =>
    some (r8, v9))
  else
    (some (((gA v6 22 (0 : Int32).toNatClampNeg) + x3), v6))
set_option maxHeartbeats 4000000 in
set_option maxRecDepth 100000 in
theorem t_X13_hardOf_0 {G : GG} {p : Program} {l : Launch} {e : Env} {s : State} {m : MethodId} {args : Array Value} {below : List Frame} {meth : Method} {c : Code} {S : ST} {fu : Nat} {z : Int32 × GV} {a : Nat} {v0 : GV}  {v : GV} {x1 : Int32} {x2 : Int32} {x3 : Int32} (hM : MC G p s m args c cX13_hardOf w_X13_hardOf RX13) (hml : c.maxLocals = 4) (hr : meth.sig.returnType = (some .int)) (hlk : meth.locks = false) (hc0 : gC v0 = 12)  (hf : f_X13_hardOf_0 fu  v x1 x2 x3 = some z) : gC v = 12 → ∀ (H : Heap) (locs : List Loc), WB G (st S a v) s H locs → ∀ (ls : Array Slot), lv_has ls 4 [(0, .ref a), (1, .int x1), (2, .int x2), (3, .int x3)] → W p l e RM_X13_hardOf s m args below meth c H locs 0 0 (QR G below args s (some (.int z.1)) (st S a v0) (st S a z.2)) (F0 m 0 ls []) := by
  intro hc H locs hW ls hl
  have hx := hM.1
  have hb := hM.2.1
  refine lv_aload_n hx hb dX13_hardOf_0 rfl (lv_at hl 0 rfl) ?_
  refine b_get hM hW 11 22 hc rfl rfl (by decide) wi_X13 (wgm fk_RX13_119) (x := .ref (a + 14)) rfl dX13_hardOf_1 ?_
  refine lv_iconst (v := (0 : Int32)) hx hb dX13_hardOf_4 (by decide) ?_
  refine lv_aload_n hx hb dX13_hardOf_5 rfl (lv_at hl 0 rfl) ?_
  refine b_get hM hW 11 24 hc rfl rfl (by decide) wi_X13 (wgm fk_RX13_125) (x := .ref (a + 16)) rfl dX13_hardOf_6 ?_
  refine lv_iload_n hx hb dX13_hardOf_9 rfl (lv_at hl 1 rfl) ?_
  refine lv_iconst (v := (3 : Int32)) hx hb dX13_hardOf_10 (by decide) ?_
  refine lv_iadd hx hb dX13_hardOf_11 ?_
  refine lv_iload_n hx hb dX13_hardOf_12 rfl (lv_at hl 2 rfl) ?_
  refine lv_iadd hx hb dX13_hardOf_13 ?_
  refine lv_topi (fun y1 ey1 => ?_)
  have hf := nm_at ey1 hf
  obtain ⟨h2, hf⟩ := ck_elim hf
  refine b_iald (n := 1518) hM hW 11 24 hc (by decide) rfl rfl rfl rfl h2 dX13_hardOf_14 ?_
  obtain ⟨r3, hr3, hf⟩ := bd_elim hf
  refine b_callSi [.int (gA v 24 y1.toNatClampNeg)] [.int (0 : Int32), .ref (a + 14)] hM hml hl.1 hW (c_X13_bits l G fu _ _ hr3) (va_cwS 1 hM.2.2.2.1 (gS mk_RX13_339 sm_X13_bits it_RX13 cd_X13_bits) rfl rfl rfl (by decide +kernel) ⟨Nat.le_of_ble_eq_true rfl, Nat.le_of_ble_eq_true rfl⟩) rfl rfl (Nat.le_of_ble_eq_true rfl) ⟨Nat.zero_le _, Nat.zero_le _⟩ dX13_hardOf_15 (fun H locs hW hk => ?_)
  refine b_iast (n := 4) hM hW 11 22 hc (by decide) rfl rfl rfl rfl (by decide) dX13_hardOf_18 (fun v4 ev4 hc H locs hW => ?_)
  have hf := nm_at ev4 hf
  refine lv_aload_n hx hb dX13_hardOf_19 rfl (lv_at hl 0 rfl) ?_
  refine b_get hM hW 11 22 hc rfl rfl (by decide) wi_X13 (wgm fk_RX13_119) (x := .ref (a + 14)) rfl dX13_hardOf_20 ?_
  refine lv_iconst (v := (1 : Int32)) hx hb dX13_hardOf_23 (by decide) ?_
  refine lv_iload_n hx hb dX13_hardOf_24 rfl (lv_at hl 2 rfl) ?_
  refine b_iast (n := 4) hM hW 11 22 hc (by decide) rfl rfl rfl rfl (by decide) dX13_hardOf_25 (fun v5 ev5 hc H locs hW => ?_)
  have hf := nm_at ev5 hf
  refine lv_aload_n hx hb dX13_hardOf_26 rfl (lv_at hl 0 rfl) ?_
  refine b_get hM hW 11 22 hc rfl rfl (by decide) wi_X13 (wgm fk_RX13_119) (x := .ref (a + 14)) rfl dX13_hardOf_27 ?_
  refine lv_iconst (v := (3 : Int32)) hx hb dX13_hardOf_30 (by decide) ?_
  refine lv_iload_n hx hb dX13_hardOf_31 rfl (lv_at hl 3 rfl) ?_
  refine b_iast (n := 4) hM hW 11 22 hc (by decide) rfl rfl rfl rfl (by decide) dX13_hardOf_32 (fun v6 ev6 hc H locs hW => ?_)
  have hf := nm_at ev6 hf
  refine lv_aload_n hx hb dX13_hardOf_33 rfl (lv_at hl 0 rfl) ?_
  refine b_get hM hW 11 10 hc rfl rfl (by decide) wi_X13 (wgm fk_RX13_95) (x := .ref (a + 6)) rfl dX13_hardOf_34 ?_
  refine lv_iconst (v := (5 : Int32)) hx hb dX13_hardOf_37 (by decide) ?_
  refine b_iald (n := 140) hM hW 11 10 hc (by decide) rfl rfl rfl rfl (by decide) dX13_hardOf_38 ?_
  refine lv_if_ge (tgt := 53) hx hb dX13_hardOf_39 (by decide) (fun c7 => ?_) (fun c7 => ?_)
  · have hf := if_t c7 hf
    refine lv_aload_n hx hb dX13_hardOf_53 rfl (lv_at hl 0 rfl) ?_
    refine lv_aload_n hx hb dX13_hardOf_54 rfl (lv_at hl 0 rfl) ?_
    refine b_get hM hW 11 10 hc rfl rfl (by decide) wi_X13 (wgm fk_RX13_95) (x := .ref (a + 6)) rfl dX13_hardOf_55 ?_
    refine lv_iconst (v := (5 : Int32)) hx hb dX13_hardOf_58 (by decide) ?_
    refine b_iald (n := 140) hM hW 11 10 hc (by decide) rfl rfl rfl rfl (by decide) dX13_hardOf_59 ?_
    obtain ⟨r8, v9, hr8, hf⟩ := bd2_elim hf
    refine b_callVi [.int (gA v6 10 (5 : Int32).toNatClampNeg)] [] hM hml hl.1 hW hc rfl (by decide) (c_X13_worthAt l G fu _ a v6 _ hc hr8) (cwV 1 hM.2.2.2.1 (gV mk_RX13_342 im_X13_worthAt se_X13_worthAt it_RX13 cd_X13_worthAt) rfl rfl rfl (by decide +kernel) ⟨Nat.le_of_ble_eq_true rfl, Nat.le_of_ble_eq_true rfl⟩) rfl rfl (Nat.le_of_ble_eq_true rfl) ⟨Nat.zero_le _, Nat.zero_le _⟩ dX13_hardOf_60 (fun H locs hW hk => ?_)
    have hc := keep_at hc hk
    cases hf
    exact W.iret hx hb hr (b_ret0 hW (keep_s2 hc0 hc) _) hW.2.2.2 dX13_hardOf_63 hlk
  · have hf := if_f c7 hf
    refine lv_aload_n hx hb dX13_hardOf_42 rfl (lv_at hl 0 rfl) ?_
    refine b_get hM hW 11 22 hc rfl rfl (by decide) wi_X13 (wgm fk_RX13_119) (x := .ref (a + 14)) rfl dX13_hardOf_43 ?_
    refine lv_iconst (v := (0 : Int32)) hx hb dX13_hardOf_46 (by decide) ?_
    refine b_iald (n := 4) hM hW 11 22 hc (by decide) rfl rfl rfl rfl (by decide) dX13_hardOf_47 ?_
    refine lv_iload_n hx hb dX13_hardOf_48 rfl (lv_at hl 3 rfl) ?_
    refine lv_iadd hx hb dX13_hardOf_49 ?_
    refine lv_goto (tgt := 63) hx hb dX13_hardOf_50 (by decide) ?_
    cases hf
    exact W.iret hx hb hr (b_ret0 hW (keep_s2 hc0 hc) _) hW.2.2.2 dX13_hardOf_63 hlk
noncomputable def f_X13_hardOf (fu : Nat) (v : GV) (x1 : Int32) (x2 : Int32) (x3 : Int32) : Option (Int32 × GV) := f_X13_hardOf_0 fu v x1 x2 x3
set_option maxHeartbeats 4000000 in
set_option maxRecDepth 100000 in
theorem c_X13_hardOf (l : Launch) (G : GG) (fu : Nat) (S : ST) (a : Nat) (v : GV) (x1 : Int32) (x2 : Int32) (x3 : Int32) {z : Int32} {w : GV} (hc : gC v = 12) (hf : f_X13_hardOf fu v x1 x2 x3 = some (z, w)) : Ct l yX13_hardOf w_X13_hardOf RM_X13_hardOf G (st S a v) [.ref a, .int x1, .int x2, .int x3] (some (.int z)) (st S a w) 0 0 := by
  refine Met.ofW (cc := cX13_hardOf) (maxL := 4) (ret := (some .int)) (by decide) rfl ?_
  intro p e s m args below meth c s₁ B hml hv
  obtain ⟨rfl, hB, hK, hz⟩ := hv
  have hM : MC G p s m _ c cX13_hardOf w_X13_hardOf RX13 := ⟨B.exec, B.bytes, findClass_of_methodNamed B.named, atoms_spec (ws := w_X13_hardOf) B.pre, hK, hz⟩
  have hW : WB G (st S a v) s s.heap [] := ⟨hB, va_S.rf⟩
  have hl := lv_entry ([.ref a, .int x1, .int x2, .int x3]) (n := 4) (Nat.le_of_ble_eq_true rfl)
  rw [lg_entry_eq]
  generalize (lg_sl ([.ref a, .int x1, .int x2, .int x3]) ++ List.replicate (4 - (lg_sl ([.ref a, .int x1, .int x2, .int x3])).length) Slot.unset).toArray = ls at hl ⊢
  have hl : lv_has ls 4 [(0, .ref a), (1, .int x1), (2, .int x2), (3, .int x3)] := hl
  exact t_X13_hardOf_0 hM hml B.returns B.notSynchronized hc hf hc _ _ hW _ (lv_sub hl [0, 1, 2, 3] rfl)
abbrev w_X13_piece : List Cond := Cond.code yX13_piece cX13_piece 3 (some .int) :: wsL_law0
abbrev RM_X13_piece : Room := { frames := 3, cells := 0, slots := 0, locals := 69 }
noncomputable def f_X13_piece_23 (fu : Nat)  (v : GV) : Option (Int32 × GV) :=
  some ((-1 : Int32), v)
set_option maxHeartbeats 4000000 in
set_option maxRecDepth 100000 in
theorem t_X13_piece_23 {G : GG} {p : Program} {l : Launch} {e : Env} {s : State} {m : MethodId} {args : Array Value} {below : List Frame} {meth : Method} {c : Code} {S : ST} {fu : Nat} {z : Int32 × GV} {a : Nat} {v0 : GV}  {v : GV} (hM : MC G p s m args c cX13_piece w_X13_piece RX13) (hml : c.maxLocals = 3) (hr : meth.sig.returnType = (some .int)) (hlk : meth.locks = false) (hc0 : gC v0 = 12)  (hf : f_X13_piece_23 fu  v  = some z) : gC v = 12 → ∀ (H : Heap) (locs : List Loc), WB G (st S a v) s H locs → ∀ (ls : Array Slot), lv_has ls 3 [] → W p l e RM_X13_piece s m args below meth c H locs 0 0 (QR G below args s (some (.int z.1)) (st S a v0) (st S a z.2)) (F0 m 23 ls []) := by
  intro hc H locs hW ls hl
  have hx := hM.1
  have hb := hM.2.1
  refine lv_iconst (v := (-1 : Int32)) hx hb dX13_piece_23 (by decide) ?_
  cases hf
  exact W.iret hx hb hr (b_ret0 hW (keep_s2 hc0 hc) _) hW.2.2.2 dX13_piece_24 hlk
noncomputable def f_X13_piece_0 (fu : Nat)  (v : GV) (x1 : Int32) (x2 : Int32) : Option (Int32 × GV) :=
  nm (sI v 0 (0 : Int32)) fun v1 =>
  bd (f_X13_isPiece fu v1 (0 : Int32) x1) fun r2 =>
  if r2 = 0 then
    (f_X13_piece_23 fu v1)
  else
    (bd (f_X13_within fu x2 (0 : Int32) (4 : Int32)) fun r4 =>
    if r4 = 0 then
      (f_X13_piece_23 fu v1)
    else
      (if x2 = (0 : Int32) then
        (nm (((3 : Int32) + x1)) fun y7 =>
        ck (inb y7 1518) <|
        some ((gA v1 24 y7.toNatClampNeg), v1))
      else
      if x2 = (1 : Int32) then
        (nm (((11 : Int32) + x1)) fun y10 =>
        ck (inb y10 1518) <|
        some ((gA v1 24 y10.toNatClampNeg), v1))
      else
      if x2 = (2 : Int32) then
        (nm (((27 : Int32) + x1)) fun y13 =>
        ck (inb y13 1518) <|
        some ((gA v1 24 y13.toNatClampNeg), v1))
      else
      if x2 = (3 : Int32) then
        (nm (((19 : Int32) + x1)) fun y16 =>
        ck (inb y16 1518) <|
        some ((gA v1 24 y16.toNatClampNeg), v1))
      else
      (bd2 (f_X13_worthOf fu v1 (0 : Int32) x1) fun r18 v19 =>
      some (r18, v19))))
set_option maxHeartbeats 4000000 in
set_option maxRecDepth 100000 in
theorem t_X13_piece_0 {G : GG} {p : Program} {l : Launch} {e : Env} {s : State} {m : MethodId} {args : Array Value} {below : List Frame} {meth : Method} {c : Code} {S : ST} {fu : Nat} {z : Int32 × GV} {a : Nat} {v0 : GV}  {v : GV} {x1 : Int32} {x2 : Int32} (hM : MC G p s m args c cX13_piece w_X13_piece RX13) (hml : c.maxLocals = 3) (hr : meth.sig.returnType = (some .int)) (hlk : meth.locks = false) (hc0 : gC v0 = 12)  (hf : f_X13_piece_0 fu  v x1 x2 = some z) : gC v = 12 → ∀ (H : Heap) (locs : List Loc), WB G (st S a v) s H locs → ∀ (ls : Array Slot), lv_has ls 3 [(0, .ref a), (1, .int x1), (2, .int x2)] → W p l e RM_X13_piece s m args below meth c H locs 0 0 (QR G below args s (some (.int z.1)) (st S a v0) (st S a z.2)) (F0 m 0 ls []) := by
  intro hc H locs hW ls hl
  have hx := hM.1
  have hb := hM.2.1
  refine lv_aload_n hx hb dX13_piece_0 rfl (lv_at hl 0 rfl) ?_
  refine lv_iconst (v := (0 : Int32)) hx hb dX13_piece_1 (by decide) ?_
  refine b_putI hM hW 11 0 hc rfl rfl (by decide) wi_X13 tyX13 tyX13_ok nmX13 (wgm fk_RX13_1) rfl rfl rfl dX13_piece_2 (fun v1 ev1 hc H locs hW => ?_)
  have hf := nm_at ev1 hf
  refine lv_aload_n hx hb dX13_piece_5 rfl (lv_at hl 0 rfl) ?_
  refine lv_iconst (v := (0 : Int32)) hx hb dX13_piece_6 (by decide) ?_
  refine lv_iload_n hx hb dX13_piece_7 rfl (lv_at hl 1 rfl) ?_
  obtain ⟨r2, hr2, hf⟩ := bd_elim hf
  refine b_callVi [.int (0 : Int32), .int x1] [] hM hml hl.1 hW hc rfl (by decide) (c_X13_isPiece l G fu _ a v1 _ _ hc hr2) (cwV 2 hM.2.2.2.1 (gV mk_RX13_345 im_X13_isPiece se_X13_isPiece it_RX13 cd_X13_isPiece) rfl rfl rfl (by decide +kernel) ⟨Nat.le_of_ble_eq_true rfl, Nat.le_of_ble_eq_true rfl⟩) rfl rfl (Nat.le_of_ble_eq_true rfl) ⟨Nat.zero_le _, Nat.zero_le _⟩ dX13_piece_8 (fun H locs hW hk => ?_)
  refine lv_if_eq (tgt := 23) hx hb dX13_piece_11 (by decide) (fun c3 => ?_) (fun c3 => ?_)
  · have hf := if_t c3 hf
    exact t_X13_piece_23 (fu := fu) hM hml hr hlk hc0 hf hc _ _ hW _ (lv_sub hl [] rfl)
  · have hf := if_f c3 hf
    refine lv_iload_n hx hb dX13_piece_14 rfl (lv_at hl 2 rfl) ?_
    refine lv_iconst (v := (0 : Int32)) hx hb dX13_piece_15 (by decide) ?_
    refine lv_iconst (v := (4 : Int32)) hx hb dX13_piece_16 (by decide) ?_
    obtain ⟨r4, hr4, hf⟩ := bd_elim hf
    refine b_callSi [.int x2, .int (0 : Int32), .int (4 : Int32)] [] hM hml hl.1 hW (c_X13_within l G fu _ _ _ _ hr4) (va_cwS 3 hM.2.2.2.1 (gS mk_RX13_231 sm_X13_within it_RX13 cd_X13_within) rfl rfl rfl (by decide +kernel) ⟨Nat.le_of_ble_eq_true rfl, Nat.le_of_ble_eq_true rfl⟩) rfl rfl (Nat.le_of_ble_eq_true rfl) ⟨Nat.zero_le _, Nat.zero_le _⟩ dX13_piece_17 (fun H locs hW hk => ?_)
    refine lv_if_ne (tgt := 25) hx hb dX13_piece_20 (by decide) (fun c5 => ?_) (fun c5 => ?_)
    · have hf := if_f c5 hf
      refine lv_iload_n hx hb dX13_piece_25 rfl (lv_at hl 2 rfl) ?_
      by_cases c6 : x2 = (0 : Int32)
      · have hf := if_t c6 hf
        refine lv_tableIn (off := 30) (tgt := 56) hx hb dX13_piece_26 (by rw [c6]; decide) (by rw [c6]; decide) (by rw [c6]; rfl) (by decide) ?_
        refine lv_aload_n hx hb dX13_piece_56 rfl (lv_at hl 0 rfl) ?_
        refine b_get hM hW 11 24 hc rfl rfl (by decide) wi_X13 (wgm fk_RX13_125) (x := .ref (a + 16)) rfl dX13_piece_57 ?_
        refine lv_iconst (v := (3 : Int32)) hx hb dX13_piece_60 (by decide) ?_
        refine lv_iload_n hx hb dX13_piece_61 rfl (lv_at hl 1 rfl) ?_
        refine lv_iadd hx hb dX13_piece_62 ?_
        refine lv_topi (fun y7 ey7 => ?_)
        have hf := nm_at ey7 hf
        obtain ⟨h8, hf⟩ := ck_elim hf
        refine b_iald (n := 1518) hM hW 11 24 hc (by decide) rfl rfl rfl rfl h8 dX13_piece_63 ?_
        cases hf
        exact W.iret hx hb hr (b_ret0 hW (keep_s2 hc0 hc) _) hW.2.2.2 dX13_piece_64 hlk
      have hf := if_f c6 hf
      by_cases c9 : x2 = (1 : Int32)
      · have hf := if_t c9 hf
        refine lv_tableIn (off := 39) (tgt := 65) hx hb dX13_piece_26 (by rw [c9]; decide) (by rw [c9]; decide) (by rw [c9]; rfl) (by decide) ?_
        refine lv_aload_n hx hb dX13_piece_65 rfl (lv_at hl 0 rfl) ?_
        refine b_get hM hW 11 24 hc rfl rfl (by decide) wi_X13 (wgm fk_RX13_125) (x := .ref (a + 16)) rfl dX13_piece_66 ?_
        refine lv_bipush (v := (11 : Int32)) hx hb dX13_piece_69 (by decide) ?_
        refine lv_iload_n hx hb dX13_piece_71 rfl (lv_at hl 1 rfl) ?_
        refine lv_iadd hx hb dX13_piece_72 ?_
        refine lv_topi (fun y10 ey10 => ?_)
        have hf := nm_at ey10 hf
        obtain ⟨h11, hf⟩ := ck_elim hf
        refine b_iald (n := 1518) hM hW 11 24 hc (by decide) rfl rfl rfl rfl h11 dX13_piece_73 ?_
        cases hf
        exact W.iret hx hb hr (b_ret0 hW (keep_s2 hc0 hc) _) hW.2.2.2 dX13_piece_74 hlk
      have hf := if_f c9 hf
      by_cases c12 : x2 = (2 : Int32)
      · have hf := if_t c12 hf
        refine lv_tableIn (off := 49) (tgt := 75) hx hb dX13_piece_26 (by rw [c12]; decide) (by rw [c12]; decide) (by rw [c12]; rfl) (by decide) ?_
        refine lv_aload_n hx hb dX13_piece_75 rfl (lv_at hl 0 rfl) ?_
        refine b_get hM hW 11 24 hc rfl rfl (by decide) wi_X13 (wgm fk_RX13_125) (x := .ref (a + 16)) rfl dX13_piece_76 ?_
        refine lv_bipush (v := (27 : Int32)) hx hb dX13_piece_79 (by decide) ?_
        refine lv_iload_n hx hb dX13_piece_81 rfl (lv_at hl 1 rfl) ?_
        refine lv_iadd hx hb dX13_piece_82 ?_
        refine lv_topi (fun y13 ey13 => ?_)
        have hf := nm_at ey13 hf
        obtain ⟨h14, hf⟩ := ck_elim hf
        refine b_iald (n := 1518) hM hW 11 24 hc (by decide) rfl rfl rfl rfl h14 dX13_piece_83 ?_
        cases hf
        exact W.iret hx hb hr (b_ret0 hW (keep_s2 hc0 hc) _) hW.2.2.2 dX13_piece_84 hlk
      have hf := if_f c12 hf
      by_cases c15 : x2 = (3 : Int32)
      · have hf := if_t c15 hf
        refine lv_tableIn (off := 59) (tgt := 85) hx hb dX13_piece_26 (by rw [c15]; decide) (by rw [c15]; decide) (by rw [c15]; rfl) (by decide) ?_
        refine lv_aload_n hx hb dX13_piece_85 rfl (lv_at hl 0 rfl) ?_
        refine b_get hM hW 11 24 hc rfl rfl (by decide) wi_X13 (wgm fk_RX13_125) (x := .ref (a + 16)) rfl dX13_piece_86 ?_
        refine lv_bipush (v := (19 : Int32)) hx hb dX13_piece_89 (by decide) ?_
        refine lv_iload_n hx hb dX13_piece_91 rfl (lv_at hl 1 rfl) ?_
        refine lv_iadd hx hb dX13_piece_92 ?_
        refine lv_topi (fun y16 ey16 => ?_)
        have hf := nm_at ey16 hf
        obtain ⟨h17, hf⟩ := ck_elim hf
        refine b_iald (n := 1518) hM hW 11 24 hc (by decide) rfl rfl rfl rfl h17 dX13_piece_93 ?_
        cases hf
        exact W.iret hx hb hr (b_ret0 hW (keep_s2 hc0 hc) _) hW.2.2.2 dX13_piece_94 hlk
      have hf := if_f c15 hf
      refine lv_tableOut (tgt := 95) hx hb dX13_piece_26 (sw_out (fun j h1 h2 hj => ?_)) (by decide) ?_
      · have hcases : j = 0 ∨ j = 1 ∨ j = 2 ∨ j = 3 := by omega
        rcases hcases with rfl | rfl | rfl | rfl
        · exact c6 (Int32.toInt_inj.mp (hj.trans (by decide)))
        · exact c9 (Int32.toInt_inj.mp (hj.trans (by decide)))
        · exact c12 (Int32.toInt_inj.mp (hj.trans (by decide)))
        · exact c15 (Int32.toInt_inj.mp (hj.trans (by decide)))
      · refine lv_aload_n hx hb dX13_piece_95 rfl (lv_at hl 0 rfl) ?_
        refine lv_iconst (v := (0 : Int32)) hx hb dX13_piece_96 (by decide) ?_
        refine lv_iload_n hx hb dX13_piece_97 rfl (lv_at hl 1 rfl) ?_
        obtain ⟨r18, v19, hr18, hf⟩ := bd2_elim hf
        refine b_callVi [.int (0 : Int32), .int x1] [] hM hml hl.1 hW hc rfl (by decide) (c_X13_worthOf l G fu _ a v1 _ _ hc hr18) (cwV 2 hM.2.2.2.1 (gV mk_RX13_349 im_X13_worthOf se_X13_worthOf it_RX13 cd_X13_worthOf) rfl rfl rfl (by decide +kernel) ⟨Nat.le_of_ble_eq_true rfl, Nat.le_of_ble_eq_true rfl⟩) rfl rfl (Nat.le_of_ble_eq_true rfl) ⟨Nat.zero_le _, Nat.zero_le _⟩ dX13_piece_98 (fun H locs hW hk => ?_)
        have hc := keep_at hc hk
        cases hf
        exact W.iret hx hb hr (b_ret0 hW (keep_s2 hc0 hc) _) hW.2.2.2 dX13_piece_101 hlk
    · have hf := if_t c5 hf
      exact t_X13_piece_23 (fu := fu) hM hml hr hlk hc0 hf hc _ _ hW _ (lv_sub hl [] rfl)
noncomputable def f_X13_piece (fu : Nat) (v : GV) (x1 : Int32) (x2 : Int32) : Option (Int32 × GV) := f_X13_piece_0 fu v x1 x2
set_option maxHeartbeats 4000000 in
set_option maxRecDepth 100000 in
theorem c_X13_piece (l : Launch) (G : GG) (fu : Nat) (S : ST) (a : Nat) (v : GV) (x1 : Int32) (x2 : Int32) {z : Int32} {w : GV} (hc : gC v = 12) (hf : f_X13_piece fu v x1 x2 = some (z, w)) : Ct l yX13_piece w_X13_piece RM_X13_piece G (st S a v) [.ref a, .int x1, .int x2] (some (.int z)) (st S a w) 0 0 := by
  refine Met.ofW (cc := cX13_piece) (maxL := 3) (ret := (some .int)) (by decide) rfl ?_
  intro p e s m args below meth c s₁ B hml hv
  obtain ⟨rfl, hB, hK, hz⟩ := hv
  have hM : MC G p s m _ c cX13_piece w_X13_piece RX13 := ⟨B.exec, B.bytes, findClass_of_methodNamed B.named, atoms_spec (ws := w_X13_piece) B.pre, hK, hz⟩
  have hW : WB G (st S a v) s s.heap [] := ⟨hB, va_S.rf⟩
  have hl := lv_entry ([.ref a, .int x1, .int x2]) (n := 3) (Nat.le_of_ble_eq_true rfl)
  rw [lg_entry_eq]
  generalize (lg_sl ([.ref a, .int x1, .int x2]) ++ List.replicate (3 - (lg_sl ([.ref a, .int x1, .int x2])).length) Slot.unset).toArray = ls at hl ⊢
  have hl : lv_has ls 3 [(0, .ref a), (1, .int x1), (2, .int x2)] := hl
  exact t_X13_piece_0 hM hml B.returns B.notSynchronized hc hf hc _ _ hW _ (lv_sub hl [0, 1, 2] rfl)
abbrev w_X13_distanceOf : List Cond := Cond.code yX13_distanceOf cX13_distanceOf 3 (some .int) :: wsL_law0
abbrev RM_X13_distanceOf : Room := { frames := 1, cells := 0, slots := 0, locals := 22 }
noncomputable def f_X13_distanceOf_0 (fu : Nat)  (v : GV) (x1 : Int32) (x2 : Int32) : Option (Int32) :=
  nm (((3 : Int32) + x1)) fun y1 =>
  ck (inb y1 1518) <|
  nm (((3 : Int32) + x2)) fun y3 =>
  ck (inb y3 1518) <|
  bd (f_X13_bits fu ((gA v 24 y1.toNatClampNeg) ^^^ (gA v 24 y3.toNatClampNeg))) fun r5 =>
  some r5
set_option maxHeartbeats 4000000 in
set_option maxRecDepth 100000 in
theorem t_X13_distanceOf_0 {G : GG} {p : Program} {l : Launch} {e : Env} {s : State} {m : MethodId} {args : Array Value} {below : List Frame} {meth : Method} {c : Code} {S : ST} {fu : Nat} {z : Int32} {a : Nat} {v : GV}  {x1 : Int32} {x2 : Int32} (hM : MC G p s m args c cX13_distanceOf w_X13_distanceOf RX13) (hml : c.maxLocals = 3) (hr : meth.sig.returnType = (some .int)) (hlk : meth.locks = false) (hc0 : gC v = 12)  (hf : f_X13_distanceOf_0 fu  v x1 x2 = some z) : ∀ (H : Heap) (locs : List Loc), WB G (st S a v) s H locs → ∀ (ls : Array Slot), lv_has ls 3 [(0, .ref a), (1, .int x1), (2, .int x2)] → W p l e RM_X13_distanceOf s m args below meth c H locs 0 0 (QR G below args s (some (.int z)) (st S a v) (st S a v)) (F0 m 0 ls []) := by
  intro H locs hW ls hl
  have hx := hM.1
  have hb := hM.2.1
  have hc := hc0
  refine lv_aload_n hx hb dX13_distanceOf_0 rfl (lv_at hl 0 rfl) ?_
  refine b_get hM hW 11 24 hc rfl rfl (by decide) wi_X13 (wgm fk_RX13_125) (x := .ref (a + 16)) rfl dX13_distanceOf_1 ?_
  refine lv_iconst (v := (3 : Int32)) hx hb dX13_distanceOf_4 (by decide) ?_
  refine lv_iload_n hx hb dX13_distanceOf_5 rfl (lv_at hl 1 rfl) ?_
  refine lv_iadd hx hb dX13_distanceOf_6 ?_
  refine lv_topi (fun y1 ey1 => ?_)
  have hf := nm_at ey1 hf
  obtain ⟨h2, hf⟩ := ck_elim hf
  refine b_iald (n := 1518) hM hW 11 24 hc (by decide) rfl rfl rfl rfl h2 dX13_distanceOf_7 ?_
  refine lv_aload_n hx hb dX13_distanceOf_8 rfl (lv_at hl 0 rfl) ?_
  refine b_get hM hW 11 24 hc rfl rfl (by decide) wi_X13 (wgm fk_RX13_125) (x := .ref (a + 16)) rfl dX13_distanceOf_9 ?_
  refine lv_iconst (v := (3 : Int32)) hx hb dX13_distanceOf_12 (by decide) ?_
  refine lv_iload_n hx hb dX13_distanceOf_13 rfl (lv_at hl 2 rfl) ?_
  refine lv_iadd hx hb dX13_distanceOf_14 ?_
  refine lv_topi (fun y3 ey3 => ?_)
  have hf := nm_at ey3 hf
  obtain ⟨h4, hf⟩ := ck_elim hf
  refine b_iald (n := 1518) hM hW 11 24 hc (by decide) rfl rfl rfl rfl h4 dX13_distanceOf_15 ?_
  refine lv_ixor hx hb dX13_distanceOf_16 ?_
  obtain ⟨r5, hr5, hf⟩ := bd_elim hf
  refine b_callSi [.int ((gA v 24 y1.toNatClampNeg) ^^^ (gA v 24 y3.toNatClampNeg))] [] hM hml hl.1 hW (c_X13_bits l G fu _ _ hr5) (va_cwS 1 hM.2.2.2.1 (gS mk_RX13_339 sm_X13_bits it_RX13 cd_X13_bits) rfl rfl rfl (by decide +kernel) ⟨Nat.le_of_ble_eq_true rfl, Nat.le_of_ble_eq_true rfl⟩) rfl rfl (Nat.le_of_ble_eq_true rfl) ⟨Nat.zero_le _, Nat.zero_le _⟩ dX13_distanceOf_17 (fun H locs hW hk => ?_)
  cases hf
  exact W.iret hx hb hr (b_ret0 hW (fun _ _ => rfl) _) hW.2.2.2 dX13_distanceOf_20 hlk
noncomputable def f_X13_distanceOf (fu : Nat) (v : GV) (x1 : Int32) (x2 : Int32) : Option (Int32) := f_X13_distanceOf_0 fu v x1 x2
set_option maxHeartbeats 4000000 in
set_option maxRecDepth 100000 in
theorem c_X13_distanceOf (l : Launch) (G : GG) (fu : Nat) (S : ST) (a : Nat) (v : GV) (x1 : Int32) (x2 : Int32) {z : Int32} (hc : gC v = 12) (hf : f_X13_distanceOf fu v x1 x2 = some z) : Ct l yX13_distanceOf w_X13_distanceOf RM_X13_distanceOf G (st S a v) [.ref a, .int x1, .int x2] (some (.int z)) (st S a v) 0 0 := by
  refine Met.ofW (cc := cX13_distanceOf) (maxL := 3) (ret := (some .int)) (by decide) rfl ?_
  intro p e s m args below meth c s₁ B hml hv
  obtain ⟨rfl, hB, hK, hz⟩ := hv
  have hM : MC G p s m _ c cX13_distanceOf w_X13_distanceOf RX13 := ⟨B.exec, B.bytes, findClass_of_methodNamed B.named, atoms_spec (ws := w_X13_distanceOf) B.pre, hK, hz⟩
  have hW : WB G (st S a v) s s.heap [] := ⟨hB, va_S.rf⟩
  have hl := lv_entry ([.ref a, .int x1, .int x2]) (n := 3) (Nat.le_of_ble_eq_true rfl)
  rw [lg_entry_eq]
  generalize (lg_sl ([.ref a, .int x1, .int x2]) ++ List.replicate (3 - (lg_sl ([.ref a, .int x1, .int x2])).length) Slot.unset).toArray = ls at hl ⊢
  have hl : lv_has ls 3 [(0, .ref a), (1, .int x1), (2, .int x2)] := hl
  exact t_X13_distanceOf_0 hM hml B.returns B.notSynchronized hc hf _ _ hW _ (lv_sub hl [0, 1, 2] rfl)
abbrev w_X13_distance : List Cond := Cond.code yX13_distance cX13_distance 3 (some .int) :: wsL_law0
abbrev RM_X13_distance : Room := { frames := 2, cells := 0, slots := 0, locals := 44 }
noncomputable def f_X13_distance_32 (fu : Nat)  (v : GV) : Option (Int32 × GV) :=
  some ((-1 : Int32), v)
set_option maxHeartbeats 4000000 in
set_option maxRecDepth 100000 in
theorem t_X13_distance_32 {G : GG} {p : Program} {l : Launch} {e : Env} {s : State} {m : MethodId} {args : Array Value} {below : List Frame} {meth : Method} {c : Code} {S : ST} {fu : Nat} {z : Int32 × GV} {a : Nat} {v0 : GV}  {v : GV} (hM : MC G p s m args c cX13_distance w_X13_distance RX13) (hml : c.maxLocals = 3) (hr : meth.sig.returnType = (some .int)) (hlk : meth.locks = false) (hc0 : gC v0 = 12)  (hf : f_X13_distance_32 fu  v  = some z) : gC v = 12 → ∀ (H : Heap) (locs : List Loc), WB G (st S a v) s H locs → ∀ (ls : Array Slot), lv_has ls 3 [] → W p l e RM_X13_distance s m args below meth c H locs 0 0 (QR G below args s (some (.int z.1)) (st S a v0) (st S a z.2)) (F0 m 32 ls []) := by
  intro hc H locs hW ls hl
  have hx := hM.1
  have hb := hM.2.1
  refine lv_iconst (v := (-1 : Int32)) hx hb dX13_distance_32 (by decide) ?_
  cases hf
  exact W.iret hx hb hr (b_ret0 hW (keep_s2 hc0 hc) _) hW.2.2.2 dX13_distance_33 hlk
noncomputable def f_X13_distance_0 (fu : Nat)  (v : GV) (x1 : Int32) (x2 : Int32) : Option (Int32 × GV) :=
  nm (sI v 0 (0 : Int32)) fun v1 =>
  bd (f_X13_isPiece fu v1 (0 : Int32) x1) fun r2 =>
  if r2 = 0 then
    (f_X13_distance_32 fu v1)
  else
    (bd (f_X13_isPiece fu v1 (0 : Int32) x2) fun r4 =>
    if r4 = 0 then
      (f_X13_distance_32 fu v1)
    else
      (bd (f_X13_distanceOf fu v1 x1 x2) fun r6 =>
      some (r6, v1)))
set_option maxHeartbeats 4000000 in
set_option maxRecDepth 100000 in
theorem t_X13_distance_0 {G : GG} {p : Program} {l : Launch} {e : Env} {s : State} {m : MethodId} {args : Array Value} {below : List Frame} {meth : Method} {c : Code} {S : ST} {fu : Nat} {z : Int32 × GV} {a : Nat} {v0 : GV}  {v : GV} {x1 : Int32} {x2 : Int32} (hM : MC G p s m args c cX13_distance w_X13_distance RX13) (hml : c.maxLocals = 3) (hr : meth.sig.returnType = (some .int)) (hlk : meth.locks = false) (hc0 : gC v0 = 12)  (hf : f_X13_distance_0 fu  v x1 x2 = some z) : gC v = 12 → ∀ (H : Heap) (locs : List Loc), WB G (st S a v) s H locs → ∀ (ls : Array Slot), lv_has ls 3 [(0, .ref a), (1, .int x1), (2, .int x2)] → W p l e RM_X13_distance s m args below meth c H locs 0 0 (QR G below args s (some (.int z.1)) (st S a v0) (st S a z.2)) (F0 m 0 ls []) := by
  intro hc H locs hW ls hl
  have hx := hM.1
  have hb := hM.2.1
  refine lv_aload_n hx hb dX13_distance_0 rfl (lv_at hl 0 rfl) ?_
  refine lv_iconst (v := (0 : Int32)) hx hb dX13_distance_1 (by decide) ?_
  refine b_putI hM hW 11 0 hc rfl rfl (by decide) wi_X13 tyX13 tyX13_ok nmX13 (wgm fk_RX13_1) rfl rfl rfl dX13_distance_2 (fun v1 ev1 hc H locs hW => ?_)
  have hf := nm_at ev1 hf
  refine lv_aload_n hx hb dX13_distance_5 rfl (lv_at hl 0 rfl) ?_
  refine lv_iconst (v := (0 : Int32)) hx hb dX13_distance_6 (by decide) ?_
  refine lv_iload_n hx hb dX13_distance_7 rfl (lv_at hl 1 rfl) ?_
  obtain ⟨r2, hr2, hf⟩ := bd_elim hf
  refine b_callVi [.int (0 : Int32), .int x1] [] hM hml hl.1 hW hc rfl (by decide) (c_X13_isPiece l G fu _ a v1 _ _ hc hr2) (cwV 2 hM.2.2.2.1 (gV mk_RX13_345 im_X13_isPiece se_X13_isPiece it_RX13 cd_X13_isPiece) rfl rfl rfl (by decide +kernel) ⟨Nat.le_of_ble_eq_true rfl, Nat.le_of_ble_eq_true rfl⟩) rfl rfl (Nat.le_of_ble_eq_true rfl) ⟨Nat.zero_le _, Nat.zero_le _⟩ dX13_distance_8 (fun H locs hW hk => ?_)
  refine lv_if_eq (tgt := 32) hx hb dX13_distance_11 (by decide) (fun c3 => ?_) (fun c3 => ?_)
  · have hf := if_t c3 hf
    exact t_X13_distance_32 (fu := fu) hM hml hr hlk hc0 hf hc _ _ hW _ (lv_sub hl [] rfl)
  · have hf := if_f c3 hf
    refine lv_aload_n hx hb dX13_distance_14 rfl (lv_at hl 0 rfl) ?_
    refine lv_iconst (v := (0 : Int32)) hx hb dX13_distance_15 (by decide) ?_
    refine lv_iload_n hx hb dX13_distance_16 rfl (lv_at hl 2 rfl) ?_
    obtain ⟨r4, hr4, hf⟩ := bd_elim hf
    refine b_callVi [.int (0 : Int32), .int x2] [] hM hml hl.1 hW hc rfl (by decide) (c_X13_isPiece l G fu _ a v1 _ _ hc hr4) (cwV 2 hM.2.2.2.1 (gV mk_RX13_345 im_X13_isPiece se_X13_isPiece it_RX13 cd_X13_isPiece) rfl rfl rfl (by decide +kernel) ⟨Nat.le_of_ble_eq_true rfl, Nat.le_of_ble_eq_true rfl⟩) rfl rfl (Nat.le_of_ble_eq_true rfl) ⟨Nat.zero_le _, Nat.zero_le _⟩ dX13_distance_17 (fun H locs hW hk => ?_)
    refine lv_if_eq (tgt := 32) hx hb dX13_distance_20 (by decide) (fun c5 => ?_) (fun c5 => ?_)
    · have hf := if_t c5 hf
      exact t_X13_distance_32 (fu := fu) hM hml hr hlk hc0 hf hc _ _ hW _ (lv_sub hl [] rfl)
    · have hf := if_f c5 hf
      refine lv_aload_n hx hb dX13_distance_23 rfl (lv_at hl 0 rfl) ?_
      refine lv_iload_n hx hb dX13_distance_24 rfl (lv_at hl 1 rfl) ?_
      refine lv_iload_n hx hb dX13_distance_25 rfl (lv_at hl 2 rfl) ?_
      obtain ⟨r6, hr6, hf⟩ := bd_elim hf
      refine b_callVi [.int x1, .int x2] [] hM hml hl.1 hW hc rfl (by decide) (c_X13_distanceOf l G fu _ a v1 _ _ hc hr6) (cwV 2 hM.2.2.2.1 (gV mk_RX13_352 im_X13_distanceOf se_X13_distanceOf it_RX13 cd_X13_distanceOf) rfl rfl rfl (by decide +kernel) ⟨Nat.le_of_ble_eq_true rfl, Nat.le_of_ble_eq_true rfl⟩) rfl rfl (Nat.le_of_ble_eq_true rfl) ⟨Nat.zero_le _, Nat.zero_le _⟩ dX13_distance_26 (fun H locs hW hk => ?_)
      refine lv_goto (tgt := 33) hx hb dX13_distance_29 (by decide) ?_
      cases hf
      exact W.iret hx hb hr (b_ret0 hW (keep_s2 hc0 hc) _) hW.2.2.2 dX13_distance_33 hlk
noncomputable def f_X13_distance (fu : Nat) (v : GV) (x1 : Int32) (x2 : Int32) : Option (Int32 × GV) := f_X13_distance_0 fu v x1 x2
set_option maxHeartbeats 4000000 in
set_option maxRecDepth 100000 in
theorem c_X13_distance (l : Launch) (G : GG) (fu : Nat) (S : ST) (a : Nat) (v : GV) (x1 : Int32) (x2 : Int32) {z : Int32} {w : GV} (hc : gC v = 12) (hf : f_X13_distance fu v x1 x2 = some (z, w)) : Ct l yX13_distance w_X13_distance RM_X13_distance G (st S a v) [.ref a, .int x1, .int x2] (some (.int z)) (st S a w) 0 0 := by
  refine Met.ofW (cc := cX13_distance) (maxL := 3) (ret := (some .int)) (by decide) rfl ?_
  intro p e s m args below meth c s₁ B hml hv
  obtain ⟨rfl, hB, hK, hz⟩ := hv
  have hM : MC G p s m _ c cX13_distance w_X13_distance RX13 := ⟨B.exec, B.bytes, findClass_of_methodNamed B.named, atoms_spec (ws := w_X13_distance) B.pre, hK, hz⟩
  have hW : WB G (st S a v) s s.heap [] := ⟨hB, va_S.rf⟩
  have hl := lv_entry ([.ref a, .int x1, .int x2]) (n := 3) (Nat.le_of_ble_eq_true rfl)
  rw [lg_entry_eq]
  generalize (lg_sl ([.ref a, .int x1, .int x2]) ++ List.replicate (3 - (lg_sl ([.ref a, .int x1, .int x2])).length) Slot.unset).toArray = ls at hl ⊢
  have hl : lv_has ls 3 [(0, .ref a), (1, .int x1), (2, .int x2)] := hl
  exact t_X13_distance_0 hM hml B.returns B.notSynchronized hc hf hc _ _ hW _ (lv_sub hl [0, 1, 2] rfl)
abbrev w_X13_hasOf : List Cond := Cond.code yX13_hasOf cX13_hasOf 5 (some .int) :: wsL_law0
abbrev RM_X13_hasOf : Room := { frames := 0, cells := 0, slots := 0, locals := 0 }
noncomputable def f_X13_hasOf_43 (fu : Nat) (k5 : Int32 → Int32 → Option (Int32)) (v : GV) (x1 : Int32) (x2 : Int32) (x4 : Int32) (t0 : Int32) (t1 : Int32) : Option (Int32) :=
  nm ((t0 ||| t1)) fun y1 =>
  nm (x4 + (1 : Int32)) fun y2 =>
  k5 y1 y2
set_option maxHeartbeats 4000000 in
set_option maxRecDepth 100000 in
theorem t_X13_hasOf_43 {G : GG} {p : Program} {l : Launch} {e : Env} {s : State} {m : MethodId} {args : Array Value} {below : List Frame} {meth : Method} {c : Code} {S : ST} {fu : Nat} {z : Int32} {a : Nat} {v : GV} {k5 : Int32 → Int32 → Option (Int32)} {x1 : Int32} {x2 : Int32} {x4 : Int32} {t0 : Int32} {t1 : Int32} (hM : MC G p s m args c cX13_hasOf w_X13_hasOf RX13) (hml : c.maxLocals = 5) (hr : meth.sig.returnType = (some .int)) (hlk : meth.locks = false) (hc0 : gC v = 12) (hk5 : ∀ (x3 : Int32) (x4 : Int32), k5 x3 x4 = some z → ∀ (H : Heap) (locs : List Loc), WB G (st S a v) s H locs → ∀ (ls : Array Slot), lv_has ls 5 [(0, .ref a), (1, .int x1), (2, .int x2), (3, .int x3), (4, .int x4)] → W p l e RM_X13_hasOf s m args below meth c H locs 0 0 (QR G below args s (some (.int z)) (st S a v) (st S a v)) (F0 m 5 ls [])) (hf : f_X13_hasOf_43 fu k5 v x1 x2 x4 t0 t1 = some z) : ∀ (H : Heap) (locs : List Loc), WB G (st S a v) s H locs → ∀ (ls : Array Slot), lv_has ls 5 [(0, .ref a), (1, .int x1), (2, .int x2), (4, .int x4)] → W p l e RM_X13_hasOf s m args below meth c H locs 0 0 (QR G below args s (some (.int z)) (st S a v) (st S a v)) (F0 m 43 ls [.int t1, .int t0]) := by
  intro H locs hW ls hl
  have hx := hM.1
  have hb := hM.2.1
  have hc := hc0
  refine lv_ior hx hb dX13_hasOf_43 ?_
  refine lv_topi (fun y1 ey1 => ?_)
  have hf := nm_at ey1 hf
  refine lv_istore_n (lv' := [(3, .int y1), (0, .ref a), (1, .int x1), (2, .int x2), (4, .int x4)]) hx hb dX13_hasOf_44 rfl hl (by decide) rfl (fun ls hl => ?_)
  obtain ⟨y2, ey2⟩ : ∃ y : Int32, y = x4 + (1 : Int32) := ⟨_, rfl⟩
  have hf := nm_at ey2 hf
  refine lv_iinc (v := y2) (lv' := [(4, .int y2), (3, .int y1), (0, .ref a), (1, .int x1), (2, .int x2)]) hx hb dX13_hasOf_45 hl (k := 4) rfl (by rw [ey2]; rfl) (by decide) rfl (fun ls hl => ?_)
  refine lv_goto (tgt := 5) hx hb dX13_hasOf_48 (by decide) ?_
  exact hk5 _ _ hf _ _ hW _ (lv_sub hl [2, 3, 4, 1, 0] rfl)
noncomputable def f_X13_hasOf_5s (fu : Nat)  (k5 : Int32 → Int32 → Option (Int32)) (v : GV) (x1 : Int32) (x2 : Int32) (x3 : Int32) (x4 : Int32) : Option (Int32) :=
  nm ((x1 + (2 : Int32))) fun y1 =>
  ck (inb y1 1518) <|
  if (gA v 24 y1.toNatClampNeg) ≤ x4 then
    (some x3)
  else
    (nm (((x1 + (11 : Int32)) + x4)) fun y4 =>
    ck (inb y4 1518) <|
    if (gA v 24 y4.toNatClampNeg) = x2 then
      (f_X13_hasOf_43 fu k5 v x1 x2 x4 x3 ((1 : Int32) <<< (x4 &&& 31)))
    else
      (f_X13_hasOf_43 fu k5 v x1 x2 x4 x3 (0 : Int32)))
noncomputable def f_X13_hasOf_5 (fu n : Nat)  (v : GV) (x1 : Int32) (x2 : Int32) : Int32 → Int32 → Option (Int32) :=
  lq_2 (fun k5 => f_X13_hasOf_5s fu  k5 v x1 x2) n
set_option maxHeartbeats 4000000 in
set_option maxRecDepth 100000 in
theorem t_X13_hasOf_5s {G : GG} {p : Program} {l : Launch} {e : Env} {s : State} {m : MethodId} {args : Array Value} {below : List Frame} {meth : Method} {c : Code} {S : ST} {fu : Nat} {z : Int32} {a : Nat} {v : GV}  (hM : MC G p s m args c cX13_hasOf w_X13_hasOf RX13) (hml : c.maxLocals = 5) (hr : meth.sig.returnType = (some .int)) (hlk : meth.locks = false) (hc0 : gC v = 12) {k5 : Int32 → Int32 → Option (Int32)} {x1 : Int32} {x2 : Int32}  (hk5 : ∀ (x3 : Int32) (x4 : Int32), k5 x3 x4 = some z → ∀ (H : Heap) (locs : List Loc), WB G (st S a v) s H locs → ∀ (ls : Array Slot), lv_has ls 5 [(0, .ref a), (1, .int x1), (2, .int x2), (3, .int x3), (4, .int x4)] → W p l e RM_X13_hasOf s m args below meth c H locs 0 0 (QR G below args s (some (.int z)) (st S a v) (st S a v)) (F0 m 5 ls [])) : ∀ (x3 : Int32) (x4 : Int32), f_X13_hasOf_5s fu  k5 v x1 x2 x3 x4 = some z → ∀ (H : Heap) (locs : List Loc), WB G (st S a v) s H locs → ∀ (ls : Array Slot), lv_has ls 5 [(0, .ref a), (1, .int x1), (2, .int x2), (3, .int x3), (4, .int x4)] → W p l e RM_X13_hasOf s m args below meth c H locs 0 0 (QR G below args s (some (.int z)) (st S a v) (st S a v)) (F0 m 5 ls []) := by
  intro x3 x4 hf H locs hW ls hl
  have hx := hM.1
  have hb := hM.2.1
  have hc := hc0
  refine lv_iload hx hb dX13_hasOf_5 (lv_at hl 4 rfl) ?_
  refine lv_aload_n hx hb dX13_hasOf_7 rfl (lv_at hl 0 rfl) ?_
  refine b_get hM hW 11 24 hc rfl rfl (by decide) wi_X13 (wgm fk_RX13_125) (x := .ref (a + 16)) rfl dX13_hasOf_8 ?_
  refine lv_iload_n hx hb dX13_hasOf_11 rfl (lv_at hl 1 rfl) ?_
  refine lv_iconst (v := (2 : Int32)) hx hb dX13_hasOf_12 (by decide) ?_
  refine lv_iadd hx hb dX13_hasOf_13 ?_
  refine lv_topi (fun y1 ey1 => ?_)
  have hf := nm_at ey1 hf
  obtain ⟨h2, hf⟩ := ck_elim hf
  refine b_iald (n := 1518) hM hW 11 24 hc (by decide) rfl rfl rfl rfl h2 dX13_hasOf_14 ?_
  refine lv_icmp_ge (tgt := 51) hx hb dX13_hasOf_15 (by decide) (fun c3 => ?_) (fun c3 => ?_)
  · have hf := if_t c3 hf
    refine lv_iload_n hx hb dX13_hasOf_51 rfl (lv_at hl 3 rfl) ?_
    cases hf
    exact W.iret hx hb hr (b_ret0 hW (fun _ _ => rfl) _) hW.2.2.2 dX13_hasOf_52 hlk
  · have hf := if_f c3 hf
    refine lv_iload_n hx hb dX13_hasOf_18 rfl (lv_at hl 3 rfl) ?_
    refine lv_aload_n hx hb dX13_hasOf_19 rfl (lv_at hl 0 rfl) ?_
    refine b_get hM hW 11 24 hc rfl rfl (by decide) wi_X13 (wgm fk_RX13_125) (x := .ref (a + 16)) rfl dX13_hasOf_20 ?_
    refine lv_iload_n hx hb dX13_hasOf_23 rfl (lv_at hl 1 rfl) ?_
    refine lv_bipush (v := (11 : Int32)) hx hb dX13_hasOf_24 (by decide) ?_
    refine lv_iadd hx hb dX13_hasOf_26 ?_
    refine lv_iload hx hb dX13_hasOf_27 (lv_at hl 4 rfl) ?_
    refine lv_iadd hx hb dX13_hasOf_29 ?_
    refine lv_topi (fun y4 ey4 => ?_)
    have hf := nm_at ey4 hf
    obtain ⟨h5, hf⟩ := ck_elim hf
    refine b_iald (n := 1518) hM hW 11 24 hc (by decide) rfl rfl rfl rfl h5 dX13_hasOf_30 ?_
    refine lv_iload_n hx hb dX13_hasOf_31 rfl (lv_at hl 2 rfl) ?_
    refine lv_icmp_ne (tgt := 42) hx hb dX13_hasOf_32 (by decide) (fun c6 => ?_) (fun c6 => ?_)
    · have hf := if_f c6 hf
      refine lv_iconst (v := (0 : Int32)) hx hb dX13_hasOf_42 (by decide) ?_
      exact t_X13_hasOf_43 (fu := fu) hM hml hr hlk hc0 hk5 hf _ _ hW _ (lv_sub hl [0, 1, 2, 4] rfl)
    · have hf := if_t c6 hf
      refine lv_iconst (v := (1 : Int32)) hx hb dX13_hasOf_35 (by decide) ?_
      refine lv_iload hx hb dX13_hasOf_36 (lv_at hl 4 rfl) ?_
      refine lv_ishl hx hb dX13_hasOf_38 ?_
      refine lv_goto (tgt := 43) hx hb dX13_hasOf_39 (by decide) ?_
      exact t_X13_hasOf_43 (fu := fu) hM hml hr hlk hc0 hk5 hf _ _ hW _ (lv_sub hl [0, 1, 2, 4] rfl)
theorem t_X13_hasOf_5 {G : GG} {p : Program} {l : Launch} {e : Env} {s : State} {m : MethodId} {args : Array Value} {below : List Frame} {meth : Method} {c : Code} {S : ST} {fu : Nat} {z : Int32} {a : Nat} {v : GV}  {x1 : Int32} {x2 : Int32} (hM : MC G p s m args c cX13_hasOf w_X13_hasOf RX13) (hml : c.maxLocals = 5) (hr : meth.sig.returnType = (some .int)) (hlk : meth.locks = false) (hc0 : gC v = 12)  : ∀ {n : Nat} (x3 : Int32) (x4 : Int32), f_X13_hasOf_5 fu n  v x1 x2 x3 x4 = some z → ∀ (H : Heap) (locs : List Loc), WB G (st S a v) s H locs → ∀ (ls : Array Slot), lv_has ls 5 [(0, .ref a), (1, .int x1), (2, .int x2), (3, .int x3), (4, .int x4)] → W p l e RM_X13_hasOf s m args below meth c H locs 0 0 (QR G below args s (some (.int z)) (st S a v) (st S a v)) (F0 m 5 ls []) := by
  intro n
  induction n with
  | zero => intro x3 x4 hf; cases hf
  | succ n ih => intro x3 x4 hf; exact t_X13_hasOf_5s (fu := fu) hM hml hr hlk hc0  (k5 := f_X13_hasOf_5 fu n  v x1 x2) ih _ _ hf
noncomputable def f_X13_hasOf_0 (fu : Nat)  (v : GV) (x1 : Int32) (x2 : Int32) : Option (Int32) :=
  f_X13_hasOf_5 fu fu v x1 x2 (0 : Int32) (0 : Int32)
set_option maxHeartbeats 4000000 in
set_option maxRecDepth 100000 in
theorem t_X13_hasOf_0 {G : GG} {p : Program} {l : Launch} {e : Env} {s : State} {m : MethodId} {args : Array Value} {below : List Frame} {meth : Method} {c : Code} {S : ST} {fu : Nat} {z : Int32} {a : Nat} {v : GV}  {x1 : Int32} {x2 : Int32} (hM : MC G p s m args c cX13_hasOf w_X13_hasOf RX13) (hml : c.maxLocals = 5) (hr : meth.sig.returnType = (some .int)) (hlk : meth.locks = false) (hc0 : gC v = 12)  (hf : f_X13_hasOf_0 fu  v x1 x2 = some z) : ∀ (H : Heap) (locs : List Loc), WB G (st S a v) s H locs → ∀ (ls : Array Slot), lv_has ls 5 [(0, .ref a), (1, .int x1), (2, .int x2)] → W p l e RM_X13_hasOf s m args below meth c H locs 0 0 (QR G below args s (some (.int z)) (st S a v) (st S a v)) (F0 m 0 ls []) := by
  intro H locs hW ls hl
  have hx := hM.1
  have hb := hM.2.1
  have hc := hc0
  refine lv_iconst (v := (0 : Int32)) hx hb dX13_hasOf_0 (by decide) ?_
  refine lv_istore_n (lv' := [(3, .int (0 : Int32)), (0, .ref a), (1, .int x1), (2, .int x2)]) hx hb dX13_hasOf_1 rfl hl (by decide) rfl (fun ls hl => ?_)
  refine lv_iconst (v := (0 : Int32)) hx hb dX13_hasOf_2 (by decide) ?_
  refine lv_istore (lv' := [(4, .int (0 : Int32)), (3, .int (0 : Int32)), (0, .ref a), (1, .int x1), (2, .int x2)]) hx hb dX13_hasOf_3 hl (by decide) rfl (fun ls hl => ?_)
  exact t_X13_hasOf_5 (fu := fu) hM hml hr hlk hc0 _ _ hf _ _ hW _ (lv_sub hl [2, 3, 4, 1, 0] rfl)
noncomputable def f_X13_hasOf (fu : Nat) (v : GV) (x1 : Int32) (x2 : Int32) : Option (Int32) := f_X13_hasOf_0 fu v x1 x2
set_option maxHeartbeats 4000000 in
set_option maxRecDepth 100000 in
theorem c_X13_hasOf (l : Launch) (G : GG) (fu : Nat) (S : ST) (a : Nat) (v : GV) (x1 : Int32) (x2 : Int32) {z : Int32} (hc : gC v = 12) (hf : f_X13_hasOf fu v x1 x2 = some z) : Ct l yX13_hasOf w_X13_hasOf RM_X13_hasOf G (st S a v) [.ref a, .int x1, .int x2] (some (.int z)) (st S a v) 0 0 := by
  refine Met.ofW (cc := cX13_hasOf) (maxL := 5) (ret := (some .int)) (by decide) rfl ?_
  intro p e s m args below meth c s₁ B hml hv
  obtain ⟨rfl, hB, hK, hz⟩ := hv
  have hM : MC G p s m _ c cX13_hasOf w_X13_hasOf RX13 := ⟨B.exec, B.bytes, findClass_of_methodNamed B.named, atoms_spec (ws := w_X13_hasOf) B.pre, hK, hz⟩
  have hW : WB G (st S a v) s s.heap [] := ⟨hB, va_S.rf⟩
  have hl := lv_entry ([.ref a, .int x1, .int x2]) (n := 5) (Nat.le_of_ble_eq_true rfl)
  rw [lg_entry_eq]
  generalize (lg_sl ([.ref a, .int x1, .int x2]) ++ List.replicate (5 - (lg_sl ([.ref a, .int x1, .int x2])).length) Slot.unset).toArray = ls at hl ⊢
  have hl : lv_has ls 5 [(0, .ref a), (1, .int x1), (2, .int x2)] := hl
  exact t_X13_hasOf_0 hM hml B.returns B.notSynchronized hc hf _ _ hW _ (lv_sub hl [0, 1, 2] rfl)
abbrev w_X13_thief : List Cond := Cond.code yX13_thief cX13_thief 3 (some .int) :: wsL_law0
abbrev RM_X13_thief : Room := { frames := 2, cells := 0, slots := 0, locals := 41 }
noncomputable def f_X13_thief_22 (fu : Nat)  (v : GV) : Option (Int32 × GV) :=
  some ((-1 : Int32), v)
set_option maxHeartbeats 4000000 in
set_option maxRecDepth 100000 in
theorem t_X13_thief_22 {G : GG} {p : Program} {l : Launch} {e : Env} {s : State} {m : MethodId} {args : Array Value} {below : List Frame} {meth : Method} {c : Code} {S : ST} {fu : Nat} {z : Int32 × GV} {a : Nat} {v0 : GV}  {v : GV} (hM : MC G p s m args c cX13_thief w_X13_thief RX13) (hml : c.maxLocals = 3) (hr : meth.sig.returnType = (some .int)) (hlk : meth.locks = false) (hc0 : gC v0 = 12)  (hf : f_X13_thief_22 fu  v  = some z) : gC v = 12 → ∀ (H : Heap) (locs : List Loc), WB G (st S a v) s H locs → ∀ (ls : Array Slot), lv_has ls 3 [] → W p l e RM_X13_thief s m args below meth c H locs 0 0 (QR G below args s (some (.int z.1)) (st S a v0) (st S a z.2)) (F0 m 22 ls []) := by
  intro hc H locs hW ls hl
  have hx := hM.1
  have hb := hM.2.1
  refine lv_iconst (v := (-1 : Int32)) hx hb dX13_thief_22 (by decide) ?_
  refine lv_goto (tgt := 63) hx hb dX13_thief_23 (by decide) ?_
  cases hf
  exact W.iret hx hb hr (b_ret0 hW (keep_s2 hc0 hc) _) hW.2.2.2 dX13_thief_63 hlk
noncomputable def f_X13_thief_0 (fu : Nat)  (v : GV) (x1 : Int32) (x2 : Int32) : Option (Int32 × GV) :=
  nm (sI v 0 (0 : Int32)) fun v1 =>
  bd (f_X13_isThief fu v1 x1) fun r2 =>
  if r2 = 0 then
    (f_X13_thief_22 fu v1)
  else
    (bd (f_X13_within fu x2 (0 : Int32) (4 : Int32)) fun r4 =>
    if r4 = 0 then
      (f_X13_thief_22 fu v1)
    else
      (if x2 = (2 : Int32) then
        (nm (((43 : Int32) + x1)) fun y10 =>
        ck (inb y10 1518) <|
        some ((gA v1 24 y10.toNatClampNeg), v1))
      else
        (if x2 = (4 : Int32) then
          (bd (f_X13_hasOf fu v1 (0 : Int32) x1) fun r9 =>
          some (r9, v1))
        else
          (bd (f_X13_thiefOf fu v1 x1 x2) fun r8 =>
          some (r8, v1)))))
set_option maxHeartbeats 4000000 in
set_option maxRecDepth 100000 in
theorem t_X13_thief_0 {G : GG} {p : Program} {l : Launch} {e : Env} {s : State} {m : MethodId} {args : Array Value} {below : List Frame} {meth : Method} {c : Code} {S : ST} {fu : Nat} {z : Int32 × GV} {a : Nat} {v0 : GV}  {v : GV} {x1 : Int32} {x2 : Int32} (hM : MC G p s m args c cX13_thief w_X13_thief RX13) (hml : c.maxLocals = 3) (hr : meth.sig.returnType = (some .int)) (hlk : meth.locks = false) (hc0 : gC v0 = 12)  (hf : f_X13_thief_0 fu  v x1 x2 = some z) : gC v = 12 → ∀ (H : Heap) (locs : List Loc), WB G (st S a v) s H locs → ∀ (ls : Array Slot), lv_has ls 3 [(0, .ref a), (1, .int x1), (2, .int x2)] → W p l e RM_X13_thief s m args below meth c H locs 0 0 (QR G below args s (some (.int z.1)) (st S a v0) (st S a z.2)) (F0 m 0 ls []) := by
  intro hc H locs hW ls hl
  have hx := hM.1
  have hb := hM.2.1
  refine lv_aload_n hx hb dX13_thief_0 rfl (lv_at hl 0 rfl) ?_
  refine lv_iconst (v := (0 : Int32)) hx hb dX13_thief_1 (by decide) ?_
  refine b_putI hM hW 11 0 hc rfl rfl (by decide) wi_X13 tyX13 tyX13_ok nmX13 (wgm fk_RX13_1) rfl rfl rfl dX13_thief_2 (fun v1 ev1 hc H locs hW => ?_)
  have hf := nm_at ev1 hf
  refine lv_aload_n hx hb dX13_thief_5 rfl (lv_at hl 0 rfl) ?_
  refine lv_iload_n hx hb dX13_thief_6 rfl (lv_at hl 1 rfl) ?_
  obtain ⟨r2, hr2, hf⟩ := bd_elim hf
  refine b_callVi [.int x1] [] hM hml hl.1 hW hc rfl (by decide) (c_X13_isThief l G fu _ a v1 _ hc hr2) (cwV 1 hM.2.2.2.1 (gV mk_RX13_355 im_X13_isThief se_X13_isThief it_RX13 cd_X13_isThief) rfl rfl rfl (by decide +kernel) ⟨Nat.le_of_ble_eq_true rfl, Nat.le_of_ble_eq_true rfl⟩) rfl rfl (Nat.le_of_ble_eq_true rfl) ⟨Nat.zero_le _, Nat.zero_le _⟩ dX13_thief_7 (fun H locs hW hk => ?_)
  refine lv_if_eq (tgt := 22) hx hb dX13_thief_10 (by decide) (fun c3 => ?_) (fun c3 => ?_)
  · have hf := if_t c3 hf
    exact t_X13_thief_22 (fu := fu) hM hml hr hlk hc0 hf hc _ _ hW _ (lv_sub hl [] rfl)
  · have hf := if_f c3 hf
    refine lv_iload_n hx hb dX13_thief_13 rfl (lv_at hl 2 rfl) ?_
    refine lv_iconst (v := (0 : Int32)) hx hb dX13_thief_14 (by decide) ?_
    refine lv_iconst (v := (4 : Int32)) hx hb dX13_thief_15 (by decide) ?_
    obtain ⟨r4, hr4, hf⟩ := bd_elim hf
    refine b_callSi [.int x2, .int (0 : Int32), .int (4 : Int32)] [] hM hml hl.1 hW (c_X13_within l G fu _ _ _ _ hr4) (va_cwS 3 hM.2.2.2.1 (gS mk_RX13_231 sm_X13_within it_RX13 cd_X13_within) rfl rfl rfl (by decide +kernel) ⟨Nat.le_of_ble_eq_true rfl, Nat.le_of_ble_eq_true rfl⟩) rfl rfl (Nat.le_of_ble_eq_true rfl) ⟨Nat.zero_le _, Nat.zero_le _⟩ dX13_thief_16 (fun H locs hW hk => ?_)
    refine lv_if_ne (tgt := 26) hx hb dX13_thief_19 (by decide) (fun c5 => ?_) (fun c5 => ?_)
    · have hf := if_f c5 hf
      refine lv_iload_n hx hb dX13_thief_26 rfl (lv_at hl 2 rfl) ?_
      refine lv_iconst (v := (2 : Int32)) hx hb dX13_thief_27 (by decide) ?_
      refine lv_icmp_ne (tgt := 43) hx hb dX13_thief_28 (by decide) (fun c6 => ?_) (fun c6 => ?_)
      · have hf := if_f c6 hf
        refine lv_iload_n hx hb dX13_thief_43 rfl (lv_at hl 2 rfl) ?_
        refine lv_iconst (v := (4 : Int32)) hx hb dX13_thief_44 (by decide) ?_
        refine lv_icmp_ne (tgt := 57) hx hb dX13_thief_45 (by decide) (fun c7 => ?_) (fun c7 => ?_)
        · have hf := if_f c7 hf
          refine lv_aload_n hx hb dX13_thief_57 rfl (lv_at hl 0 rfl) ?_
          refine lv_iload_n hx hb dX13_thief_58 rfl (lv_at hl 1 rfl) ?_
          refine lv_iload_n hx hb dX13_thief_59 rfl (lv_at hl 2 rfl) ?_
          obtain ⟨r8, hr8, hf⟩ := bd_elim hf
          refine b_callVi [.int x1, .int x2] [] hM hml hl.1 hW hc rfl (by decide) (c_X13_thiefOf l G fu _ a v1 _ _ hc hr8) (cwV 2 hM.2.2.2.1 (gV mk_RX13_323 im_X13_thiefOf se_X13_thiefOf it_RX13 cd_X13_thiefOf) rfl rfl rfl (by decide +kernel) ⟨Nat.le_of_ble_eq_true rfl, Nat.le_of_ble_eq_true rfl⟩) rfl rfl (Nat.le_of_ble_eq_true rfl) ⟨Nat.zero_le _, Nat.zero_le _⟩ dX13_thief_60 (fun H locs hW hk => ?_)
          cases hf
          exact W.iret hx hb hr (b_ret0 hW (keep_s2 hc0 hc) _) hW.2.2.2 dX13_thief_63 hlk
        · have hf := if_t c7 hf
          refine lv_aload_n hx hb dX13_thief_48 rfl (lv_at hl 0 rfl) ?_
          refine lv_iconst (v := (0 : Int32)) hx hb dX13_thief_49 (by decide) ?_
          refine lv_iload_n hx hb dX13_thief_50 rfl (lv_at hl 1 rfl) ?_
          obtain ⟨r9, hr9, hf⟩ := bd_elim hf
          refine b_callVi [.int (0 : Int32), .int x1] [] hM hml hl.1 hW hc rfl (by decide) (c_X13_hasOf l G fu _ a v1 _ _ hc hr9) (cwV 2 hM.2.2.2.1 (gV mk_RX13_358 im_X13_hasOf se_X13_hasOf it_RX13 cd_X13_hasOf) rfl rfl rfl (by decide +kernel) ⟨Nat.le_of_ble_eq_true rfl, Nat.le_of_ble_eq_true rfl⟩) rfl rfl (Nat.le_of_ble_eq_true rfl) ⟨Nat.zero_le _, Nat.zero_le _⟩ dX13_thief_51 (fun H locs hW hk => ?_)
          refine lv_goto (tgt := 63) hx hb dX13_thief_54 (by decide) ?_
          cases hf
          exact W.iret hx hb hr (b_ret0 hW (keep_s2 hc0 hc) _) hW.2.2.2 dX13_thief_63 hlk
      · have hf := if_t c6 hf
        refine lv_aload_n hx hb dX13_thief_31 rfl (lv_at hl 0 rfl) ?_
        refine b_get hM hW 11 24 hc rfl rfl (by decide) wi_X13 (wgm fk_RX13_125) (x := .ref (a + 16)) rfl dX13_thief_32 ?_
        refine lv_bipush (v := (43 : Int32)) hx hb dX13_thief_35 (by decide) ?_
        refine lv_iload_n hx hb dX13_thief_37 rfl (lv_at hl 1 rfl) ?_
        refine lv_iadd hx hb dX13_thief_38 ?_
        refine lv_topi (fun y10 ey10 => ?_)
        have hf := nm_at ey10 hf
        obtain ⟨h11, hf⟩ := ck_elim hf
        refine b_iald (n := 1518) hM hW 11 24 hc (by decide) rfl rfl rfl rfl h11 dX13_thief_39 ?_
        refine lv_goto (tgt := 63) hx hb dX13_thief_40 (by decide) ?_
        cases hf
        exact W.iret hx hb hr (b_ret0 hW (keep_s2 hc0 hc) _) hW.2.2.2 dX13_thief_63 hlk
    · have hf := if_t c5 hf
      exact t_X13_thief_22 (fu := fu) hM hml hr hlk hc0 hf hc _ _ hW _ (lv_sub hl [] rfl)
noncomputable def f_X13_thief (fu : Nat) (v : GV) (x1 : Int32) (x2 : Int32) : Option (Int32 × GV) := f_X13_thief_0 fu v x1 x2
set_option maxHeartbeats 4000000 in
set_option maxRecDepth 100000 in
theorem c_X13_thief (l : Launch) (G : GG) (fu : Nat) (S : ST) (a : Nat) (v : GV) (x1 : Int32) (x2 : Int32) {z : Int32} {w : GV} (hc : gC v = 12) (hf : f_X13_thief fu v x1 x2 = some (z, w)) : Ct l yX13_thief w_X13_thief RM_X13_thief G (st S a v) [.ref a, .int x1, .int x2] (some (.int z)) (st S a w) 0 0 := by
  refine Met.ofW (cc := cX13_thief) (maxL := 3) (ret := (some .int)) (by decide) rfl ?_
  intro p e s m args below meth c s₁ B hml hv
  obtain ⟨rfl, hB, hK, hz⟩ := hv
  have hM : MC G p s m _ c cX13_thief w_X13_thief RX13 := ⟨B.exec, B.bytes, findClass_of_methodNamed B.named, atoms_spec (ws := w_X13_thief) B.pre, hK, hz⟩
  have hW : WB G (st S a v) s s.heap [] := ⟨hB, va_S.rf⟩
  have hl := lv_entry ([.ref a, .int x1, .int x2]) (n := 3) (Nat.le_of_ble_eq_true rfl)
  rw [lg_entry_eq]
  generalize (lg_sl ([.ref a, .int x1, .int x2]) ++ List.replicate (3 - (lg_sl ([.ref a, .int x1, .int x2])).length) Slot.unset).toArray = ls at hl ⊢
  have hl : lv_has ls 3 [(0, .ref a), (1, .int x1), (2, .int x2)] := hl
  exact t_X13_thief_0 hM hml B.returns B.notSynchronized hc hf hc _ _ hW _ (lv_sub hl [0, 1, 2] rfl)
