abbrev w_X13_years : List Cond := Cond.code yX13_years cX13_years 6 (some .int) :: wsL_law0
abbrev RM_X13_years : Room := { frames := 5, cells := 0, slots := 0, locals := 120 }
noncomputable def f_X13_years_86 (fu : Nat) (k59 : Int32 → Int32 → GV → Option (Int32 × GV)) (v : GV) (x2 : Int32) (x3 : Int32) (x5 : Int32) (t0 : Int32) (t1 : Int32) : Option (Int32 × GV) :=
  nm ((t0 + t1)) fun y1 =>
  bd (f_X13_passes fu v (1452 : Int32)) fun v3 =>
  nm (x5 + (1 : Int32)) fun y4 =>
  k59 y1 y4 v3
set_option maxHeartbeats 4000000 in
set_option maxRecDepth 100000 in
theorem t_X13_years_86 {G : GG} {p : Program} {l : Launch} {e : Env} {s : State} {m : MethodId} {args : Array Value} {below : List Frame} {meth : Method} {c : Code} {S : ST} {fu : Nat} {z : Int32 × GV} {a : Nat} {v0 : GV} {k59 : Int32 → Int32 → GV → Option (Int32 × GV)} {v : GV} {x2 : Int32} {x3 : Int32} {x5 : Int32} {t0 : Int32} {t1 : Int32} (hM : MC G p s m args c cX13_years w_X13_years RX13) (hml : c.maxLocals = 6) (hr : meth.sig.returnType = (some .int)) (hlk : meth.locks = false) (hc0 : gC v0 = 12) (hk59 : ∀ (x4 : Int32) (x5 : Int32) (v : GV), k59 x4 x5 v = some z → gC v = 12 → ∀ (H : Heap) (locs : List Loc), WB G (st S a v) s H locs → ∀ (ls : Array Slot), lv_has ls 6 [(0, .ref a), (2, .int x2), (3, .int x3), (4, .int x4), (5, .int x5)] → W p l e RM_X13_years s m args below meth c H locs 0 0 (QR G below args s (some (.int z.1)) (st S a v0) (st S a z.2)) (F0 m 59 ls [])) (hf : f_X13_years_86 fu k59 v x2 x3 x5 t0 t1 = some z) : gC v = 12 → ∀ (H : Heap) (locs : List Loc), WB G (st S a v) s H locs → ∀ (ls : Array Slot), lv_has ls 6 [(0, .ref a), (2, .int x2), (3, .int x3), (5, .int x5)] → W p l e RM_X13_years s m args below meth c H locs 0 0 (QR G below args s (some (.int z.1)) (st S a v0) (st S a z.2)) (F0 m 86 ls [.int t1, .int t0]) := by
  intro hc H locs hW ls hl
  have hx := hM.1
  have hb := hM.2.1
  refine lv_iadd hx hb dX13_years_86 ?_
  refine lv_topi (fun y1 ey1 => ?_)
  have hf := nm_at ey1 hf
  refine lv_istore (lv' := [(4, .int y1), (0, .ref a), (2, .int x2), (3, .int x3), (5, .int x5)]) hx hb dX13_years_87 hl (by decide) rfl (fun ls hl => ?_)
  refine lv_aload_n hx hb dX13_years_89 rfl (lv_at hl 1 rfl) ?_
  refine lv_sipush (v := (1452 : Int32)) hx hb dX13_years_90 (by decide) ?_
  obtain ⟨v3, hr2, hf⟩ := bd_elim hf
  refine b_callVv [.int (1452 : Int32)] [] hM hml hl.1 hW hc rfl (by decide) (c_X13_passes l G fu _ a v _ hc hr2) (cwV 1 hM.2.2.2.1 (gV mk_RX13_393 im_X13_passes se_X13_passes it_RX13 cd_X13_passes) rfl rfl rfl (by decide +kernel) ⟨Nat.le_of_ble_eq_true rfl, Nat.le_of_ble_eq_true rfl⟩) rfl rfl (Nat.le_of_ble_eq_true rfl) ⟨Nat.zero_le _, Nat.zero_le _⟩ dX13_years_93 (fun H locs hW hk => ?_)
  have hc := keep_at hc hk
  obtain ⟨y4, ey4⟩ : ∃ y : Int32, y = x5 + (1 : Int32) := ⟨_, rfl⟩
  have hf := nm_at ey4 hf
  refine lv_iinc (v := y4) (lv' := [(5, .int y4), (4, .int y1), (0, .ref a), (2, .int x2), (3, .int x3)]) hx hb dX13_years_96 hl (k := 4) rfl (by rw [ey4]; rfl) (by decide) rfl (fun ls hl => ?_)
  refine lv_goto (tgt := 59) hx hb dX13_years_99 (by decide) ?_
  exact hk59 _ _ _ hf hc _ _ hW _ (lv_sub hl [2, 3, 4, 1, 0] rfl)
noncomputable def f_X13_years_85 (fu : Nat) (k59 : Int32 → Int32 → GV → Option (Int32 × GV)) (v : GV) (x2 : Int32) (x3 : Int32) (x5 : Int32) (t0 : Int32) : Option (Int32 × GV) :=
  f_X13_years_86 fu k59 v x2 x3 x5 t0 (0 : Int32)
set_option maxHeartbeats 4000000 in
set_option maxRecDepth 100000 in
theorem t_X13_years_85 {G : GG} {p : Program} {l : Launch} {e : Env} {s : State} {m : MethodId} {args : Array Value} {below : List Frame} {meth : Method} {c : Code} {S : ST} {fu : Nat} {z : Int32 × GV} {a : Nat} {v0 : GV} {k59 : Int32 → Int32 → GV → Option (Int32 × GV)} {v : GV} {x2 : Int32} {x3 : Int32} {x5 : Int32} {t0 : Int32} (hM : MC G p s m args c cX13_years w_X13_years RX13) (hml : c.maxLocals = 6) (hr : meth.sig.returnType = (some .int)) (hlk : meth.locks = false) (hc0 : gC v0 = 12) (hk59 : ∀ (x4 : Int32) (x5 : Int32) (v : GV), k59 x4 x5 v = some z → gC v = 12 → ∀ (H : Heap) (locs : List Loc), WB G (st S a v) s H locs → ∀ (ls : Array Slot), lv_has ls 6 [(0, .ref a), (2, .int x2), (3, .int x3), (4, .int x4), (5, .int x5)] → W p l e RM_X13_years s m args below meth c H locs 0 0 (QR G below args s (some (.int z.1)) (st S a v0) (st S a z.2)) (F0 m 59 ls [])) (hf : f_X13_years_85 fu k59 v x2 x3 x5 t0 = some z) : gC v = 12 → ∀ (H : Heap) (locs : List Loc), WB G (st S a v) s H locs → ∀ (ls : Array Slot), lv_has ls 6 [(0, .ref a), (2, .int x2), (3, .int x3), (5, .int x5)] → W p l e RM_X13_years s m args below meth c H locs 0 0 (QR G below args s (some (.int z.1)) (st S a v0) (st S a z.2)) (F0 m 85 ls [.int t0]) := by
  intro hc H locs hW ls hl
  have hx := hM.1
  have hb := hM.2.1
  refine lv_iconst (v := (0 : Int32)) hx hb dX13_years_85 (by decide) ?_
  exact t_X13_years_86 (fu := fu) hM hml hr hlk hc0 hk59 hf hc _ _ hW _ (lv_sub hl [0, 1, 2, 3] rfl)
noncomputable def f_X13_years_59s (fu : Nat)  (k59 : Int32 → Int32 → GV → Option (Int32 × GV)) (x2 : Int32) (x3 : Int32) (x4 : Int32) (x5 : Int32) (v : GV) : Option (Int32 × GV) :=
  if x2 ≤ x5 then
    (if x3 = 0 then
      (some (x4, v))
    else
      (if x3 = (1 : Int32) then
        (bd (f_X13_coinsOf fu v (1452 : Int32)) fun r8 =>
        some (r8, v))
      else
        (bd (f_X13_hanging fu v (1452 : Int32)) fun r4 =>
        nm (((1455 : Int32) + r4)) fun y5 =>
        ck (inb y5 1518) <|
        bd (f_X13_bits fu (gA v 24 y5.toNatClampNeg)) fun r7 =>
        some (r7, v))))
  else
    (bd (f_X13_thieves fu v) fun r9 =>
    if r9 ≤ 0 then
      (f_X13_years_85 fu k59 v x2 x3 x5 x4)
    else
      (bd2 (f_X13_drawsNight fu v) fun r11 v12 =>
      if r11 = 0 then
        (f_X13_years_85 fu k59 v12 x2 x3 x5 x4)
      else
        (f_X13_years_86 fu k59 v12 x2 x3 x5 x4 (1 : Int32))))
noncomputable def f_X13_years_59 (fu n : Nat)  (x2 : Int32) (x3 : Int32) : Int32 → Int32 → GV → Option (Int32 × GV) :=
  lq_3 (fun k59 => f_X13_years_59s fu  k59 x2 x3) n
set_option maxHeartbeats 4000000 in
set_option maxRecDepth 100000 in
theorem t_X13_years_59s {G : GG} {p : Program} {l : Launch} {e : Env} {s : State} {m : MethodId} {args : Array Value} {below : List Frame} {meth : Method} {c : Code} {S : ST} {fu : Nat} {z : Int32 × GV} {a : Nat} {v0 : GV}  (hM : MC G p s m args c cX13_years w_X13_years RX13) (hml : c.maxLocals = 6) (hr : meth.sig.returnType = (some .int)) (hlk : meth.locks = false) (hc0 : gC v0 = 12) {k59 : Int32 → Int32 → GV → Option (Int32 × GV)} {x2 : Int32} {x3 : Int32}  (hk59 : ∀ (x4 : Int32) (x5 : Int32) (v : GV), k59 x4 x5 v = some z → gC v = 12 → ∀ (H : Heap) (locs : List Loc), WB G (st S a v) s H locs → ∀ (ls : Array Slot), lv_has ls 6 [(0, .ref a), (2, .int x2), (3, .int x3), (4, .int x4), (5, .int x5)] → W p l e RM_X13_years s m args below meth c H locs 0 0 (QR G below args s (some (.int z.1)) (st S a v0) (st S a z.2)) (F0 m 59 ls [])) : ∀ (x4 : Int32) (x5 : Int32) (v : GV), f_X13_years_59s fu  k59 x2 x3 x4 x5 v = some z → gC v = 12 → ∀ (H : Heap) (locs : List Loc), WB G (st S a v) s H locs → ∀ (ls : Array Slot), lv_has ls 6 [(0, .ref a), (2, .int x2), (3, .int x3), (4, .int x4), (5, .int x5)] → W p l e RM_X13_years s m args below meth c H locs 0 0 (QR G below args s (some (.int z.1)) (st S a v0) (st S a z.2)) (F0 m 59 ls []) := by
  intro x4 x5 v hf hc H locs hW ls hl
  have hx := hM.1
  have hb := hM.2.1
  refine lv_iload hx hb dX13_years_59 (lv_at hl 4 rfl) ?_
  refine lv_iload_n hx hb dX13_years_61 rfl (lv_at hl 1 rfl) ?_
  refine lv_icmp_ge (tgt := 102) hx hb dX13_years_62 (by decide) (fun c1 => ?_) (fun c1 => ?_)
  · have hf := if_t c1 hf
    refine lv_iload_n hx hb dX13_years_102 rfl (lv_at hl 2 rfl) ?_
    refine lv_if_ne (tgt := 111) hx hb dX13_years_103 (by decide) (fun c2 => ?_) (fun c2 => ?_)
    · have hf := if_f c2 hf
      refine lv_iload_n hx hb dX13_years_111 rfl (lv_at hl 2 rfl) ?_
      refine lv_iconst (v := (1 : Int32)) hx hb dX13_years_112 (by decide) ?_
      refine lv_icmp_ne (tgt := 126) hx hb dX13_years_113 (by decide) (fun c3 => ?_) (fun c3 => ?_)
      · have hf := if_f c3 hf
        refine lv_aload_n hx hb dX13_years_126 rfl (lv_at hl 0 rfl) ?_
        refine b_get hM hW 11 24 hc rfl rfl (by decide) wi_X13 (wgm fk_RX13_125) (x := .ref (a + 16)) rfl dX13_years_127 ?_
        refine lv_sipush (v := (1455 : Int32)) hx hb dX13_years_130 (by decide) ?_
        refine lv_aload_n hx hb dX13_years_133 rfl (lv_at hl 0 rfl) ?_
        refine lv_sipush (v := (1452 : Int32)) hx hb dX13_years_134 (by decide) ?_
        obtain ⟨r4, hr4, hf⟩ := bd_elim hf
        refine b_callVi [.int (1452 : Int32)] [.int (1455 : Int32), .ref (a + 16)] hM hml hl.1 hW hc rfl (by decide) (c_X13_hanging l G fu _ a v _ hc hr4) (cwV 1 hM.2.2.2.1 (gV mk_RX13_364 im_X13_hanging se_X13_hanging it_RX13 cd_X13_hanging) rfl rfl rfl (by decide +kernel) ⟨Nat.le_of_ble_eq_true rfl, Nat.le_of_ble_eq_true rfl⟩) rfl rfl (Nat.le_of_ble_eq_true rfl) ⟨Nat.zero_le _, Nat.zero_le _⟩ dX13_years_137 (fun H locs hW hk => ?_)
        refine lv_iadd hx hb dX13_years_140 ?_
        refine lv_topi (fun y5 ey5 => ?_)
        have hf := nm_at ey5 hf
        obtain ⟨h6, hf⟩ := ck_elim hf
        refine b_iald (n := 1518) hM hW 11 24 hc (by decide) rfl rfl rfl rfl h6 dX13_years_141 ?_
        obtain ⟨r7, hr7, hf⟩ := bd_elim hf
        refine b_callSi [.int (gA v 24 y5.toNatClampNeg)] [] hM hml hl.1 hW (c_X13_bits l G fu _ _ hr7) (va_cwS 1 hM.2.2.2.1 (gS mk_RX13_339 sm_X13_bits it_RX13 cd_X13_bits) rfl rfl rfl (by decide +kernel) ⟨Nat.le_of_ble_eq_true rfl, Nat.le_of_ble_eq_true rfl⟩) rfl rfl (Nat.le_of_ble_eq_true rfl) ⟨Nat.zero_le _, Nat.zero_le _⟩ dX13_years_142 (fun H locs hW hk => ?_)
        cases hf
        exact W.iret hx hb hr (b_ret0 hW (keep_s2 hc0 hc) _) hW.2.2.2 dX13_years_145 hlk
      · have hf := if_t c3 hf
        refine lv_aload_n hx hb dX13_years_116 rfl (lv_at hl 0 rfl) ?_
        refine lv_sipush (v := (1452 : Int32)) hx hb dX13_years_117 (by decide) ?_
        obtain ⟨r8, hr8, hf⟩ := bd_elim hf
        refine b_callVi [.int (1452 : Int32)] [] hM hml hl.1 hW hc rfl (by decide) (c_X13_coinsOf l G fu _ a v _ hc hr8) (cwV 1 hM.2.2.2.1 (gV mk_RX13_403 im_X13_coinsOf se_X13_coinsOf it_RX13 cd_X13_coinsOf) rfl rfl rfl (by decide +kernel) ⟨Nat.le_of_ble_eq_true rfl, Nat.le_of_ble_eq_true rfl⟩) rfl rfl (Nat.le_of_ble_eq_true rfl) ⟨Nat.zero_le _, Nat.zero_le _⟩ dX13_years_120 (fun H locs hW hk => ?_)
        refine lv_goto (tgt := 145) hx hb dX13_years_123 (by decide) ?_
        cases hf
        exact W.iret hx hb hr (b_ret0 hW (keep_s2 hc0 hc) _) hW.2.2.2 dX13_years_145 hlk
    · have hf := if_t c2 hf
      refine lv_iload hx hb dX13_years_106 (lv_at hl 3 rfl) ?_
      refine lv_goto (tgt := 145) hx hb dX13_years_108 (by decide) ?_
      cases hf
      exact W.iret hx hb hr (b_ret0 hW (keep_s2 hc0 hc) _) hW.2.2.2 dX13_years_145 hlk
  · have hf := if_f c1 hf
    refine lv_iload hx hb dX13_years_65 (lv_at hl 3 rfl) ?_
    refine lv_aload_n hx hb dX13_years_67 rfl (lv_at hl 0 rfl) ?_
    obtain ⟨r9, hr9, hf⟩ := bd_elim hf
    refine b_callVi [] [.int x4] hM hml hl.1 hW hc rfl (by decide) (c_X13_thieves l G fu _ a v hc hr9) (cwV 0 hM.2.2.2.1 (gV mk_RX13_320 im_X13_thieves se_X13_thieves it_RX13 cd_X13_thieves) rfl rfl rfl (by decide +kernel) ⟨Nat.le_of_ble_eq_true rfl, Nat.le_of_ble_eq_true rfl⟩) rfl rfl (Nat.le_of_ble_eq_true rfl) ⟨Nat.zero_le _, Nat.zero_le _⟩ dX13_years_68 (fun H locs hW hk => ?_)
    refine lv_if_le (tgt := 85) hx hb dX13_years_71 (by decide) (fun c10 => ?_) (fun c10 => ?_)
    · have hf := if_t c10 hf
      exact t_X13_years_85 (fu := fu) hM hml hr hlk hc0 hk59 hf hc _ _ hW _ (lv_sub hl [0, 1, 2, 4] rfl)
    · have hf := if_f c10 hf
      refine lv_aload_n hx hb dX13_years_74 rfl (lv_at hl 0 rfl) ?_
      obtain ⟨r11, v12, hr11, hf⟩ := bd2_elim hf
      refine b_callVi [] [.int x4] hM hml hl.1 hW hc rfl (by decide) (c_X13_drawsNight l G fu _ a v hc hr11) (cwV 0 hM.2.2.2.1 (gV mk_RX13_475 im_X13_drawsNight se_X13_drawsNight it_RX13 cd_X13_drawsNight) rfl rfl rfl (by decide +kernel) ⟨Nat.le_of_ble_eq_true rfl, Nat.le_of_ble_eq_true rfl⟩) rfl rfl (Nat.le_of_ble_eq_true rfl) ⟨Nat.zero_le _, Nat.zero_le _⟩ dX13_years_75 (fun H locs hW hk => ?_)
      have hc := keep_at hc hk
      refine lv_if_eq (tgt := 85) hx hb dX13_years_78 (by decide) (fun c13 => ?_) (fun c13 => ?_)
      · have hf := if_t c13 hf
        exact t_X13_years_85 (fu := fu) hM hml hr hlk hc0 hk59 hf hc _ _ hW _ (lv_sub hl [0, 1, 2, 4] rfl)
      · have hf := if_f c13 hf
        refine lv_iconst (v := (1 : Int32)) hx hb dX13_years_81 (by decide) ?_
        refine lv_goto (tgt := 86) hx hb dX13_years_82 (by decide) ?_
        exact t_X13_years_86 (fu := fu) hM hml hr hlk hc0 hk59 hf hc _ _ hW _ (lv_sub hl [0, 1, 2, 4] rfl)
theorem t_X13_years_59 {G : GG} {p : Program} {l : Launch} {e : Env} {s : State} {m : MethodId} {args : Array Value} {below : List Frame} {meth : Method} {c : Code} {S : ST} {fu : Nat} {z : Int32 × GV} {a : Nat} {v0 : GV}  {x2 : Int32} {x3 : Int32} (hM : MC G p s m args c cX13_years w_X13_years RX13) (hml : c.maxLocals = 6) (hr : meth.sig.returnType = (some .int)) (hlk : meth.locks = false) (hc0 : gC v0 = 12)  : ∀ {n : Nat} (x4 : Int32) (x5 : Int32) (v : GV), f_X13_years_59 fu n  x2 x3 x4 x5 v = some z → gC v = 12 → ∀ (H : Heap) (locs : List Loc), WB G (st S a v) s H locs → ∀ (ls : Array Slot), lv_has ls 6 [(0, .ref a), (2, .int x2), (3, .int x3), (4, .int x4), (5, .int x5)] → W p l e RM_X13_years s m args below meth c H locs 0 0 (QR G below args s (some (.int z.1)) (st S a v0) (st S a z.2)) (F0 m 59 ls []) := by
  intro n
  induction n with
  | zero => intro x4 x5 v hf; cases hf
  | succ n ih => intro x4 x5 v hf; exact t_X13_years_59s (fu := fu) hM hml hr hlk hc0  (k59 := f_X13_years_59 fu n  x2 x3) ih _ _ _ hf
noncomputable def f_X13_years_35 (fu : Nat)  (v : GV) : Option (Int32 × GV) :=
  some ((-1 : Int32), v)
set_option maxHeartbeats 4000000 in
set_option maxRecDepth 100000 in
theorem t_X13_years_35 {G : GG} {p : Program} {l : Launch} {e : Env} {s : State} {m : MethodId} {args : Array Value} {below : List Frame} {meth : Method} {c : Code} {S : ST} {fu : Nat} {z : Int32 × GV} {a : Nat} {v0 : GV}  {v : GV} (hM : MC G p s m args c cX13_years w_X13_years RX13) (hml : c.maxLocals = 6) (hr : meth.sig.returnType = (some .int)) (hlk : meth.locks = false) (hc0 : gC v0 = 12)  (hf : f_X13_years_35 fu  v  = some z) : gC v = 12 → ∀ (H : Heap) (locs : List Loc), WB G (st S a v) s H locs → ∀ (ls : Array Slot), lv_has ls 6 [] → W p l e RM_X13_years s m args below meth c H locs 0 0 (QR G below args s (some (.int z.1)) (st S a v0) (st S a z.2)) (F0 m 35 ls []) := by
  intro hc H locs hW ls hl
  have hx := hM.1
  have hb := hM.2.1
  refine lv_iconst (v := (-1 : Int32)) hx hb dX13_years_35 (by decide) ?_
  cases hf
  exact W.iret hx hb hr (b_ret0 hW (keep_s2 hc0 hc) _) hW.2.2.2 dX13_years_36 hlk
noncomputable def f_X13_years_0 (fu : Nat)  (v : GV) (x1 : Int32) (x2 : Int32) (x3 : Int32) : Option (Int32 × GV) :=
  nm (sI v 0 (0 : Int32)) fun v1 =>
  bd (f_X13_within fu x1 (0 : Int32) (9999 : Int32)) fun r2 =>
  if r2 = 0 then
    (f_X13_years_35 fu v1)
  else
    (bd (f_X13_within fu x2 (1 : Int32) (60 : Int32)) fun r4 =>
    if r4 = 0 then
      (f_X13_years_35 fu v1)
    else
      (bd (f_X13_within fu x3 (0 : Int32) (2 : Int32)) fun r6 =>
      if r6 = 0 then
        (f_X13_years_35 fu v1)
      else
        (bd (f_X13_copies fu v1 (0 : Int32) (1452 : Int32) (48 : Int32)) fun v9 =>
        nm (sJ v9 40 (x1).toInt64) fun v10 =>
        f_X13_years_59 fu fu x2 x3 (0 : Int32) (0 : Int32) v10)))
set_option maxHeartbeats 4000000 in
set_option maxRecDepth 100000 in
theorem t_X13_years_0 {G : GG} {p : Program} {l : Launch} {e : Env} {s : State} {m : MethodId} {args : Array Value} {below : List Frame} {meth : Method} {c : Code} {S : ST} {fu : Nat} {z : Int32 × GV} {a : Nat} {v0 : GV}  {v : GV} {x1 : Int32} {x2 : Int32} {x3 : Int32} (hM : MC G p s m args c cX13_years w_X13_years RX13) (hml : c.maxLocals = 6) (hr : meth.sig.returnType = (some .int)) (hlk : meth.locks = false) (hc0 : gC v0 = 12)  (hf : f_X13_years_0 fu  v x1 x2 x3 = some z) : gC v = 12 → ∀ (H : Heap) (locs : List Loc), WB G (st S a v) s H locs → ∀ (ls : Array Slot), lv_has ls 6 [(0, .ref a), (1, .int x1), (2, .int x2), (3, .int x3)] → W p l e RM_X13_years s m args below meth c H locs 0 0 (QR G below args s (some (.int z.1)) (st S a v0) (st S a z.2)) (F0 m 0 ls []) := by
  intro hc H locs hW ls hl
  have hx := hM.1
  have hb := hM.2.1
  refine lv_aload_n hx hb dX13_years_0 rfl (lv_at hl 0 rfl) ?_
  refine lv_iconst (v := (0 : Int32)) hx hb dX13_years_1 (by decide) ?_
  refine b_putI hM hW 11 0 hc rfl rfl (by decide) wi_X13 tyX13 tyX13_ok nmX13 (wgm fk_RX13_1) rfl rfl rfl dX13_years_2 (fun v1 ev1 hc H locs hW => ?_)
  have hf := nm_at ev1 hf
  refine lv_iload_n hx hb dX13_years_5 rfl (lv_at hl 1 rfl) ?_
  refine lv_iconst (v := (0 : Int32)) hx hb dX13_years_6 (by decide) ?_
  refine lv_sipush (v := (9999 : Int32)) hx hb dX13_years_7 (by decide) ?_
  obtain ⟨r2, hr2, hf⟩ := bd_elim hf
  refine b_callSi [.int x1, .int (0 : Int32), .int (9999 : Int32)] [] hM hml hl.1 hW (c_X13_within l G fu _ _ _ _ hr2) (va_cwS 3 hM.2.2.2.1 (gS mk_RX13_231 sm_X13_within it_RX13 cd_X13_within) rfl rfl rfl (by decide +kernel) ⟨Nat.le_of_ble_eq_true rfl, Nat.le_of_ble_eq_true rfl⟩) rfl rfl (Nat.le_of_ble_eq_true rfl) ⟨Nat.zero_le _, Nat.zero_le _⟩ dX13_years_10 (fun H locs hW hk => ?_)
  refine lv_if_eq (tgt := 35) hx hb dX13_years_13 (by decide) (fun c3 => ?_) (fun c3 => ?_)
  · have hf := if_t c3 hf
    exact t_X13_years_35 (fu := fu) hM hml hr hlk hc0 hf hc _ _ hW _ (lv_sub hl [] rfl)
  · have hf := if_f c3 hf
    refine lv_iload_n hx hb dX13_years_16 rfl (lv_at hl 2 rfl) ?_
    refine lv_iconst (v := (1 : Int32)) hx hb dX13_years_17 (by decide) ?_
    refine lv_bipush (v := (60 : Int32)) hx hb dX13_years_18 (by decide) ?_
    obtain ⟨r4, hr4, hf⟩ := bd_elim hf
    refine b_callSi [.int x2, .int (1 : Int32), .int (60 : Int32)] [] hM hml hl.1 hW (c_X13_within l G fu _ _ _ _ hr4) (va_cwS 3 hM.2.2.2.1 (gS mk_RX13_231 sm_X13_within it_RX13 cd_X13_within) rfl rfl rfl (by decide +kernel) ⟨Nat.le_of_ble_eq_true rfl, Nat.le_of_ble_eq_true rfl⟩) rfl rfl (Nat.le_of_ble_eq_true rfl) ⟨Nat.zero_le _, Nat.zero_le _⟩ dX13_years_20 (fun H locs hW hk => ?_)
    refine lv_if_eq (tgt := 35) hx hb dX13_years_23 (by decide) (fun c5 => ?_) (fun c5 => ?_)
    · have hf := if_t c5 hf
      exact t_X13_years_35 (fu := fu) hM hml hr hlk hc0 hf hc _ _ hW _ (lv_sub hl [] rfl)
    · have hf := if_f c5 hf
      refine lv_iload_n hx hb dX13_years_26 rfl (lv_at hl 3 rfl) ?_
      refine lv_iconst (v := (0 : Int32)) hx hb dX13_years_27 (by decide) ?_
      refine lv_iconst (v := (2 : Int32)) hx hb dX13_years_28 (by decide) ?_
      obtain ⟨r6, hr6, hf⟩ := bd_elim hf
      refine b_callSi [.int x3, .int (0 : Int32), .int (2 : Int32)] [] hM hml hl.1 hW (c_X13_within l G fu _ _ _ _ hr6) (va_cwS 3 hM.2.2.2.1 (gS mk_RX13_231 sm_X13_within it_RX13 cd_X13_within) rfl rfl rfl (by decide +kernel) ⟨Nat.le_of_ble_eq_true rfl, Nat.le_of_ble_eq_true rfl⟩) rfl rfl (Nat.le_of_ble_eq_true rfl) ⟨Nat.zero_le _, Nat.zero_le _⟩ dX13_years_29 (fun H locs hW hk => ?_)
      refine lv_if_ne (tgt := 37) hx hb dX13_years_32 (by decide) (fun c7 => ?_) (fun c7 => ?_)
      · have hf := if_f c7 hf
        refine lv_aload_n hx hb dX13_years_37 rfl (lv_at hl 0 rfl) ?_
        refine lv_iconst (v := (0 : Int32)) hx hb dX13_years_38 (by decide) ?_
        refine lv_sipush (v := (1452 : Int32)) hx hb dX13_years_39 (by decide) ?_
        refine lv_bipush (v := (48 : Int32)) hx hb dX13_years_42 (by decide) ?_
        obtain ⟨v9, hr8, hf⟩ := bd_elim hf
        refine b_callVv [.int (0 : Int32), .int (1452 : Int32), .int (48 : Int32)] [] hM hml hl.1 hW hc rfl (by decide) (c_X13_copies l G fu _ a v1 _ _ _ hc hr8) (cwV 3 hM.2.2.2.1 (gV mk_RX13_332 im_X13_copies se_X13_copies it_RX13 cd_X13_copies) rfl rfl rfl (by decide +kernel) ⟨Nat.le_of_ble_eq_true rfl, Nat.le_of_ble_eq_true rfl⟩) rfl rfl (Nat.le_of_ble_eq_true rfl) ⟨Nat.zero_le _, Nat.zero_le _⟩ dX13_years_44 (fun H locs hW hk => ?_)
        have hc := keep_at hc hk
        refine lv_aload_n hx hb dX13_years_47 rfl (lv_at hl 0 rfl) ?_
        refine lv_iload_n hx hb dX13_years_48 rfl (lv_at hl 1 rfl) ?_
        refine lv_i2l hx hb dX13_years_49 rfl ?_
        refine b_putJ hM hW 11 40 hc rfl rfl (by decide) wi_X13 tyX13 tyX13_ok nmX13 (wgm fk_RX13_460) rfl rfl rfl dX13_years_50 (fun v10 ev10 hc H locs hW => ?_)
        have hf := nm_at ev10 hf
        refine lv_iconst (v := (0 : Int32)) hx hb dX13_years_53 (by decide) ?_
        refine lv_istore (lv' := [(4, .int (0 : Int32)), (0, .ref a), (1, .int x1), (2, .int x2), (3, .int x3)]) hx hb dX13_years_54 hl (by decide) rfl (fun ls hl => ?_)
        refine lv_iconst (v := (0 : Int32)) hx hb dX13_years_56 (by decide) ?_
        refine lv_istore (lv' := [(5, .int (0 : Int32)), (4, .int (0 : Int32)), (0, .ref a), (1, .int x1), (2, .int x2), (3, .int x3)]) hx hb dX13_years_57 hl (by decide) rfl (fun ls hl => ?_)
        exact t_X13_years_59 (fu := fu) hM hml hr hlk hc0 _ _ _ hf hc _ _ hW _ (lv_sub hl [2, 4, 5, 1, 0] rfl)
      · have hf := if_t c7 hf
        exact t_X13_years_35 (fu := fu) hM hml hr hlk hc0 hf hc _ _ hW _ (lv_sub hl [] rfl)
noncomputable def f_X13_years (fu : Nat) (v : GV) (x1 : Int32) (x2 : Int32) (x3 : Int32) : Option (Int32 × GV) := f_X13_years_0 fu v x1 x2 x3
set_option maxHeartbeats 4000000 in
set_option maxRecDepth 100000 in
theorem c_X13_years (l : Launch) (G : GG) (fu : Nat) (S : ST) (a : Nat) (v : GV) (x1 : Int32) (x2 : Int32) (x3 : Int32) {z : Int32} {w : GV} (hc : gC v = 12) (hf : f_X13_years fu v x1 x2 x3 = some (z, w)) : Ct l yX13_years w_X13_years RM_X13_years G (st S a v) [.ref a, .int x1, .int x2, .int x3] (some (.int z)) (st S a w) 0 0 := by
  refine Met.ofW (cc := cX13_years) (maxL := 6) (ret := (some .int)) (by decide) rfl ?_
  intro p e s m args below meth c s₁ B hml hv
  obtain ⟨rfl, hB, hK, hz⟩ := hv
  have hM : MC G p s m _ c cX13_years w_X13_years RX13 := ⟨B.exec, B.bytes, findClass_of_methodNamed B.named, atoms_spec (ws := w_X13_years) B.pre, hK, hz⟩
  have hW : WB G (st S a v) s s.heap [] := ⟨hB, va_S.rf⟩
  have hl := lv_entry ([.ref a, .int x1, .int x2, .int x3]) (n := 6) (Nat.le_of_ble_eq_true rfl)
  rw [lg_entry_eq]
  generalize (lg_sl ([.ref a, .int x1, .int x2, .int x3]) ++ List.replicate (6 - (lg_sl ([.ref a, .int x1, .int x2, .int x3])).length) Slot.unset).toArray = ls at hl ⊢
  have hl : lv_has ls 6 [(0, .ref a), (1, .int x1), (2, .int x2), (3, .int x3)] := hl
  exact t_X13_years_0 hM hml B.returns B.notSynchronized hc hf hc _ _ hW _ (lv_sub hl [0, 1, 2, 3] rfl)
abbrev w_X13_mark : List Cond := Cond.code yX13_mark cX13_mark 3 (some .boolean) :: wsL_law0
abbrev RM_X13_mark : Room := { frames := 1, cells := 0, slots := 0, locals := 24 }
noncomputable def f_X13_mark_83 (fu : Nat)  (v : GV) (t1 : Int32) : Option (Int32 × GV) :=
  nm (sI v 25 t1) fun v1 =>
  some ((1 : Int32), v1)
set_option maxHeartbeats 4000000 in
set_option maxRecDepth 100000 in
theorem t_X13_mark_83 {G : GG} {p : Program} {l : Launch} {e : Env} {s : State} {m : MethodId} {args : Array Value} {below : List Frame} {meth : Method} {c : Code} {S : ST} {fu : Nat} {z : Int32 × GV} {a : Nat} {v0 : GV}  {v : GV} {t1 : Int32} (hM : MC G p s m args c cX13_mark w_X13_mark RX13) (hml : c.maxLocals = 3) (hr : meth.sig.returnType = (some .boolean)) (hlk : meth.locks = false) (hc0 : gC v0 = 12)  (hf : f_X13_mark_83 fu  v t1 = some z) : gC v = 12 → ∀ (H : Heap) (locs : List Loc), WB G (st S a v) s H locs → ∀ (ls : Array Slot), lv_has ls 3 [] → W p l e RM_X13_mark s m args below meth c H locs 0 0 (QR G below args s (some (.int z.1)) (st S a v0) (st S a z.2)) (F0 m 83 ls [.int t1, .ref a]) := by
  intro hc H locs hW ls hl
  have hx := hM.1
  have hb := hM.2.1
  refine b_putI hM hW 11 25 hc rfl rfl (by decide) wi_X13 tyX13 tyX13_ok nmX13 (wgm fk_RX13_329) rfl rfl rfl dX13_mark_83 (fun v1 ev1 hc H locs hW => ?_)
  have hf := nm_at ev1 hf
  refine lv_iconst (v := (1 : Int32)) hx hb dX13_mark_86 (by decide) ?_
  cases hf
  exact W.zret (v := (1 : Int32)) hx hb hr (by decide) (b_ret0 hW (keep_s2 hc0 hc) _) hW.2.2.2 dX13_mark_87 hlk
noncomputable def f_X13_mark_65 (fu : Nat)  (v : GV) (x2 : Int32) (t1 : Int32) (t2 : Int32) : Option (Int32 × GV) :=
  bd (f_X13_copies fu v t1 t2 (66 : Int32)) fun v2 =>
  if x2 = 0 then
    (f_X13_mark_83 fu v2 (gI v2 25))
  else
    (f_X13_mark_83 fu v2 (0 : Int32))
set_option maxHeartbeats 4000000 in
set_option maxRecDepth 100000 in
theorem t_X13_mark_65 {G : GG} {p : Program} {l : Launch} {e : Env} {s : State} {m : MethodId} {args : Array Value} {below : List Frame} {meth : Method} {c : Code} {S : ST} {fu : Nat} {z : Int32 × GV} {a : Nat} {v0 : GV}  {v : GV} {x2 : Int32} {t1 : Int32} {t2 : Int32} (hM : MC G p s m args c cX13_mark w_X13_mark RX13) (hml : c.maxLocals = 3) (hr : meth.sig.returnType = (some .boolean)) (hlk : meth.locks = false) (hc0 : gC v0 = 12)  (hf : f_X13_mark_65 fu  v x2 t1 t2 = some z) : gC v = 12 → ∀ (H : Heap) (locs : List Loc), WB G (st S a v) s H locs → ∀ (ls : Array Slot), lv_has ls 3 [(0, .ref a), (2, .int x2)] → W p l e RM_X13_mark s m args below meth c H locs 0 0 (QR G below args s (some (.int z.1)) (st S a v0) (st S a z.2)) (F0 m 65 ls [.int t2, .int t1, .ref a]) := by
  intro hc H locs hW ls hl
  have hx := hM.1
  have hb := hM.2.1
  refine lv_bipush (v := (66 : Int32)) hx hb dX13_mark_65 (by decide) ?_
  obtain ⟨v2, hr1, hf⟩ := bd_elim hf
  refine b_callVv [.int t1, .int t2, .int (66 : Int32)] [] hM hml hl.1 hW hc rfl (by decide) (c_X13_copies l G fu _ a v _ _ _ hc hr1) (cwV 3 hM.2.2.2.1 (gV mk_RX13_332 im_X13_copies se_X13_copies it_RX13 cd_X13_copies) rfl rfl rfl (by decide +kernel) ⟨Nat.le_of_ble_eq_true rfl, Nat.le_of_ble_eq_true rfl⟩) rfl rfl (Nat.le_of_ble_eq_true rfl) ⟨Nat.zero_le _, Nat.zero_le _⟩ dX13_mark_67 (fun H locs hW hk => ?_)
  have hc := keep_at hc hk
  refine lv_aload_n hx hb dX13_mark_70 rfl (lv_at hl 0 rfl) ?_
  refine lv_iload_n hx hb dX13_mark_71 rfl (lv_at hl 1 rfl) ?_
  refine lv_if_eq (tgt := 79) hx hb dX13_mark_72 (by decide) (fun c3 => ?_) (fun c3 => ?_)
  · have hf := if_t c3 hf
    refine lv_aload_n hx hb dX13_mark_79 rfl (lv_at hl 0 rfl) ?_
    refine b_get hM hW 11 25 hc rfl rfl (by decide) wi_X13 (wgm fk_RX13_329) (x := .int (gI v2 25)) rfl dX13_mark_80 ?_
    exact t_X13_mark_83 (fu := fu) hM hml hr hlk hc0 hf hc _ _ hW _ (lv_sub hl [] rfl)
  · have hf := if_f c3 hf
    refine lv_iconst (v := (0 : Int32)) hx hb dX13_mark_75 (by decide) ?_
    refine lv_goto (tgt := 83) hx hb dX13_mark_76 (by decide) ?_
    exact t_X13_mark_83 (fu := fu) hM hml hr hlk hc0 hf hc _ _ hW _ (lv_sub hl [] rfl)
noncomputable def f_X13_mark_51 (fu : Nat)  (v : GV) (x1 : Int32) (x2 : Int32) (t1 : Int32) : Option (Int32 × GV) :=
  if x2 = 0 then
    (f_X13_mark_65 fu v x2 t1 ((66 : Int32) * ((1 : Int32) + x1)))
  else
    (f_X13_mark_65 fu v x2 t1 (0 : Int32))
set_option maxHeartbeats 4000000 in
set_option maxRecDepth 100000 in
theorem t_X13_mark_51 {G : GG} {p : Program} {l : Launch} {e : Env} {s : State} {m : MethodId} {args : Array Value} {below : List Frame} {meth : Method} {c : Code} {S : ST} {fu : Nat} {z : Int32 × GV} {a : Nat} {v0 : GV}  {v : GV} {x1 : Int32} {x2 : Int32} {t1 : Int32} (hM : MC G p s m args c cX13_mark w_X13_mark RX13) (hml : c.maxLocals = 3) (hr : meth.sig.returnType = (some .boolean)) (hlk : meth.locks = false) (hc0 : gC v0 = 12)  (hf : f_X13_mark_51 fu  v x1 x2 t1 = some z) : gC v = 12 → ∀ (H : Heap) (locs : List Loc), WB G (st S a v) s H locs → ∀ (ls : Array Slot), lv_has ls 3 [(0, .ref a), (1, .int x1), (2, .int x2)] → W p l e RM_X13_mark s m args below meth c H locs 0 0 (QR G below args s (some (.int z.1)) (st S a v0) (st S a z.2)) (F0 m 51 ls [.int t1, .ref a]) := by
  intro hc H locs hW ls hl
  have hx := hM.1
  have hb := hM.2.1
  refine lv_iload_n hx hb dX13_mark_51 rfl (lv_at hl 2 rfl) ?_
  refine lv_if_eq (tgt := 59) hx hb dX13_mark_52 (by decide) (fun c1 => ?_) (fun c1 => ?_)
  · have hf := if_t c1 hf
    refine lv_bipush (v := (66 : Int32)) hx hb dX13_mark_59 (by decide) ?_
    refine lv_iconst (v := (1 : Int32)) hx hb dX13_mark_61 (by decide) ?_
    refine lv_iload_n hx hb dX13_mark_62 rfl (lv_at hl 1 rfl) ?_
    refine lv_iadd hx hb dX13_mark_63 ?_
    refine lv_imul hx hb dX13_mark_64 ?_
    exact t_X13_mark_65 (fu := fu) hM hml hr hlk hc0 hf hc _ _ hW _ (lv_sub hl [0, 2] rfl)
  · have hf := if_f c1 hf
    refine lv_iconst (v := (0 : Int32)) hx hb dX13_mark_55 (by decide) ?_
    refine lv_goto (tgt := 65) hx hb dX13_mark_56 (by decide) ?_
    exact t_X13_mark_65 (fu := fu) hM hml hr hlk hc0 hf hc _ _ hW _ (lv_sub hl [0, 2] rfl)
noncomputable def f_X13_mark_29 (fu : Nat)  (v : GV) (x1 : Int32) (x2 : Int32) : Option (Int32 × GV) :=
  ck (inb x1 4) <|
  nm (sA v 26 x1.toNatClampNeg (vp_nar .boolean (1 : Int32))) fun v2 =>
  if x2 = 0 then
    (f_X13_mark_51 fu v2 x1 x2 (0 : Int32))
  else
    (f_X13_mark_51 fu v2 x1 x2 ((66 : Int32) * ((1 : Int32) + x1)))
set_option maxHeartbeats 4000000 in
set_option maxRecDepth 100000 in
theorem t_X13_mark_29 {G : GG} {p : Program} {l : Launch} {e : Env} {s : State} {m : MethodId} {args : Array Value} {below : List Frame} {meth : Method} {c : Code} {S : ST} {fu : Nat} {z : Int32 × GV} {a : Nat} {v0 : GV}  {v : GV} {x1 : Int32} {x2 : Int32} (hM : MC G p s m args c cX13_mark w_X13_mark RX13) (hml : c.maxLocals = 3) (hr : meth.sig.returnType = (some .boolean)) (hlk : meth.locks = false) (hc0 : gC v0 = 12)  (hf : f_X13_mark_29 fu  v x1 x2 = some z) : gC v = 12 → ∀ (H : Heap) (locs : List Loc), WB G (st S a v) s H locs → ∀ (ls : Array Slot), lv_has ls 3 [(0, .ref a), (1, .int x1), (2, .int x2)] → W p l e RM_X13_mark s m args below meth c H locs 0 0 (QR G below args s (some (.int z.1)) (st S a v0) (st S a z.2)) (F0 m 29 ls []) := by
  intro hc H locs hW ls hl
  have hx := hM.1
  have hb := hM.2.1
  refine lv_aload_n hx hb dX13_mark_29 rfl (lv_at hl 0 rfl) ?_
  refine b_get hM hW 11 26 hc rfl rfl (by decide) wi_X13 (wgm fk_RX13_128) (x := .ref (a + 17)) rfl dX13_mark_30 ?_
  refine lv_iload_n hx hb dX13_mark_33 rfl (lv_at hl 1 rfl) ?_
  refine lv_iconst (v := (1 : Int32)) hx hb dX13_mark_34 (by decide) ?_
  obtain ⟨h1, hf⟩ := ck_elim hf
  refine b_zast (n := 4) hM hW 11 26 hc (by decide) rfl rfl rfl rfl h1 dX13_mark_35 (fun v2 ev2 hc H locs hW => ?_)
  have hf := nm_at ev2 hf
  refine lv_aload_n hx hb dX13_mark_36 rfl (lv_at hl 0 rfl) ?_
  refine lv_iload_n hx hb dX13_mark_37 rfl (lv_at hl 2 rfl) ?_
  refine lv_if_eq (tgt := 50) hx hb dX13_mark_38 (by decide) (fun c3 => ?_) (fun c3 => ?_)
  · have hf := if_t c3 hf
    refine lv_iconst (v := (0 : Int32)) hx hb dX13_mark_50 (by decide) ?_
    exact t_X13_mark_51 (fu := fu) hM hml hr hlk hc0 hf hc _ _ hW _ (lv_sub hl [0, 1, 2] rfl)
  · have hf := if_f c3 hf
    refine lv_bipush (v := (66 : Int32)) hx hb dX13_mark_41 (by decide) ?_
    refine lv_iconst (v := (1 : Int32)) hx hb dX13_mark_43 (by decide) ?_
    refine lv_iload_n hx hb dX13_mark_44 rfl (lv_at hl 1 rfl) ?_
    refine lv_iadd hx hb dX13_mark_45 ?_
    refine lv_imul hx hb dX13_mark_46 ?_
    refine lv_goto (tgt := 51) hx hb dX13_mark_47 (by decide) ?_
    exact t_X13_mark_51 (fu := fu) hM hml hr hlk hc0 hf hc _ _ hW _ (lv_sub hl [0, 1, 2] rfl)
noncomputable def f_X13_mark_27 (fu : Nat)  (v : GV) : Option (Int32 × GV) :=
  some ((0 : Int32), v)
set_option maxHeartbeats 4000000 in
set_option maxRecDepth 100000 in
theorem t_X13_mark_27 {G : GG} {p : Program} {l : Launch} {e : Env} {s : State} {m : MethodId} {args : Array Value} {below : List Frame} {meth : Method} {c : Code} {S : ST} {fu : Nat} {z : Int32 × GV} {a : Nat} {v0 : GV}  {v : GV} (hM : MC G p s m args c cX13_mark w_X13_mark RX13) (hml : c.maxLocals = 3) (hr : meth.sig.returnType = (some .boolean)) (hlk : meth.locks = false) (hc0 : gC v0 = 12)  (hf : f_X13_mark_27 fu  v  = some z) : gC v = 12 → ∀ (H : Heap) (locs : List Loc), WB G (st S a v) s H locs → ∀ (ls : Array Slot), lv_has ls 3 [] → W p l e RM_X13_mark s m args below meth c H locs 0 0 (QR G below args s (some (.int z.1)) (st S a v0) (st S a z.2)) (F0 m 27 ls []) := by
  intro hc H locs hW ls hl
  have hx := hM.1
  have hb := hM.2.1
  refine lv_iconst (v := (0 : Int32)) hx hb dX13_mark_27 (by decide) ?_
  cases hf
  exact W.zret (v := (0 : Int32)) hx hb hr (by decide) (b_ret0 hW (keep_s2 hc0 hc) _) hW.2.2.2 dX13_mark_28 hlk
noncomputable def f_X13_mark_0 (fu : Nat)  (v : GV) (x1 : Int32) (x2 : Int32) : Option (Int32 × GV) :=
  nm (sI v 0 (0 : Int32)) fun v1 =>
  bd (f_X13_within fu x1 (0 : Int32) (3 : Int32)) fun r2 =>
  if r2 = 0 then
    (f_X13_mark_27 fu v1)
  else
    (if x2 = 0 then
      (f_X13_mark_29 fu v1 x1 x2)
    else
      (ck (inb x1 4) <|
      if (gA v1 26 x1.toNatClampNeg) = 0 then
        (f_X13_mark_27 fu v1)
      else
        (f_X13_mark_29 fu v1 x1 x2)))
set_option maxHeartbeats 4000000 in
set_option maxRecDepth 100000 in
theorem t_X13_mark_0 {G : GG} {p : Program} {l : Launch} {e : Env} {s : State} {m : MethodId} {args : Array Value} {below : List Frame} {meth : Method} {c : Code} {S : ST} {fu : Nat} {z : Int32 × GV} {a : Nat} {v0 : GV}  {v : GV} {x1 : Int32} {x2 : Int32} (hM : MC G p s m args c cX13_mark w_X13_mark RX13) (hml : c.maxLocals = 3) (hr : meth.sig.returnType = (some .boolean)) (hlk : meth.locks = false) (hc0 : gC v0 = 12)  (hf : f_X13_mark_0 fu  v x1 x2 = some z) : gC v = 12 → ∀ (H : Heap) (locs : List Loc), WB G (st S a v) s H locs → ∀ (ls : Array Slot), lv_has ls 3 [(0, .ref a), (1, .int x1), (2, .int x2)] → W p l e RM_X13_mark s m args below meth c H locs 0 0 (QR G below args s (some (.int z.1)) (st S a v0) (st S a z.2)) (F0 m 0 ls []) := by
  intro hc H locs hW ls hl
  have hx := hM.1
  have hb := hM.2.1
  refine lv_aload_n hx hb dX13_mark_0 rfl (lv_at hl 0 rfl) ?_
  refine lv_iconst (v := (0 : Int32)) hx hb dX13_mark_1 (by decide) ?_
  refine b_putI hM hW 11 0 hc rfl rfl (by decide) wi_X13 tyX13 tyX13_ok nmX13 (wgm fk_RX13_1) rfl rfl rfl dX13_mark_2 (fun v1 ev1 hc H locs hW => ?_)
  have hf := nm_at ev1 hf
  refine lv_iload_n hx hb dX13_mark_5 rfl (lv_at hl 1 rfl) ?_
  refine lv_iconst (v := (0 : Int32)) hx hb dX13_mark_6 (by decide) ?_
  refine lv_iconst (v := (3 : Int32)) hx hb dX13_mark_7 (by decide) ?_
  obtain ⟨r2, hr2, hf⟩ := bd_elim hf
  refine b_callSi [.int x1, .int (0 : Int32), .int (3 : Int32)] [] hM hml hl.1 hW (c_X13_within l G fu _ _ _ _ hr2) (va_cwS 3 hM.2.2.2.1 (gS mk_RX13_231 sm_X13_within it_RX13 cd_X13_within) rfl rfl rfl (by decide +kernel) ⟨Nat.le_of_ble_eq_true rfl, Nat.le_of_ble_eq_true rfl⟩) rfl rfl (Nat.le_of_ble_eq_true rfl) ⟨Nat.zero_le _, Nat.zero_le _⟩ dX13_mark_8 (fun H locs hW hk => ?_)
  refine lv_if_eq (tgt := 27) hx hb dX13_mark_11 (by decide) (fun c3 => ?_) (fun c3 => ?_)
  · have hf := if_t c3 hf
    exact t_X13_mark_27 (fu := fu) hM hml hr hlk hc0 hf hc _ _ hW _ (lv_sub hl [] rfl)
  · have hf := if_f c3 hf
    refine lv_iload_n hx hb dX13_mark_14 rfl (lv_at hl 2 rfl) ?_
    refine lv_if_eq (tgt := 29) hx hb dX13_mark_15 (by decide) (fun c4 => ?_) (fun c4 => ?_)
    · have hf := if_t c4 hf
      exact t_X13_mark_29 (fu := fu) hM hml hr hlk hc0 hf hc _ _ hW _ (lv_sub hl [0, 1, 2] rfl)
    · have hf := if_f c4 hf
      refine lv_aload_n hx hb dX13_mark_18 rfl (lv_at hl 0 rfl) ?_
      refine b_get hM hW 11 26 hc rfl rfl (by decide) wi_X13 (wgm fk_RX13_128) (x := .ref (a + 17)) rfl dX13_mark_19 ?_
      refine lv_iload_n hx hb dX13_mark_22 rfl (lv_at hl 1 rfl) ?_
      obtain ⟨h5, hf⟩ := ck_elim hf
      refine b_zald (n := 4) hM hW 11 26 hc (by decide) rfl rfl rfl rfl h5 dX13_mark_23 ?_
      refine lv_if_ne (tgt := 29) hx hb dX13_mark_24 (by decide) (fun c6 => ?_) (fun c6 => ?_)
      · have hf := if_f c6 hf
        exact t_X13_mark_29 (fu := fu) hM hml hr hlk hc0 hf hc _ _ hW _ (lv_sub hl [0, 1, 2] rfl)
      · have hf := if_t c6 hf
        exact t_X13_mark_27 (fu := fu) hM hml hr hlk hc0 hf hc _ _ hW _ (lv_sub hl [] rfl)
noncomputable def f_X13_mark (fu : Nat) (v : GV) (x1 : Int32) (x2 : Int32) : Option (Int32 × GV) := f_X13_mark_0 fu v x1 x2
set_option maxHeartbeats 4000000 in
set_option maxRecDepth 100000 in
theorem c_X13_mark (l : Launch) (G : GG) (fu : Nat) (S : ST) (a : Nat) (v : GV) (x1 : Int32) (x2 : Int32) {z : Int32} {w : GV} (hc : gC v = 12) (hf : f_X13_mark fu v x1 x2 = some (z, w)) : Ct l yX13_mark w_X13_mark RM_X13_mark G (st S a v) [.ref a, .int x1, .int x2] (some (.int z)) (st S a w) 0 0 := by
  refine Met.ofW (cc := cX13_mark) (maxL := 3) (ret := (some .boolean)) (by decide) rfl ?_
  intro p e s m args below meth c s₁ B hml hv
  obtain ⟨rfl, hB, hK, hz⟩ := hv
  have hM : MC G p s m _ c cX13_mark w_X13_mark RX13 := ⟨B.exec, B.bytes, findClass_of_methodNamed B.named, atoms_spec (ws := w_X13_mark) B.pre, hK, hz⟩
  have hW : WB G (st S a v) s s.heap [] := ⟨hB, va_S.rf⟩
  have hl := lv_entry ([.ref a, .int x1, .int x2]) (n := 3) (Nat.le_of_ble_eq_true rfl)
  rw [lg_entry_eq]
  generalize (lg_sl ([.ref a, .int x1, .int x2]) ++ List.replicate (3 - (lg_sl ([.ref a, .int x1, .int x2])).length) Slot.unset).toArray = ls at hl ⊢
  have hl : lv_has ls 3 [(0, .ref a), (1, .int x1), (2, .int x2)] := hl
  exact t_X13_mark_0 hM hml B.returns B.notSynchronized hc hf hc _ _ hW _ (lv_sub hl [0, 1, 2] rfl)
abbrev w_X13_count : List Cond := Cond.code yX13_count cX13_count 2 (some .int) :: wsL_law0
abbrev RM_X13_count : Room := { frames := 2, cells := 0, slots := 0, locals := 43 }
noncomputable def f_X13_count_0 (fu : Nat)  (v : GV) (x1 : Int32) : Option (Int32 × GV) :=
  nm (sI v 0 (0 : Int32)) fun v1 =>
  if x1 = (0 : Int32) then
    (bd (f_X13_spots fu v1) fun r3 =>
    some (r3, v1))
  else
  if x1 = (1 : Int32) then
    (some ((gA v1 24 (2 : Int32).toNatClampNeg), v1))
  else
  if x1 = (2 : Int32) then
    (bd (f_X13_thieves fu v1) fun r6 =>
    some (r6, v1))
  else
  if x1 = (3 : Int32) then
    (bd (f_X13_experts fu v1) fun r8 =>
    some (r8, v1))
  else
  if x1 = (4 : Int32) then
    (some ((gA v1 24 (0 : Int32).toNatClampNeg), v1))
  else
  if x1 = (5 : Int32) then
    (bd (f_X13_hanging fu v1 (0 : Int32)) fun r11 =>
    some (r11, v1))
  else
  if x1 = (6 : Int32) then
    (bd (f_X13_coinsOf fu v1 (0 : Int32)) fun r13 =>
    some (r13, v1))
  else
  if x1 = (7 : Int32) then
    (some ((gA v1 24 (1 : Int32).toNatClampNeg), v1))
  else
  if x1 = (8 : Int32) then
    (some ((gA v1 21 (0 : Int32).toNatClampNeg), v1))
  else
  if x1 = (9 : Int32) then
    (some ((gA v1 24 (48 : Int32).toNatClampNeg), v1))
  else
  if x1 = (10 : Int32) then
    (some ((gI v1 25), v1))
  else
  if x1 = (11 : Int32) then
    (some ((gI v1 2), v1))
  else
  (some ((-1 : Int32), v1))
set_option maxHeartbeats 4000000 in
set_option maxRecDepth 100000 in
theorem t_X13_count_0 {G : GG} {p : Program} {l : Launch} {e : Env} {s : State} {m : MethodId} {args : Array Value} {below : List Frame} {meth : Method} {c : Code} {S : ST} {fu : Nat} {z : Int32 × GV} {a : Nat} {v0 : GV}  {v : GV} {x1 : Int32} (hM : MC G p s m args c cX13_count w_X13_count RX13) (hml : c.maxLocals = 2) (hr : meth.sig.returnType = (some .int)) (hlk : meth.locks = false) (hc0 : gC v0 = 12)  (hf : f_X13_count_0 fu  v x1 = some z) : gC v = 12 → ∀ (H : Heap) (locs : List Loc), WB G (st S a v) s H locs → ∀ (ls : Array Slot), lv_has ls 2 [(0, .ref a), (1, .int x1)] → W p l e RM_X13_count s m args below meth c H locs 0 0 (QR G below args s (some (.int z.1)) (st S a v0) (st S a z.2)) (F0 m 0 ls []) := by
  intro hc H locs hW ls hl
  have hx := hM.1
  have hb := hM.2.1
  refine lv_aload_n hx hb dX13_count_0 rfl (lv_at hl 0 rfl) ?_
  refine lv_iconst (v := (0 : Int32)) hx hb dX13_count_1 (by decide) ?_
  refine b_putI hM hW 11 0 hc rfl rfl (by decide) wi_X13 tyX13 tyX13_ok nmX13 (wgm fk_RX13_1) rfl rfl rfl dX13_count_2 (fun v1 ev1 hc H locs hW => ?_)
  have hf := nm_at ev1 hf
  refine lv_iload_n hx hb dX13_count_5 rfl (lv_at hl 1 rfl) ?_
  by_cases c2 : x1 = (0 : Int32)
  · have hf := if_t c2 hf
    refine lv_tableIn (off := 62) (tgt := 68) hx hb dX13_count_6 (by rw [c2]; decide) (by rw [c2]; decide) (by rw [c2]; rfl) (by decide) ?_
    refine lv_aload_n hx hb dX13_count_68 rfl (lv_at hl 0 rfl) ?_
    obtain ⟨r3, hr3, hf⟩ := bd_elim hf
    refine b_callVi [] [] hM hml hl.1 hW hc rfl (by decide) (c_X13_spots l G fu _ a v1 hc hr3) (cwV 0 hM.2.2.2.1 (gV mk_RX13_336 im_X13_spots se_X13_spots it_RX13 cd_X13_spots) rfl rfl rfl (by decide +kernel) ⟨Nat.le_of_ble_eq_true rfl, Nat.le_of_ble_eq_true rfl⟩) rfl rfl (Nat.le_of_ble_eq_true rfl) ⟨Nat.zero_le _, Nat.zero_le _⟩ dX13_count_69 (fun H locs hW hk => ?_)
    cases hf
    exact W.iret hx hb hr (b_ret0 hW (keep_s2 hc0 hc) _) hW.2.2.2 dX13_count_72 hlk
  have hf := if_f c2 hf
  by_cases c4 : x1 = (1 : Int32)
  · have hf := if_t c4 hf
    refine lv_tableIn (off := 67) (tgt := 73) hx hb dX13_count_6 (by rw [c4]; decide) (by rw [c4]; decide) (by rw [c4]; rfl) (by decide) ?_
    refine lv_aload_n hx hb dX13_count_73 rfl (lv_at hl 0 rfl) ?_
    refine b_get hM hW 11 24 hc rfl rfl (by decide) wi_X13 (wgm fk_RX13_125) (x := .ref (a + 16)) rfl dX13_count_74 ?_
    refine lv_iconst (v := (2 : Int32)) hx hb dX13_count_77 (by decide) ?_
    refine b_iald (n := 1518) hM hW 11 24 hc (by decide) rfl rfl rfl rfl (by decide) dX13_count_78 ?_
    cases hf
    exact W.iret hx hb hr (b_ret0 hW (keep_s2 hc0 hc) _) hW.2.2.2 dX13_count_79 hlk
  have hf := if_f c4 hf
  by_cases c5 : x1 = (2 : Int32)
  · have hf := if_t c5 hf
    refine lv_tableIn (off := 74) (tgt := 80) hx hb dX13_count_6 (by rw [c5]; decide) (by rw [c5]; decide) (by rw [c5]; rfl) (by decide) ?_
    refine lv_aload_n hx hb dX13_count_80 rfl (lv_at hl 0 rfl) ?_
    obtain ⟨r6, hr6, hf⟩ := bd_elim hf
    refine b_callVi [] [] hM hml hl.1 hW hc rfl (by decide) (c_X13_thieves l G fu _ a v1 hc hr6) (cwV 0 hM.2.2.2.1 (gV mk_RX13_320 im_X13_thieves se_X13_thieves it_RX13 cd_X13_thieves) rfl rfl rfl (by decide +kernel) ⟨Nat.le_of_ble_eq_true rfl, Nat.le_of_ble_eq_true rfl⟩) rfl rfl (Nat.le_of_ble_eq_true rfl) ⟨Nat.zero_le _, Nat.zero_le _⟩ dX13_count_81 (fun H locs hW hk => ?_)
    cases hf
    exact W.iret hx hb hr (b_ret0 hW (keep_s2 hc0 hc) _) hW.2.2.2 dX13_count_84 hlk
  have hf := if_f c5 hf
  by_cases c7 : x1 = (3 : Int32)
  · have hf := if_t c7 hf
    refine lv_tableIn (off := 79) (tgt := 85) hx hb dX13_count_6 (by rw [c7]; decide) (by rw [c7]; decide) (by rw [c7]; rfl) (by decide) ?_
    refine lv_aload_n hx hb dX13_count_85 rfl (lv_at hl 0 rfl) ?_
    obtain ⟨r8, hr8, hf⟩ := bd_elim hf
    refine b_callVi [] [] hM hml hl.1 hW hc rfl (by decide) (c_X13_experts l G fu _ a v1 hc hr8) (cwV 0 hM.2.2.2.1 (gV mk_RX13_436 im_X13_experts se_X13_experts it_RX13 cd_X13_experts) rfl rfl rfl (by decide +kernel) ⟨Nat.le_of_ble_eq_true rfl, Nat.le_of_ble_eq_true rfl⟩) rfl rfl (Nat.le_of_ble_eq_true rfl) ⟨Nat.zero_le _, Nat.zero_le _⟩ dX13_count_86 (fun H locs hW hk => ?_)
    cases hf
    exact W.iret hx hb hr (b_ret0 hW (keep_s2 hc0 hc) _) hW.2.2.2 dX13_count_89 hlk
  have hf := if_f c7 hf
  by_cases c9 : x1 = (4 : Int32)
  · have hf := if_t c9 hf
    refine lv_tableIn (off := 84) (tgt := 90) hx hb dX13_count_6 (by rw [c9]; decide) (by rw [c9]; decide) (by rw [c9]; rfl) (by decide) ?_
    refine lv_aload_n hx hb dX13_count_90 rfl (lv_at hl 0 rfl) ?_
    refine b_get hM hW 11 24 hc rfl rfl (by decide) wi_X13 (wgm fk_RX13_125) (x := .ref (a + 16)) rfl dX13_count_91 ?_
    refine lv_iconst (v := (0 : Int32)) hx hb dX13_count_94 (by decide) ?_
    refine b_iald (n := 1518) hM hW 11 24 hc (by decide) rfl rfl rfl rfl (by decide) dX13_count_95 ?_
    cases hf
    exact W.iret hx hb hr (b_ret0 hW (keep_s2 hc0 hc) _) hW.2.2.2 dX13_count_96 hlk
  have hf := if_f c9 hf
  by_cases c10 : x1 = (5 : Int32)
  · have hf := if_t c10 hf
    refine lv_tableIn (off := 91) (tgt := 97) hx hb dX13_count_6 (by rw [c10]; decide) (by rw [c10]; decide) (by rw [c10]; rfl) (by decide) ?_
    refine lv_aload_n hx hb dX13_count_97 rfl (lv_at hl 0 rfl) ?_
    refine lv_iconst (v := (0 : Int32)) hx hb dX13_count_98 (by decide) ?_
    obtain ⟨r11, hr11, hf⟩ := bd_elim hf
    refine b_callVi [.int (0 : Int32)] [] hM hml hl.1 hW hc rfl (by decide) (c_X13_hanging l G fu _ a v1 _ hc hr11) (cwV 1 hM.2.2.2.1 (gV mk_RX13_364 im_X13_hanging se_X13_hanging it_RX13 cd_X13_hanging) rfl rfl rfl (by decide +kernel) ⟨Nat.le_of_ble_eq_true rfl, Nat.le_of_ble_eq_true rfl⟩) rfl rfl (Nat.le_of_ble_eq_true rfl) ⟨Nat.zero_le _, Nat.zero_le _⟩ dX13_count_99 (fun H locs hW hk => ?_)
    cases hf
    exact W.iret hx hb hr (b_ret0 hW (keep_s2 hc0 hc) _) hW.2.2.2 dX13_count_102 hlk
  have hf := if_f c10 hf
  by_cases c12 : x1 = (6 : Int32)
  · have hf := if_t c12 hf
    refine lv_tableIn (off := 97) (tgt := 103) hx hb dX13_count_6 (by rw [c12]; decide) (by rw [c12]; decide) (by rw [c12]; rfl) (by decide) ?_
    refine lv_aload_n hx hb dX13_count_103 rfl (lv_at hl 0 rfl) ?_
    refine lv_iconst (v := (0 : Int32)) hx hb dX13_count_104 (by decide) ?_
    obtain ⟨r13, hr13, hf⟩ := bd_elim hf
    refine b_callVi [.int (0 : Int32)] [] hM hml hl.1 hW hc rfl (by decide) (c_X13_coinsOf l G fu _ a v1 _ hc hr13) (cwV 1 hM.2.2.2.1 (gV mk_RX13_403 im_X13_coinsOf se_X13_coinsOf it_RX13 cd_X13_coinsOf) rfl rfl rfl (by decide +kernel) ⟨Nat.le_of_ble_eq_true rfl, Nat.le_of_ble_eq_true rfl⟩) rfl rfl (Nat.le_of_ble_eq_true rfl) ⟨Nat.zero_le _, Nat.zero_le _⟩ dX13_count_105 (fun H locs hW hk => ?_)
    cases hf
    exact W.iret hx hb hr (b_ret0 hW (keep_s2 hc0 hc) _) hW.2.2.2 dX13_count_108 hlk
  have hf := if_f c12 hf
  by_cases c14 : x1 = (7 : Int32)
  · have hf := if_t c14 hf
    refine lv_tableIn (off := 103) (tgt := 109) hx hb dX13_count_6 (by rw [c14]; decide) (by rw [c14]; decide) (by rw [c14]; rfl) (by decide) ?_
    refine lv_aload_n hx hb dX13_count_109 rfl (lv_at hl 0 rfl) ?_
    refine b_get hM hW 11 24 hc rfl rfl (by decide) wi_X13 (wgm fk_RX13_125) (x := .ref (a + 16)) rfl dX13_count_110 ?_
    refine lv_iconst (v := (1 : Int32)) hx hb dX13_count_113 (by decide) ?_
    refine b_iald (n := 1518) hM hW 11 24 hc (by decide) rfl rfl rfl rfl (by decide) dX13_count_114 ?_
    cases hf
    exact W.iret hx hb hr (b_ret0 hW (keep_s2 hc0 hc) _) hW.2.2.2 dX13_count_115 hlk
  have hf := if_f c14 hf
  by_cases c15 : x1 = (8 : Int32)
  · have hf := if_t c15 hf
    refine lv_tableIn (off := 110) (tgt := 116) hx hb dX13_count_6 (by rw [c15]; decide) (by rw [c15]; decide) (by rw [c15]; rfl) (by decide) ?_
    refine lv_aload_n hx hb dX13_count_116 rfl (lv_at hl 0 rfl) ?_
    refine b_get hM hW 11 21 hc rfl rfl (by decide) wi_X13 (wgm fk_RX13_116) (x := .ref (a + 13)) rfl dX13_count_117 ?_
    refine lv_iconst (v := (0 : Int32)) hx hb dX13_count_120 (by decide) ?_
    refine b_iald (n := 250) hM hW 11 21 hc (by decide) rfl rfl rfl rfl (by decide) dX13_count_121 ?_
    cases hf
    exact W.iret hx hb hr (b_ret0 hW (keep_s2 hc0 hc) _) hW.2.2.2 dX13_count_122 hlk
  have hf := if_f c15 hf
  by_cases c16 : x1 = (9 : Int32)
  · have hf := if_t c16 hf
    refine lv_tableIn (off := 117) (tgt := 123) hx hb dX13_count_6 (by rw [c16]; decide) (by rw [c16]; decide) (by rw [c16]; rfl) (by decide) ?_
    refine lv_aload_n hx hb dX13_count_123 rfl (lv_at hl 0 rfl) ?_
    refine b_get hM hW 11 24 hc rfl rfl (by decide) wi_X13 (wgm fk_RX13_125) (x := .ref (a + 16)) rfl dX13_count_124 ?_
    refine lv_bipush (v := (48 : Int32)) hx hb dX13_count_127 (by decide) ?_
    refine b_iald (n := 1518) hM hW 11 24 hc (by decide) rfl rfl rfl rfl (by decide) dX13_count_129 ?_
    cases hf
    exact W.iret hx hb hr (b_ret0 hW (keep_s2 hc0 hc) _) hW.2.2.2 dX13_count_130 hlk
  have hf := if_f c16 hf
  by_cases c17 : x1 = (10 : Int32)
  · have hf := if_t c17 hf
    refine lv_tableIn (off := 125) (tgt := 131) hx hb dX13_count_6 (by rw [c17]; decide) (by rw [c17]; decide) (by rw [c17]; rfl) (by decide) ?_
    refine lv_aload_n hx hb dX13_count_131 rfl (lv_at hl 0 rfl) ?_
    refine b_get hM hW 11 25 hc rfl rfl (by decide) wi_X13 (wgm fk_RX13_329) (x := .int (gI v1 25)) rfl dX13_count_132 ?_
    cases hf
    exact W.iret hx hb hr (b_ret0 hW (keep_s2 hc0 hc) _) hW.2.2.2 dX13_count_135 hlk
  have hf := if_f c17 hf
  by_cases c18 : x1 = (11 : Int32)
  · have hf := if_t c18 hf
    refine lv_tableIn (off := 130) (tgt := 136) hx hb dX13_count_6 (by rw [c18]; decide) (by rw [c18]; decide) (by rw [c18]; rfl) (by decide) ?_
    refine lv_aload_n hx hb dX13_count_136 rfl (lv_at hl 0 rfl) ?_
    refine b_get hM hW 11 2 hc rfl rfl (by decide) wi_X13 (wgm fk_RX13_11) (x := .int (gI v1 2)) rfl dX13_count_137 ?_
    cases hf
    exact W.iret hx hb hr (b_ret0 hW (keep_s2 hc0 hc) _) hW.2.2.2 dX13_count_140 hlk
  have hf := if_f c18 hf
  refine lv_tableOut (tgt := 141) hx hb dX13_count_6 (sw_out (fun j h1 h2 hj => ?_)) (by decide) ?_
  · have hcases : j = 0 ∨ j = 1 ∨ j = 2 ∨ j = 3 ∨ j = 4 ∨ j = 5 ∨ j = 6 ∨ j = 7 ∨ j = 8 ∨ j = 9 ∨ j = 10 ∨ j = 11 := by omega
    rcases hcases with rfl | rfl | rfl | rfl | rfl | rfl | rfl | rfl | rfl | rfl | rfl | rfl
    · exact c2 (Int32.toInt_inj.mp (hj.trans (by decide)))
    · exact c4 (Int32.toInt_inj.mp (hj.trans (by decide)))
    · exact c5 (Int32.toInt_inj.mp (hj.trans (by decide)))
    · exact c7 (Int32.toInt_inj.mp (hj.trans (by decide)))
    · exact c9 (Int32.toInt_inj.mp (hj.trans (by decide)))
    · exact c10 (Int32.toInt_inj.mp (hj.trans (by decide)))
    · exact c12 (Int32.toInt_inj.mp (hj.trans (by decide)))
    · exact c14 (Int32.toInt_inj.mp (hj.trans (by decide)))
    · exact c15 (Int32.toInt_inj.mp (hj.trans (by decide)))
    · exact c16 (Int32.toInt_inj.mp (hj.trans (by decide)))
    · exact c17 (Int32.toInt_inj.mp (hj.trans (by decide)))
    · exact c18 (Int32.toInt_inj.mp (hj.trans (by decide)))
  · refine lv_iconst (v := (-1 : Int32)) hx hb dX13_count_141 (by decide) ?_
    cases hf
    exact W.iret hx hb hr (b_ret0 hW (keep_s2 hc0 hc) _) hW.2.2.2 dX13_count_142 hlk
noncomputable def f_X13_count (fu : Nat) (v : GV) (x1 : Int32) : Option (Int32 × GV) := f_X13_count_0 fu v x1
set_option maxHeartbeats 4000000 in
set_option maxRecDepth 100000 in
theorem c_X13_count (l : Launch) (G : GG) (fu : Nat) (S : ST) (a : Nat) (v : GV) (x1 : Int32) {z : Int32} {w : GV} (hc : gC v = 12) (hf : f_X13_count fu v x1 = some (z, w)) : Ct l yX13_count w_X13_count RM_X13_count G (st S a v) [.ref a, .int x1] (some (.int z)) (st S a w) 0 0 := by
  refine Met.ofW (cc := cX13_count) (maxL := 2) (ret := (some .int)) (by decide) rfl ?_
  intro p e s m args below meth c s₁ B hml hv
  obtain ⟨rfl, hB, hK, hz⟩ := hv
  have hM : MC G p s m _ c cX13_count w_X13_count RX13 := ⟨B.exec, B.bytes, findClass_of_methodNamed B.named, atoms_spec (ws := w_X13_count) B.pre, hK, hz⟩
  have hW : WB G (st S a v) s s.heap [] := ⟨hB, va_S.rf⟩
  have hl := lv_entry ([.ref a, .int x1]) (n := 2) (Nat.le_of_ble_eq_true rfl)
  rw [lg_entry_eq]
  generalize (lg_sl ([.ref a, .int x1]) ++ List.replicate (2 - (lg_sl ([.ref a, .int x1])).length) Slot.unset).toArray = ls at hl ⊢
  have hl : lv_has ls 2 [(0, .ref a), (1, .int x1)] := hl
  exact t_X13_count_0 hM hml B.returns B.notSynchronized hc hf hc _ _ hW _ (lv_sub hl [0, 1] rfl)
