abbrev RM_X7_countWays : Room := { frames := 1, cells := 0, slots := 0, locals := 24 }
abbrev w_X7_countWays : List Cond := Cond.code yX7_countWays cX7_countWays 4 none :: wsL_law0
noncomputable def f_X7_countWays_71 (fu : Nat) (k4 : Int32 → GV → Option (GV)) (v : GV) (x1 : Int32) : Option (GV) :=
  nm (x1 + (-1 : Int32)) fun y1 =>
  k4 y1 v
set_option maxHeartbeats 4000000 in
set_option maxRecDepth 100000 in
theorem t_X7_countWays_71 {G : GG} {p : Program} {l : Launch} {e : Env} {s : State} {m : MethodId} {args : Array Value} {below : List Frame} {meth : Method} {c : Code} {S : ST} {fu : Nat} {z : GV} {a : Nat} {v0 : GV} {k4 : Int32 → GV → Option (GV)} {v : GV} {x1 : Int32} (hM : MC G p s m args c cX7_countWays w_X7_countWays RX7) (hml : c.maxLocals = 4) (hr : meth.sig.returnType = none) (hlk : meth.locks = false) (hc0 : gC v0 = 7) (hk4 : ∀ (x1 : Int32) (v : GV), k4 x1 v = some z → (gC v = 7) → ∀ (H : Heap) (locs : List Loc), WB G (st S a v) s H locs → ∀ (ls : Array Slot), lv_has ls 4 [(0, .ref a), (1, .int x1)] → W p l e RM_X7_countWays s m args below meth c H locs 0 0 (QR G below args s none (st S a v0) (st S a z)) (F0 m 4 ls [])) (hf : f_X7_countWays_71 fu k4 v  x1 = some z) : (gC v = 7) → ∀ (H : Heap) (locs : List Loc), WB G (st S a v) s H locs → ∀ (ls : Array Slot), lv_has ls 4 [(0, .ref a), (1, .int x1)] → W p l e RM_X7_countWays s m args below meth c H locs 0 0 (QR G below args s none (st S a v0) (st S a z)) (F0 m 71 ls []) := by
  intro hc H locs hW ls hl
  have hx := hM.1
  have hb := hM.2.1
  obtain ⟨y1, ey1⟩ : ∃ y : Int32, y = x1 + (-1 : Int32) := ⟨_, rfl⟩
  have hf := nm_at ey1 hf
  refine lv_iinc (v := y1) (lv' := [(1, .int y1), (0, .ref a)]) hx hb dX7_countWays_71 hl (k := 1) rfl (by rw [ey1]; rfl) (by decide) rfl (fun ls hl => ?_)
  refine lv_goto (tgt := 4) hx hb dX7_countWays_74 (by decide) ?_
  exact hk4 _ _ hf hc _ _ hW _ (lv_sub hl [1, 0] rfl)
noncomputable def f_X7_countWays_36s (fu : Nat) (k4 : Int32 → GV → Option (GV)) (k36 : Int32 → GV → Option (GV)) (x1 : Int32) (x2 : Int32) (x3 : Int32) (v : GV) : Option (GV) :=
  if (5 : Int32) ≤ x3 then
    (f_X7_countWays_71 fu k4 v x1)
  else
    (if (gI v 2) ≤ x2 then
      (f_X7_countWays_71 fu k4 v x1)
    else
      (ck (inb x1 243) <|
      bd (f_X7_waysWith fu v x1 x2 x3) fun r4 =>
      nm (((gA v 1 x1.toNatClampNeg) + r4)) fun y5 =>
      ck (inb x1 243) <|
      nm (sA v 1 x1.toNatClampNeg y5) fun v7 =>
      nm (x3 + (1 : Int32)) fun y8 =>
      k36 y8 v7))
noncomputable def f_X7_countWays_36 (fu n : Nat) (k4 : Int32 → GV → Option (GV)) (x1 : Int32) (x2 : Int32) : Int32 → GV → Option (GV) :=
  lq_2 (fun k36 => f_X7_countWays_36s fu k4 k36   x1 x2) n
set_option maxHeartbeats 4000000 in
set_option maxRecDepth 100000 in
theorem t_X7_countWays_36s {G : GG} {p : Program} {l : Launch} {e : Env} {s : State} {m : MethodId} {args : Array Value} {below : List Frame} {meth : Method} {c : Code} {S : ST} {fu : Nat} {z : GV} {a : Nat} {v0 : GV} {k4 : Int32 → GV → Option (GV)} {k36 : Int32 → GV → Option (GV)} {x1 : Int32} {x2 : Int32} (hM : MC G p s m args c cX7_countWays w_X7_countWays RX7) (hml : c.maxLocals = 4) (hr : meth.sig.returnType = none) (hlk : meth.locks = false) (hc0 : gC v0 = 7) (hk4 : ∀ (x1 : Int32) (v : GV), k4 x1 v = some z → (gC v = 7) → ∀ (H : Heap) (locs : List Loc), WB G (st S a v) s H locs → ∀ (ls : Array Slot), lv_has ls 4 [(0, .ref a), (1, .int x1)] → W p l e RM_X7_countWays s m args below meth c H locs 0 0 (QR G below args s none (st S a v0) (st S a z)) (F0 m 4 ls [])) (hk36 : ∀ (x3 : Int32) (v : GV), k36 x3 v = some z → (gC v = 7) → ∀ (H : Heap) (locs : List Loc), WB G (st S a v) s H locs → ∀ (ls : Array Slot), lv_has ls 4 [(0, .ref a), (1, .int x1), (2, .int x2), (3, .int x3)] → W p l e RM_X7_countWays s m args below meth c H locs 0 0 (QR G below args s none (st S a v0) (st S a z)) (F0 m 36 ls [])) : ∀ (x3 : Int32) (v : GV), f_X7_countWays_36s fu k4 k36   x1 x2 x3 v = some z → (gC v = 7) → ∀ (H : Heap) (locs : List Loc), WB G (st S a v) s H locs → ∀ (ls : Array Slot), lv_has ls 4 [(0, .ref a), (1, .int x1), (2, .int x2), (3, .int x3)] → W p l e RM_X7_countWays s m args below meth c H locs 0 0 (QR G below args s none (st S a v0) (st S a z)) (F0 m 36 ls []) := by
  intro x3 v hf hc H locs hW ls hl
  have hx := hM.1
  have hb := hM.2.1
  refine lv_iload_n hx hb dX7_countWays_36 rfl (lv_at hl 3 rfl) ?_
  refine lv_iconst (v := (5 : Int32)) hx hb dX7_countWays_37 (by decide) ?_
  refine lv_icmp_ge (tgt := 71) hx hb dX7_countWays_38 (by decide) (fun c1 => ?_) (fun c1 => ?_)
  · have hf := if_t c1 hf
    exact t_X7_countWays_71 (fu := fu) hM hml hr hlk hc0 hk4 hf hc _ _ hW _ (lv_sub hl [0, 1] rfl)
  · have hf := if_f c1 hf
    refine lv_iload_n hx hb dX7_countWays_41 rfl (lv_at hl 2 rfl) ?_
    refine lv_aload_n hx hb dX7_countWays_42 rfl (lv_at hl 0 rfl) ?_
    refine b_get hM hW 6 2 hc rfl rfl (by decide) wi_X7 (wgm fk_RX7_18) (x := .int (gI v 2)) rfl dX7_countWays_43 ?_
    refine lv_icmp_ge (tgt := 71) hx hb dX7_countWays_46 (by decide) (fun c2 => ?_) (fun c2 => ?_)
    · have hf := if_t c2 hf
      exact t_X7_countWays_71 (fu := fu) hM hml hr hlk hc0 hk4 hf hc _ _ hW _ (lv_sub hl [0, 1] rfl)
    · have hf := if_f c2 hf
      refine lv_aload_n hx hb dX7_countWays_49 rfl (lv_at hl 0 rfl) ?_
      refine b_get hM hW 6 1 hc rfl rfl (by decide) wi_X7 (wgm fk_RX7_15) (x := .ref (a + 2)) rfl dX7_countWays_50 ?_
      refine lv_iload_n hx hb dX7_countWays_53 rfl (lv_at hl 1 rfl) ?_
      refine lv_dup2_11 hx hb dX7_countWays_54 rfl rfl ?_
      obtain ⟨h3, hf⟩ := ck_elim hf
      refine b_iald (n := 243) hM hW 6 1 hc (by decide) rfl rfl rfl rfl h3 dX7_countWays_55 ?_
      refine lv_aload_n hx hb dX7_countWays_56 rfl (lv_at hl 0 rfl) ?_
      refine lv_iload_n hx hb dX7_countWays_57 rfl (lv_at hl 1 rfl) ?_
      refine lv_iload_n hx hb dX7_countWays_58 rfl (lv_at hl 2 rfl) ?_
      refine lv_iload_n hx hb dX7_countWays_59 rfl (lv_at hl 3 rfl) ?_
      obtain ⟨r4, hr4, hf⟩ := bd_elim hf
      refine b_callVi [.int x1, .int x2, .int x3] [.int (gA v 1 x1.toNatClampNeg), .int x1, .ref (a + 2)] hM hml hl.1 hW hc rfl (by decide) (c_X7_waysWith l G fu _ a v _ _ _ hc hr4) (cwV 3 hM.2.2.2.1 (gV mk_RX7_59 im_X7_waysWith se_X7_waysWith it_RX7 cd_X7_waysWith) rfl rfl rfl (by decide +kernel) ⟨Nat.le_of_ble_eq_true rfl, Nat.le_of_ble_eq_true rfl⟩) rfl rfl (Nat.le_of_ble_eq_true rfl) ⟨Nat.zero_le _, Nat.zero_le _⟩ dX7_countWays_60 (fun H locs hW hk => ?_)
      refine lv_iadd hx hb dX7_countWays_63 ?_
      refine lv_topi (fun y5 ey5 => ?_)
      have hf := nm_at ey5 hf
      obtain ⟨h6, hf⟩ := ck_elim hf
      refine b_iast (n := 243) hM hW 6 1 hc (by decide) rfl rfl rfl rfl h6 dX7_countWays_64 (fun v7 ev7 hc H locs hW => ?_)
      have hf := nm_at ev7 hf
      obtain ⟨y8, ey8⟩ : ∃ y : Int32, y = x3 + (1 : Int32) := ⟨_, rfl⟩
      have hf := nm_at ey8 hf
      refine lv_iinc (v := y8) (lv' := [(3, .int y8), (0, .ref a), (1, .int x1), (2, .int x2)]) hx hb dX7_countWays_65 hl (k := 3) rfl (by rw [ey8]; rfl) (by decide) rfl (fun ls hl => ?_)
      refine lv_goto (tgt := 36) hx hb dX7_countWays_68 (by decide) ?_
      exact hk36 _ _ hf hc _ _ hW _ (lv_sub hl [1, 2, 3, 0] rfl)
theorem t_X7_countWays_36 {G : GG} {p : Program} {l : Launch} {e : Env} {s : State} {m : MethodId} {args : Array Value} {below : List Frame} {meth : Method} {c : Code} {S : ST} {fu : Nat} {z : GV} {a : Nat} {v0 : GV} {k4 : Int32 → GV → Option (GV)} {x1 : Int32} {x2 : Int32} (hM : MC G p s m args c cX7_countWays w_X7_countWays RX7) (hml : c.maxLocals = 4) (hr : meth.sig.returnType = none) (hlk : meth.locks = false) (hc0 : gC v0 = 7) (hk4 : ∀ (x1 : Int32) (v : GV), k4 x1 v = some z → (gC v = 7) → ∀ (H : Heap) (locs : List Loc), WB G (st S a v) s H locs → ∀ (ls : Array Slot), lv_has ls 4 [(0, .ref a), (1, .int x1)] → W p l e RM_X7_countWays s m args below meth c H locs 0 0 (QR G below args s none (st S a v0) (st S a z)) (F0 m 4 ls [])) : ∀ {n : Nat} (x3 : Int32) (v : GV), f_X7_countWays_36 fu n k4   x1 x2 x3 v = some z → (gC v = 7) → ∀ (H : Heap) (locs : List Loc), WB G (st S a v) s H locs → ∀ (ls : Array Slot), lv_has ls 4 [(0, .ref a), (1, .int x1), (2, .int x2), (3, .int x3)] → W p l e RM_X7_countWays s m args below meth c H locs 0 0 (QR G below args s none (st S a v0) (st S a z)) (F0 m 36 ls []) := by
  intro n
  induction n with
  | zero => intro x3 v hf; cases hf
  | succ n ih => intro x3 v hf; exact t_X7_countWays_36s (fu := fu) hM hml hr hlk hc0 hk4 (k36 := f_X7_countWays_36 fu n k4   x1 x2) ih _ _ hf
noncomputable def f_X7_countWays_33 (fu : Nat) (k4 : Int32 → GV → Option (GV)) (v : GV) (x1 : Int32) (x2 : Int32) (t1 : Int32) (t2 : Int32) : Option (GV) :=
  ck (inb t1 243) <|
  nm (sA v 1 t1.toNatClampNeg t2) fun v2 =>
  f_X7_countWays_36 fu fu k4 x1 x2 (0 : Int32) v2
set_option maxHeartbeats 4000000 in
set_option maxRecDepth 100000 in
theorem t_X7_countWays_33 {G : GG} {p : Program} {l : Launch} {e : Env} {s : State} {m : MethodId} {args : Array Value} {below : List Frame} {meth : Method} {c : Code} {S : ST} {fu : Nat} {z : GV} {a : Nat} {v0 : GV} {k4 : Int32 → GV → Option (GV)} {v : GV} {x1 : Int32} {x2 : Int32} {t1 : Int32} {t2 : Int32} (hM : MC G p s m args c cX7_countWays w_X7_countWays RX7) (hml : c.maxLocals = 4) (hr : meth.sig.returnType = none) (hlk : meth.locks = false) (hc0 : gC v0 = 7) (hk4 : ∀ (x1 : Int32) (v : GV), k4 x1 v = some z → (gC v = 7) → ∀ (H : Heap) (locs : List Loc), WB G (st S a v) s H locs → ∀ (ls : Array Slot), lv_has ls 4 [(0, .ref a), (1, .int x1)] → W p l e RM_X7_countWays s m args below meth c H locs 0 0 (QR G below args s none (st S a v0) (st S a z)) (F0 m 4 ls [])) (hf : f_X7_countWays_33 fu k4 v  x1 x2 t1 t2 = some z) : (gC v = 7) → ∀ (H : Heap) (locs : List Loc), WB G (st S a v) s H locs → ∀ (ls : Array Slot), lv_has ls 4 [(0, .ref a), (1, .int x1), (2, .int x2)] → W p l e RM_X7_countWays s m args below meth c H locs 0 0 (QR G below args s none (st S a v0) (st S a z)) (F0 m 33 ls [.int t2, .int t1, .ref (a + 2)]) := by
  intro hc H locs hW ls hl
  have hx := hM.1
  have hb := hM.2.1
  obtain ⟨h1, hf⟩ := ck_elim hf
  refine b_iast (n := 243) hM hW 6 1 hc (by decide) rfl rfl rfl rfl h1 dX7_countWays_33 (fun v2 ev2 hc H locs hW => ?_)
  have hf := nm_at ev2 hf
  refine lv_iconst (v := (0 : Int32)) hx hb dX7_countWays_34 (by decide) ?_
  refine lv_istore_n (lv' := [(3, .int (0 : Int32)), (0, .ref a), (1, .int x1), (2, .int x2)]) hx hb dX7_countWays_35 rfl hl (by decide) rfl (fun ls hl => ?_)
  exact t_X7_countWays_36 (fu := fu) hM hml hr hlk hc0 hk4 _ _ hf hc _ _ hW _ (lv_sub hl [1, 2, 3, 0] rfl)
noncomputable def f_X7_countWays_4s (fu : Nat)  (k4 : Int32 → GV → Option (GV)) (x1 : Int32) (v : GV) : Option (GV) :=
  if x1 < 0 then
    (some v)
  else
    (bd (f_X7_given fu x1) fun r2 =>
    nm (((1 : Int32) + r2)) fun y3 =>
    if y3 = (gI v 2) then
      (f_X7_countWays_33 fu k4 v x1 y3 x1 (1 : Int32))
    else
      (f_X7_countWays_33 fu k4 v x1 y3 x1 (0 : Int32)))
noncomputable def f_X7_countWays_4 (fu n : Nat)  : Int32 → GV → Option (GV) :=
  lq_2 (fun k4 => f_X7_countWays_4s fu  k4  ) n
set_option maxHeartbeats 4000000 in
set_option maxRecDepth 100000 in
theorem t_X7_countWays_4s {G : GG} {p : Program} {l : Launch} {e : Env} {s : State} {m : MethodId} {args : Array Value} {below : List Frame} {meth : Method} {c : Code} {S : ST} {fu : Nat} {z : GV} {a : Nat} {v0 : GV}  {k4 : Int32 → GV → Option (GV)} (hM : MC G p s m args c cX7_countWays w_X7_countWays RX7) (hml : c.maxLocals = 4) (hr : meth.sig.returnType = none) (hlk : meth.locks = false) (hc0 : gC v0 = 7)  (hk4 : ∀ (x1 : Int32) (v : GV), k4 x1 v = some z → (gC v = 7) → ∀ (H : Heap) (locs : List Loc), WB G (st S a v) s H locs → ∀ (ls : Array Slot), lv_has ls 4 [(0, .ref a), (1, .int x1)] → W p l e RM_X7_countWays s m args below meth c H locs 0 0 (QR G below args s none (st S a v0) (st S a z)) (F0 m 4 ls [])) : ∀ (x1 : Int32) (v : GV), f_X7_countWays_4s fu  k4   x1 v = some z → (gC v = 7) → ∀ (H : Heap) (locs : List Loc), WB G (st S a v) s H locs → ∀ (ls : Array Slot), lv_has ls 4 [(0, .ref a), (1, .int x1)] → W p l e RM_X7_countWays s m args below meth c H locs 0 0 (QR G below args s none (st S a v0) (st S a z)) (F0 m 4 ls []) := by
  intro x1 v hf hc H locs hW ls hl
  have hx := hM.1
  have hb := hM.2.1
  refine lv_iload_n hx hb dX7_countWays_4 rfl (lv_at hl 1 rfl) ?_
  refine lv_if_lt (tgt := 77) hx hb dX7_countWays_5 (by decide) (fun c1 => ?_) (fun c1 => ?_)
  · have hf := if_t c1 hf
    cases hf
    exact W.vret hx hb hr (b_ret0 hW (keep_s2 hc0 hc) _) hW.2.2.2 dX7_countWays_77 hlk
  · have hf := if_f c1 hf
    refine lv_iconst (v := (1 : Int32)) hx hb dX7_countWays_8 (by decide) ?_
    refine lv_iload_n hx hb dX7_countWays_9 rfl (lv_at hl 1 rfl) ?_
    obtain ⟨r2, hr2, hf⟩ := bd_elim hf
    refine s_callSi [.int x1] [.int (1 : Int32)] hM hml hl.1 hW (c_X7_given l G fu _ _ hr2) (va_cwS 1 hM.2.2.2.1 (gS mk_RX7_56 sm_X7_given it_RX7 cd_X7_given) rfl rfl rfl (by decide +kernel) ⟨Nat.le_of_ble_eq_true rfl, Nat.le_of_ble_eq_true rfl⟩) rfl rfl (Nat.le_of_ble_eq_true rfl) ⟨Nat.zero_le _, Nat.zero_le _⟩ dX7_countWays_10 (fun H locs hW hk => ?_)
    refine lv_iadd hx hb dX7_countWays_13 ?_
    refine lv_topi (fun y3 ey3 => ?_)
    have hf := nm_at ey3 hf
    refine lv_istore_n (lv' := [(2, .int y3), (0, .ref a), (1, .int x1)]) hx hb dX7_countWays_14 rfl hl (by decide) rfl (fun ls hl => ?_)
    refine lv_aload_n hx hb dX7_countWays_15 rfl (lv_at hl 1 rfl) ?_
    refine b_get hM hW 6 1 hc rfl rfl (by decide) wi_X7 (wgm fk_RX7_15) (x := .ref (a + 2)) rfl dX7_countWays_16 ?_
    refine lv_iload_n hx hb dX7_countWays_19 rfl (lv_at hl 2 rfl) ?_
    refine lv_iload_n hx hb dX7_countWays_20 rfl (lv_at hl 0 rfl) ?_
    refine lv_aload_n hx hb dX7_countWays_21 rfl (lv_at hl 1 rfl) ?_
    refine b_get hM hW 6 2 hc rfl rfl (by decide) wi_X7 (wgm fk_RX7_18) (x := .int (gI v 2)) rfl dX7_countWays_22 ?_
    refine lv_icmp_ne (tgt := 32) hx hb dX7_countWays_25 (by decide) (fun c4 => ?_) (fun c4 => ?_)
    · have hf := if_f c4 hf
      refine lv_iconst (v := (0 : Int32)) hx hb dX7_countWays_32 (by decide) ?_
      exact t_X7_countWays_33 (fu := fu) hM hml hr hlk hc0 hk4 hf hc _ _ hW _ (lv_sub hl [1, 2, 0] rfl)
    · have hf := if_t c4 hf
      refine lv_iconst (v := (1 : Int32)) hx hb dX7_countWays_28 (by decide) ?_
      refine lv_goto (tgt := 33) hx hb dX7_countWays_29 (by decide) ?_
      exact t_X7_countWays_33 (fu := fu) hM hml hr hlk hc0 hk4 hf hc _ _ hW _ (lv_sub hl [1, 2, 0] rfl)
theorem t_X7_countWays_4 {G : GG} {p : Program} {l : Launch} {e : Env} {s : State} {m : MethodId} {args : Array Value} {below : List Frame} {meth : Method} {c : Code} {S : ST} {fu : Nat} {z : GV} {a : Nat} {v0 : GV}  (hM : MC G p s m args c cX7_countWays w_X7_countWays RX7) (hml : c.maxLocals = 4) (hr : meth.sig.returnType = none) (hlk : meth.locks = false) (hc0 : gC v0 = 7)  : ∀ {n : Nat} (x1 : Int32) (v : GV), f_X7_countWays_4 fu n    x1 v = some z → (gC v = 7) → ∀ (H : Heap) (locs : List Loc), WB G (st S a v) s H locs → ∀ (ls : Array Slot), lv_has ls 4 [(0, .ref a), (1, .int x1)] → W p l e RM_X7_countWays s m args below meth c H locs 0 0 (QR G below args s none (st S a v0) (st S a z)) (F0 m 4 ls []) := by
  intro n
  induction n with
  | zero => intro x1 v hf; cases hf
  | succ n ih => intro x1 v hf; exact t_X7_countWays_4s (fu := fu) hM hml hr hlk hc0 (k4 := f_X7_countWays_4 fu n   ) ih _ _ hf
noncomputable def f_X7_countWays_0 (fu : Nat)  (v : GV) : Option (GV) :=
  f_X7_countWays_4 fu fu (242 : Int32) v
set_option maxHeartbeats 4000000 in
set_option maxRecDepth 100000 in
theorem t_X7_countWays_0 {G : GG} {p : Program} {l : Launch} {e : Env} {s : State} {m : MethodId} {args : Array Value} {below : List Frame} {meth : Method} {c : Code} {S : ST} {fu : Nat} {z : GV} {a : Nat} {v0 : GV}  {v : GV} (hM : MC G p s m args c cX7_countWays w_X7_countWays RX7) (hml : c.maxLocals = 4) (hr : meth.sig.returnType = none) (hlk : meth.locks = false) (hc0 : gC v0 = 7)  (hf : f_X7_countWays_0 fu  v   = some z) : (gC v = 7) → ∀ (H : Heap) (locs : List Loc), WB G (st S a v) s H locs → ∀ (ls : Array Slot), lv_has ls 4 [(0, .ref a)] → W p l e RM_X7_countWays s m args below meth c H locs 0 0 (QR G below args s none (st S a v0) (st S a z)) (F0 m 0 ls []) := by
  intro hc H locs hW ls hl
  have hx := hM.1
  have hb := hM.2.1
  refine lv_sipush (v := (242 : Int32)) hx hb dX7_countWays_0 (by decide) ?_
  refine lv_istore_n (lv' := [(1, .int (242 : Int32)), (0, .ref a)]) hx hb dX7_countWays_3 rfl hl (by decide) rfl (fun ls hl => ?_)
  exact t_X7_countWays_4 (fu := fu) hM hml hr hlk hc0 _ _ hf hc _ _ hW _ (lv_sub hl [1, 0] rfl)
noncomputable def f_X7_countWays (fu : Nat) (v : GV) : Option (GV) := f_X7_countWays_0 fu v
set_option maxHeartbeats 4000000 in
set_option maxRecDepth 100000 in
theorem c_X7_countWays (l : Launch) (G : GG) (fu : Nat) (S : ST) (a : Nat) (v : GV) {z : GV} (hc : gC v = 7) (hf : f_X7_countWays fu v = some z) : Ct l yX7_countWays w_X7_countWays RM_X7_countWays G (st S a v) [.ref a] none (st S a z) 0 0 := by
  refine Met.ofW (cc := cX7_countWays) (maxL := 4) (ret := none) (by decide) rfl ?_
  intro p e s m args below meth c s₁ B hml hv
  obtain ⟨rfl, hB, hK, hz⟩ := hv
  have hM : MC G p s m _ c cX7_countWays w_X7_countWays RX7 := ⟨B.exec, B.bytes, findClass_of_methodNamed B.named, atoms_spec (ws := w_X7_countWays) B.pre, hK, hz⟩
  have hW : WB G (st S a v) s s.heap [] := ⟨hB, va_S.rf⟩
  have hl := lv_entry ([.ref a]) (n := 4) (Nat.le_of_ble_eq_true rfl)
  rw [lg_entry_eq]
  generalize (lg_sl ([.ref a]) ++ List.replicate (4 - (lg_sl ([.ref a])).length) Slot.unset).toArray = ls at hl ⊢
  have hl : lv_has ls 4 [(0, .ref a)] := hl
  exact t_X7_countWays_0 (fu := fu) hM hml B.returns B.notSynchronized hc hf hc _ _ hW _ (lv_sub hl [0] rfl)
abbrev RM_X7_weigh : Room := { frames := 3, cells := 0, slots := 0, locals := 73 }
abbrev w_X7_weigh : List Cond := Cond.code yX7_weigh cX7_weigh 5 none :: wsL_law0
noncomputable def f_X7_weigh_10s (fu : Nat)  (k10 : Int32 → ST → Option (ST)) (a : Nat) (g1 : Nat) (g2 : Nat) (x3 : Int32) (S : ST) : Option (ST) :=
  if (gI (S a) 2) ≤ x3 then
    (bd (f_X7_countWays fu (S a)) fun v3 =>
    nm (st S a v3) fun Sv3 =>
    some Sv3)
  else
    (ck (inb x3 8) <|
    bd (f_J6_numberOfTrailingZeros_0f7a4 fu (gA (S g1) 1 x3.toNatClampNeg)) fun r5 =>
    ck (inb x3 8) <|
    bd2 (f_X3_hardOf fu S g1 g2 (gA (S g1) 2 x3.toNatClampNeg) r5) fun r7 S8 =>
    bd (f_X7_skilled fu S8 g2 r7) fun r9 =>
    ck (inb x3 8) <|
    nm (st S8 a (sA (S8 a) 0 x3.toNatClampNeg r9)) fun S11 =>
    nm (x3 + (1 : Int32)) fun y12 =>
    k10 y12 S11)
noncomputable def f_X7_weigh_10 (fu n : Nat)  (a : Nat) (g1 : Nat) (g2 : Nat) : Int32 → ST → Option (ST) :=
  lq_2 (fun k10 => f_X7_weigh_10s fu  k10  a g1 g2) n
set_option maxHeartbeats 4000000 in
set_option maxRecDepth 100000 in
theorem t_X7_weigh_10s {G : GG} {p : Program} {l : Launch} {e : Env} {s : State} {m : MethodId} {args : Array Value} {below : List Frame} {meth : Method} {c : Code} {S0 : ST} {fu : Nat} {z : ST} {a : Nat} {g1 : Nat} {g2 : Nat}  {k10 : Int32 → ST → Option (ST)} (hM : MC G p s m args c cX7_weigh w_X7_weigh RX7) (hml : c.maxLocals = 5) (hr : meth.sig.returnType = none) (hlk : meth.locks = false)   (hk10 : ∀ (x3 : Int32) (S : ST), k10 x3 S = some z → (gC (S a) = 7) → (gC (S g1) = 3) → (gC (S g2) = 1) → (∀ b, gC (S0 b) ≠ 0 → gC (S b) = gC (S0 b)) → ∀ (H : Heap) (locs : List Loc), WB G S s H locs → ∀ (ls : Array Slot), lv_has ls 5 [(0, .ref a), (1, .ref g1), (2, .ref g2), (3, .int x3)] → W p l e RM_X7_weigh s m args below meth c H locs 0 0 (QR G below args s none S0 z) (F0 m 10 ls [])) : ∀ (x3 : Int32) (S : ST), f_X7_weigh_10s fu  k10  a g1 g2 x3 S = some z → (gC (S a) = 7) → (gC (S g1) = 3) → (gC (S g2) = 1) → (∀ b, gC (S0 b) ≠ 0 → gC (S b) = gC (S0 b)) → ∀ (H : Heap) (locs : List Loc), WB G S s H locs → ∀ (ls : Array Slot), lv_has ls 5 [(0, .ref a), (1, .ref g1), (2, .ref g2), (3, .int x3)] → W p l e RM_X7_weigh s m args below meth c H locs 0 0 (QR G below args s none S0 z) (F0 m 10 ls []) := by
  intro x3 S hf ha hg1 hg2 hK0 H locs hW ls hl
  have hx := hM.1
  have hb := hM.2.1
  refine lv_iload_n hx hb dX7_weigh_10 rfl (lv_at hl 3 rfl) ?_
  refine lv_aload_n hx hb dX7_weigh_11 rfl (lv_at hl 0 rfl) ?_
  refine b_get hM (hW.at_ a) 6 2 ha rfl rfl (by decide) wi_X7 (wgm fk_RX7_18) (x := .int (gI (S a) 2)) rfl dX7_weigh_12 ?_
  refine lv_icmp_ge (tgt := 58) hx hb dX7_weigh_15 (by decide) (fun c1 => ?_) (fun c1 => ?_)
  · have hf := if_t c1 hf
    refine lv_aload_n hx hb dX7_weigh_58 rfl (lv_at hl 0 rfl) ?_
    obtain ⟨v3, hr2, hf⟩ := bd_elim hf
    refine s_callNv [] [] hM hml hl.1 hW ha rfl (by decide) (Ct_self (c_X7_countWays l G fu _ a (S a) ha hr2)) (cwV 0 hM.2.2.2.1 (gV mk_RX7_45 im_X7_countWays se_X7_countWays it_RX7 cd_X7_countWays) rfl rfl rfl (by decide +kernel) ⟨Nat.le_of_ble_eq_true rfl, Nat.le_of_ble_eq_true rfl⟩) rfl rfl (Nat.le_of_ble_eq_true rfl) ⟨Nat.zero_le _, Nat.zero_le _⟩ dX7_weigh_59 (fun Sv3 ev3 hk H locs hW => ?_)
    have hf := nm_at ev3 hf
    have ha := keep1 hk ha
    have hg1 := keep1 hk hg1
    have hg2 := keep1 hk hg2
    have hK0 := keep_tr hK0 hk
    cases hf
    exact W.vret hx hb hr (b_ret0 hW hK0 _) hW.2.2.2 dX7_weigh_62 hlk
  · have hf := if_f c1 hf
    refine lv_aload_n hx hb dX7_weigh_18 rfl (lv_at hl 1 rfl) ?_
    refine b_get hM (hW.at_ g1) 2 1 hg1 rfl rfl (by decide) wi_X3 (wgm fk_RX7_25) (x := .ref (g1 + 2)) rfl dX7_weigh_19 ?_
    refine lv_iload_n hx hb dX7_weigh_22 rfl (lv_at hl 3 rfl) ?_
    obtain ⟨h4, hf⟩ := ck_elim hf
    refine b_iald (n := 8) hM (hW.at_ g1) 2 1 hg1 (by decide) rfl rfl rfl rfl h4 dX7_weigh_23 ?_
    obtain ⟨r5, hr5, hf⟩ := bd_elim hf
    refine s_callSi [.int (gA (S g1) 1 x3.toNatClampNeg)] [] hM hml hl.1 hW (c_J6_numberOfTrailingZeros_0f7a4 l G fu _ _ hr5) (va_cwS 1 hM.2.2.2.1 (gS mk_RX7_28 sm_J6_numberOfTrailingZeros_0f7a4 it_RJ6 cd_J6_numberOfTrailingZeros_0f7a4) rfl rfl rfl (by decide +kernel) ⟨Nat.le_of_ble_eq_true rfl, Nat.le_of_ble_eq_true rfl⟩) rfl rfl (Nat.le_of_ble_eq_true rfl) ⟨Nat.zero_le _, Nat.zero_le _⟩ dX7_weigh_24 (fun H locs hW hk => ?_)
    refine lv_istore (lv' := [(4, .int r5), (0, .ref a), (1, .ref g1), (2, .ref g2), (3, .int x3)]) hx hb dX7_weigh_27 hl (by decide) rfl (fun ls hl => ?_)
    refine lv_aload_n hx hb dX7_weigh_29 rfl (lv_at hl 1 rfl) ?_
    refine b_get hM (hW.at_ a) 6 0 ha rfl rfl (by decide) wi_X7 (wgm fk_RX7_9) (x := .ref (a + 1)) rfl dX7_weigh_30 ?_
    refine lv_iload_n hx hb dX7_weigh_33 rfl (lv_at hl 4 rfl) ?_
    refine lv_aload_n hx hb dX7_weigh_34 rfl (lv_at hl 3 rfl) ?_
    refine lv_aload_n hx hb dX7_weigh_35 rfl (lv_at hl 2 rfl) ?_
    refine lv_aload_n hx hb dX7_weigh_36 rfl (lv_at hl 3 rfl) ?_
    refine lv_aload_n hx hb dX7_weigh_37 rfl (lv_at hl 2 rfl) ?_
    refine b_get hM (hW.at_ g1) 2 2 hg1 rfl rfl (by decide) wi_X3 (wgm fk_RX7_34) (x := .ref (g1 + 3)) rfl dX7_weigh_38 ?_
    refine lv_iload_n hx hb dX7_weigh_41 rfl (lv_at hl 4 rfl) ?_
    obtain ⟨h6, hf⟩ := ck_elim hf
    refine b_iald (n := 8) hM (hW.at_ g1) 2 2 hg1 (by decide) rfl rfl rfl rfl h6 dX7_weigh_42 ?_
    refine lv_iload hx hb dX7_weigh_43 (lv_at hl 0 rfl) ?_
    obtain ⟨r7, S8, hr7, hf⟩ := bd2_elim hf
    refine s_callVi [.ref g2, .int (gA (S g1) 2 x3.toNatClampNeg), .int r5] [.ref g2, .int x3, .ref (a + 1)] hM hml hl.1 hW hg1 rfl (by decide) (c_X3_hardOf l G fu _ g1 _ _ _ hg1 hg2 hr7) (cwV 3 hM.2.2.2.1 (gV mk_RX7_37 im_X3_hardOf se_X3_hardOf it_RX3 cd_X3_hardOf) rfl rfl rfl (by decide +kernel) ⟨Nat.le_of_ble_eq_true rfl, Nat.le_of_ble_eq_true rfl⟩) rfl rfl (Nat.le_of_ble_eq_true rfl) ⟨Nat.zero_le _, Nat.zero_le _⟩ dX7_weigh_45 (fun H locs hW hk => ?_)
    have ha := keep1 hk ha
    have hg1 := keep1 hk hg1
    have hg2 := keep1 hk hg2
    have hK0 := keep_tr hK0 hk
    obtain ⟨r9, hr9, hf⟩ := bd_elim hf
    refine s_callSi [.ref g2, .int r7] [.int x3, .ref (a + 1)] hM hml hl.1 hW (c_X7_skilled l G fu _ _ _ hg2 hr9) (va_cwS 2 hM.2.2.2.1 (gS mk_RX7_41 sm_X7_skilled it_RX7 cd_X7_skilled) rfl rfl rfl (by decide +kernel) ⟨Nat.le_of_ble_eq_true rfl, Nat.le_of_ble_eq_true rfl⟩) rfl rfl (Nat.le_of_ble_eq_true rfl) ⟨Nat.zero_le _, Nat.zero_le _⟩ dX7_weigh_48 (fun H locs hW hk => ?_)
    obtain ⟨h10, hf⟩ := ck_elim hf
    refine s_iast (n := 8) hM hW 6 0 ha (by decide) rfl rfl rfl rfl h10 dX7_weigh_51 (fun S11 eS11 hk H locs hW => ?_)
    have hf := nm_at eS11 hf
    have ha := keep1 hk ha
    have hg1 := keep1 hk hg1
    have hg2 := keep1 hk hg2
    have hK0 := keep_tr hK0 hk
    obtain ⟨y12, ey12⟩ : ∃ y : Int32, y = x3 + (1 : Int32) := ⟨_, rfl⟩
    have hf := nm_at ey12 hf
    refine lv_iinc (v := y12) (lv' := [(3, .int y12), (4, .int r5), (0, .ref a), (1, .ref g1), (2, .ref g2)]) hx hb dX7_weigh_52 hl (k := 4) rfl (by rw [ey12]; rfl) (by decide) rfl (fun ls hl => ?_)
    refine lv_goto (tgt := 10) hx hb dX7_weigh_55 (by decide) ?_
    exact hk10 _ _ hf ha hg1 hg2 hK0 _ _ hW _ (lv_sub hl [2, 3, 4, 0] rfl)
theorem t_X7_weigh_10 {G : GG} {p : Program} {l : Launch} {e : Env} {s : State} {m : MethodId} {args : Array Value} {below : List Frame} {meth : Method} {c : Code} {S0 : ST} {fu : Nat} {z : ST} {a : Nat} {g1 : Nat} {g2 : Nat}  (hM : MC G p s m args c cX7_weigh w_X7_weigh RX7) (hml : c.maxLocals = 5) (hr : meth.sig.returnType = none) (hlk : meth.locks = false)   : ∀ {n : Nat} (x3 : Int32) (S : ST), f_X7_weigh_10 fu n   a g1 g2 x3 S = some z → (gC (S a) = 7) → (gC (S g1) = 3) → (gC (S g2) = 1) → (∀ b, gC (S0 b) ≠ 0 → gC (S b) = gC (S0 b)) → ∀ (H : Heap) (locs : List Loc), WB G S s H locs → ∀ (ls : Array Slot), lv_has ls 5 [(0, .ref a), (1, .ref g1), (2, .ref g2), (3, .int x3)] → W p l e RM_X7_weigh s m args below meth c H locs 0 0 (QR G below args s none S0 z) (F0 m 10 ls []) := by
  intro n
  induction n with
  | zero => intro x3 S hf; cases hf
  | succ n ih => intro x3 S hf; exact t_X7_weigh_10s (fu := fu) hM hml hr hlk (k10 := f_X7_weigh_10 fu n   a g1 g2) ih _ _ hf
noncomputable def f_X7_weigh_0 (fu : Nat)  (S : ST) (a : Nat) (g1 : Nat) (g2 : Nat) : Option (ST) :=
  nm (st S a (sI (S a) 2 (gI (S g1) 7))) fun S1 =>
  f_X7_weigh_10 fu fu a g1 g2 (1 : Int32) S1
set_option maxHeartbeats 4000000 in
set_option maxRecDepth 100000 in
theorem t_X7_weigh_0 {G : GG} {p : Program} {l : Launch} {e : Env} {s : State} {m : MethodId} {args : Array Value} {below : List Frame} {meth : Method} {c : Code} {S0 : ST} {fu : Nat} {z : ST} {a : Nat} {g1 : Nat} {g2 : Nat}  {S : ST} (hM : MC G p s m args c cX7_weigh w_X7_weigh RX7) (hml : c.maxLocals = 5) (hr : meth.sig.returnType = none) (hlk : meth.locks = false)   (hf : f_X7_weigh_0 fu  S a g1 g2  = some z) : (gC (S a) = 7) → (gC (S g1) = 3) → (gC (S g2) = 1) → (∀ b, gC (S0 b) ≠ 0 → gC (S b) = gC (S0 b)) → ∀ (H : Heap) (locs : List Loc), WB G S s H locs → ∀ (ls : Array Slot), lv_has ls 5 [(0, .ref a), (1, .ref g1), (2, .ref g2)] → W p l e RM_X7_weigh s m args below meth c H locs 0 0 (QR G below args s none S0 z) (F0 m 0 ls []) := by
  intro ha hg1 hg2 hK0 H locs hW ls hl
  have hx := hM.1
  have hb := hM.2.1
  refine lv_aload_n hx hb dX7_weigh_0 rfl (lv_at hl 0 rfl) ?_
  refine lv_aload_n hx hb dX7_weigh_1 rfl (lv_at hl 1 rfl) ?_
  refine b_get hM (hW.at_ g1) 2 7 hg1 rfl rfl (by decide) wi_X3 (wgm fk_RX7_22) (x := .int (gI (S g1) 7)) rfl dX7_weigh_2 ?_
  refine s_putI hM hW 6 2 ha rfl rfl (by decide) wi_X7 tyX7 tyX7_ok nmX7 (wgm fk_RX7_18) rfl rfl rfl dX7_weigh_5 (fun S1 eS1 hk H locs hW => ?_)
  have hf := nm_at eS1 hf
  have ha := keep1 hk ha
  have hg1 := keep1 hk hg1
  have hg2 := keep1 hk hg2
  have hK0 := keep_tr hK0 hk
  refine lv_iconst (v := (1 : Int32)) hx hb dX7_weigh_8 (by decide) ?_
  refine lv_istore_n (lv' := [(3, .int (1 : Int32)), (0, .ref a), (1, .ref g1), (2, .ref g2)]) hx hb dX7_weigh_9 rfl hl (by decide) rfl (fun ls hl => ?_)
  exact t_X7_weigh_10 (fu := fu) hM hml hr hlk _ _ hf ha hg1 hg2 hK0 _ _ hW _ (lv_sub hl [1, 2, 3, 0] rfl)
noncomputable def f_X7_weigh (fu : Nat) (S : ST) (a : Nat) (g1 : Nat) (g2 : Nat) : Option (ST) := f_X7_weigh_0 fu S a g1 g2
set_option maxHeartbeats 4000000 in
set_option maxRecDepth 100000 in
theorem c_X7_weigh (l : Launch) (G : GG) (fu : Nat) (S : ST) (a : Nat) (g1 : Nat) (g2 : Nat) {z : ST} (ha : gC (S a) = 7) (hg1 : gC (S g1) = 3) (hg2 : gC (S g2) = 1) (hf : f_X7_weigh fu S a g1 g2 = some z) : Ct l yX7_weigh w_X7_weigh RM_X7_weigh G S [.ref a, .ref g1, .ref g2] none z 0 0 := by
  refine Met.ofW (cc := cX7_weigh) (maxL := 5) (ret := none) (by decide) rfl ?_
  intro p e s m args below meth c s₁ B hml hv
  obtain ⟨rfl, hB, hK, hz⟩ := hv
  have hM : MC G p s m _ c cX7_weigh w_X7_weigh RX7 := ⟨B.exec, B.bytes, findClass_of_methodNamed B.named, atoms_spec (ws := w_X7_weigh) B.pre, hK, hz⟩
  have hW : WB G S s s.heap [] := ⟨hB, va_S.rf⟩
  have hl := lv_entry ([.ref a, .ref g1, .ref g2]) (n := 5) (Nat.le_of_ble_eq_true rfl)
  rw [lg_entry_eq]
  generalize (lg_sl ([.ref a, .ref g1, .ref g2]) ++ List.replicate (5 - (lg_sl ([.ref a, .ref g1, .ref g2])).length) Slot.unset).toArray = ls at hl ⊢
  have hl : lv_has ls 5 [(0, .ref a), (1, .ref g1), (2, .ref g2)] := hl
  exact t_X7_weigh_0 (fu := fu) hM hml B.returns B.notSynchronized hf ha hg1 hg2 (fun _ _ => rfl) _ _ hW _ (lv_sub hl [0, 1, 2] rfl)
abbrev RM_X7_total : Room := { frames := 0, cells := 0, slots := 0, locals := 0 }
abbrev w_X7_total : List Cond := Cond.code yX7_total cX7_total 1 (some .int) :: wsL_law0
noncomputable def f_X7_total_0 (fu : Nat)  (v : GV) : Option (Int32) :=
  some ((gA v 1 (0 : Int32).toNatClampNeg))
set_option maxHeartbeats 4000000 in
set_option maxRecDepth 100000 in
theorem t_X7_total_0 {G : GG} {p : Program} {l : Launch} {e : Env} {s : State} {m : MethodId} {args : Array Value} {below : List Frame} {meth : Method} {c : Code} {S : ST} {fu : Nat} {z : Int32} {a : Nat} {v : GV}  (hM : MC G p s m args c cX7_total w_X7_total RX7) (hml : c.maxLocals = 1) (hr : meth.sig.returnType = (some .int)) (hlk : meth.locks = false) (hc0 : gC v = 7)  (hf : f_X7_total_0 fu  v   = some z) : ∀ (H : Heap) (locs : List Loc), WB G (st S a v) s H locs → ∀ (ls : Array Slot), lv_has ls 1 [(0, .ref a)] → W p l e RM_X7_total s m args below meth c H locs 0 0 (QR G below args s (some (.int z)) (st S a v) (st S a v)) (F0 m 0 ls []) := by
  intro  H locs hW ls hl
  have hx := hM.1
  have hb := hM.2.1
  have hc := hc0
  refine lv_aload_n hx hb dX7_total_0 rfl (lv_at hl 0 rfl) ?_
  refine b_get hM hW 6 1 hc rfl rfl (by decide) wi_X7 (wgm fk_RX7_15) (x := .ref (a + 2)) rfl dX7_total_1 ?_
  refine lv_iconst (v := (0 : Int32)) hx hb dX7_total_4 (by decide) ?_
  refine b_iald (n := 243) hM hW 6 1 hc (by decide) rfl rfl rfl rfl (by decide) dX7_total_5 ?_
  cases hf
  exact W.iret hx hb hr (b_ret0 hW (fun _ _ => rfl) _) hW.2.2.2 dX7_total_6 hlk
noncomputable def f_X7_total (fu : Nat) (v : GV) : Option (Int32) := f_X7_total_0 fu v
set_option maxHeartbeats 4000000 in
set_option maxRecDepth 100000 in
theorem c_X7_total (l : Launch) (G : GG) (fu : Nat) (S : ST) (a : Nat) (v : GV) {z : Int32} (hc : gC v = 7) (hf : f_X7_total fu v = some z) : Ct l yX7_total w_X7_total RM_X7_total G (st S a v) [.ref a] (some (.int z)) (st S a v) 0 0 := by
  refine Met.ofW (cc := cX7_total) (maxL := 1) (ret := (some .int)) (by decide) rfl ?_
  intro p e s m args below meth c s₁ B hml hv
  obtain ⟨rfl, hB, hK, hz⟩ := hv
  have hM : MC G p s m _ c cX7_total w_X7_total RX7 := ⟨B.exec, B.bytes, findClass_of_methodNamed B.named, atoms_spec (ws := w_X7_total) B.pre, hK, hz⟩
  have hW : WB G (st S a v) s s.heap [] := ⟨hB, va_S.rf⟩
  have hl := lv_entry ([.ref a]) (n := 1) (Nat.le_of_ble_eq_true rfl)
  rw [lg_entry_eq]
  generalize (lg_sl ([.ref a]) ++ List.replicate (1 - (lg_sl ([.ref a])).length) Slot.unset).toArray = ls at hl ⊢
  have hl : lv_has ls 1 [(0, .ref a)] := hl
  exact t_X7_total_0 (fu := fu) hM hml B.returns B.notSynchronized hc hf _ _ hW _ (lv_sub hl [0] rfl)
abbrev RM_X7_firstWith : Room := { frames := 1, cells := 0, slots := 0, locals := 24 }
abbrev w_X7_firstWith : List Cond := Cond.code yX7_firstWith cX7_firstWith 4 (some .int) :: wsL_law0
noncomputable def f_X7_firstWith_2s (fu : Nat)  (k2 : Int32 → Option (Int32)) (v : GV) (x1 : Int32) (x2 : Int32) (x3 : Int32) : Option (Int32) :=
  if (5 : Int32) ≤ x3 then
    (some ((-1 : Int32)))
  else
    (bd (f_X7_waysWith fu v x1 x2 x3) fun r2 =>
    if r2 ≤ 0 then
      (nm (x3 + (1 : Int32)) fun y4 =>
      k2 y4)
    else
      (some (x3)))
noncomputable def f_X7_firstWith_2 (fu n : Nat)  (v : GV) (x1 : Int32) (x2 : Int32) : Int32 → Option (Int32) :=
  lq_1 (fun k2 => f_X7_firstWith_2s fu  k2 v  x1 x2) n
set_option maxHeartbeats 4000000 in
set_option maxRecDepth 100000 in
theorem t_X7_firstWith_2s {G : GG} {p : Program} {l : Launch} {e : Env} {s : State} {m : MethodId} {args : Array Value} {below : List Frame} {meth : Method} {c : Code} {S : ST} {fu : Nat} {z : Int32} {a : Nat} {v : GV}  {k2 : Int32 → Option (Int32)} {x1 : Int32} {x2 : Int32} (hM : MC G p s m args c cX7_firstWith w_X7_firstWith RX7) (hml : c.maxLocals = 4) (hr : meth.sig.returnType = (some .int)) (hlk : meth.locks = false) (hc0 : gC v = 7)  (hk2 : ∀ (x3 : Int32), k2 x3 = some z → ∀ (H : Heap) (locs : List Loc), WB G (st S a v) s H locs → ∀ (ls : Array Slot), lv_has ls 4 [(0, .ref a), (1, .int x1), (2, .int x2), (3, .int x3)] → W p l e RM_X7_firstWith s m args below meth c H locs 0 0 (QR G below args s (some (.int z)) (st S a v) (st S a v)) (F0 m 2 ls [])) : ∀ (x3 : Int32), f_X7_firstWith_2s fu  k2 v  x1 x2 x3 = some z → ∀ (H : Heap) (locs : List Loc), WB G (st S a v) s H locs → ∀ (ls : Array Slot), lv_has ls 4 [(0, .ref a), (1, .int x1), (2, .int x2), (3, .int x3)] → W p l e RM_X7_firstWith s m args below meth c H locs 0 0 (QR G below args s (some (.int z)) (st S a v) (st S a v)) (F0 m 2 ls []) := by
  intro x3 hf  H locs hW ls hl
  have hx := hM.1
  have hb := hM.2.1
  have hc := hc0
  refine lv_iload_n hx hb dX7_firstWith_2 rfl (lv_at hl 3 rfl) ?_
  refine lv_iconst (v := (5 : Int32)) hx hb dX7_firstWith_3 (by decide) ?_
  refine lv_icmp_ge (tgt := 25) hx hb dX7_firstWith_4 (by decide) (fun c1 => ?_) (fun c1 => ?_)
  · have hf := if_t c1 hf
    refine lv_iconst (v := (-1 : Int32)) hx hb dX7_firstWith_25 (by decide) ?_
    cases hf
    exact W.iret hx hb hr (b_ret0 hW (fun _ _ => rfl) _) hW.2.2.2 dX7_firstWith_26 hlk
  · have hf := if_f c1 hf
    refine lv_aload_n hx hb dX7_firstWith_7 rfl (lv_at hl 0 rfl) ?_
    refine lv_iload_n hx hb dX7_firstWith_8 rfl (lv_at hl 1 rfl) ?_
    refine lv_iload_n hx hb dX7_firstWith_9 rfl (lv_at hl 2 rfl) ?_
    refine lv_iload_n hx hb dX7_firstWith_10 rfl (lv_at hl 3 rfl) ?_
    obtain ⟨r2, hr2, hf⟩ := bd_elim hf
    refine b_callVi [.int x1, .int x2, .int x3] [] hM hml hl.1 hW hc rfl (by decide) (c_X7_waysWith l G fu _ a v _ _ _ hc hr2) (cwV 3 hM.2.2.2.1 (gV mk_RX7_59 im_X7_waysWith se_X7_waysWith it_RX7 cd_X7_waysWith) rfl rfl rfl (by decide +kernel) ⟨Nat.le_of_ble_eq_true rfl, Nat.le_of_ble_eq_true rfl⟩) rfl rfl (Nat.le_of_ble_eq_true rfl) ⟨Nat.zero_le _, Nat.zero_le _⟩ dX7_firstWith_11 (fun H locs hW hk => ?_)
    refine lv_if_le (tgt := 19) hx hb dX7_firstWith_14 (by decide) (fun c3 => ?_) (fun c3 => ?_)
    · have hf := if_t c3 hf
      obtain ⟨y4, ey4⟩ : ∃ y : Int32, y = x3 + (1 : Int32) := ⟨_, rfl⟩
      have hf := nm_at ey4 hf
      refine lv_iinc (v := y4) (lv' := [(3, .int y4), (0, .ref a), (1, .int x1), (2, .int x2)]) hx hb dX7_firstWith_19 hl (k := 3) rfl (by rw [ey4]; rfl) (by decide) rfl (fun ls hl => ?_)
      refine lv_goto (tgt := 2) hx hb dX7_firstWith_22 (by decide) ?_
      exact hk2 _ hf _ _ hW _ (lv_sub hl [1, 2, 3, 0] rfl)
    · have hf := if_f c3 hf
      refine lv_iload_n hx hb dX7_firstWith_17 rfl (lv_at hl 3 rfl) ?_
      cases hf
      exact W.iret hx hb hr (b_ret0 hW (fun _ _ => rfl) _) hW.2.2.2 dX7_firstWith_18 hlk
theorem t_X7_firstWith_2 {G : GG} {p : Program} {l : Launch} {e : Env} {s : State} {m : MethodId} {args : Array Value} {below : List Frame} {meth : Method} {c : Code} {S : ST} {fu : Nat} {z : Int32} {a : Nat} {v : GV}  {x1 : Int32} {x2 : Int32} (hM : MC G p s m args c cX7_firstWith w_X7_firstWith RX7) (hml : c.maxLocals = 4) (hr : meth.sig.returnType = (some .int)) (hlk : meth.locks = false) (hc0 : gC v = 7)  : ∀ {n : Nat} (x3 : Int32), f_X7_firstWith_2 fu n  v  x1 x2 x3 = some z → ∀ (H : Heap) (locs : List Loc), WB G (st S a v) s H locs → ∀ (ls : Array Slot), lv_has ls 4 [(0, .ref a), (1, .int x1), (2, .int x2), (3, .int x3)] → W p l e RM_X7_firstWith s m args below meth c H locs 0 0 (QR G below args s (some (.int z)) (st S a v) (st S a v)) (F0 m 2 ls []) := by
  intro n
  induction n with
  | zero => intro x3 hf; cases hf
  | succ n ih => intro x3 hf; exact t_X7_firstWith_2s (fu := fu) hM hml hr hlk hc0 (k2 := f_X7_firstWith_2 fu n  v  x1 x2) ih _ hf
noncomputable def f_X7_firstWith_0 (fu : Nat)  (v : GV) (x1 : Int32) (x2 : Int32) : Option (Int32) :=
  f_X7_firstWith_2 fu fu v x1 x2 (0 : Int32)
set_option maxHeartbeats 4000000 in
set_option maxRecDepth 100000 in
theorem t_X7_firstWith_0 {G : GG} {p : Program} {l : Launch} {e : Env} {s : State} {m : MethodId} {args : Array Value} {below : List Frame} {meth : Method} {c : Code} {S : ST} {fu : Nat} {z : Int32} {a : Nat} {v : GV}  {x1 : Int32} {x2 : Int32} (hM : MC G p s m args c cX7_firstWith w_X7_firstWith RX7) (hml : c.maxLocals = 4) (hr : meth.sig.returnType = (some .int)) (hlk : meth.locks = false) (hc0 : gC v = 7)  (hf : f_X7_firstWith_0 fu  v  x1 x2 = some z) : ∀ (H : Heap) (locs : List Loc), WB G (st S a v) s H locs → ∀ (ls : Array Slot), lv_has ls 4 [(0, .ref a), (1, .int x1), (2, .int x2)] → W p l e RM_X7_firstWith s m args below meth c H locs 0 0 (QR G below args s (some (.int z)) (st S a v) (st S a v)) (F0 m 0 ls []) := by
  intro  H locs hW ls hl
  have hx := hM.1
  have hb := hM.2.1
  have hc := hc0
  refine lv_iconst (v := (0 : Int32)) hx hb dX7_firstWith_0 (by decide) ?_
  refine lv_istore_n (lv' := [(3, .int (0 : Int32)), (0, .ref a), (1, .int x1), (2, .int x2)]) hx hb dX7_firstWith_1 rfl hl (by decide) rfl (fun ls hl => ?_)
  exact t_X7_firstWith_2 (fu := fu) hM hml hr hlk hc0 _ hf _ _ hW _ (lv_sub hl [1, 2, 3, 0] rfl)
noncomputable def f_X7_firstWith (fu : Nat) (v : GV) (x1 : Int32) (x2 : Int32) : Option (Int32) := f_X7_firstWith_0 fu v x1 x2
set_option maxHeartbeats 4000000 in
set_option maxRecDepth 100000 in
theorem c_X7_firstWith (l : Launch) (G : GG) (fu : Nat) (S : ST) (a : Nat) (v : GV) (x1 : Int32) (x2 : Int32) {z : Int32} (hc : gC v = 7) (hf : f_X7_firstWith fu v x1 x2 = some z) : Ct l yX7_firstWith w_X7_firstWith RM_X7_firstWith G (st S a v) [.ref a, .int x1, .int x2] (some (.int z)) (st S a v) 0 0 := by
  refine Met.ofW (cc := cX7_firstWith) (maxL := 4) (ret := (some .int)) (by decide) rfl ?_
  intro p e s m args below meth c s₁ B hml hv
  obtain ⟨rfl, hB, hK, hz⟩ := hv
  have hM : MC G p s m _ c cX7_firstWith w_X7_firstWith RX7 := ⟨B.exec, B.bytes, findClass_of_methodNamed B.named, atoms_spec (ws := w_X7_firstWith) B.pre, hK, hz⟩
  have hW : WB G (st S a v) s s.heap [] := ⟨hB, va_S.rf⟩
  have hl := lv_entry ([.ref a, .int x1, .int x2]) (n := 4) (Nat.le_of_ble_eq_true rfl)
  rw [lg_entry_eq]
  generalize (lg_sl ([.ref a, .int x1, .int x2]) ++ List.replicate (4 - (lg_sl ([.ref a, .int x1, .int x2])).length) Slot.unset).toArray = ls at hl ⊢
  have hl : lv_has ls 4 [(0, .ref a), (1, .int x1), (2, .int x2)] := hl
  exact t_X7_firstWith_0 (fu := fu) hM hml B.returns B.notSynchronized hc hf _ _ hW _ (lv_sub hl [0, 1, 2] rfl)
abbrev RM_X7_inFirst : Room := { frames := 2, cells := 0, slots := 0, locals := 47 }
abbrev w_X7_inFirst : List Cond := Cond.code yX7_inFirst cX7_inFirst 5 (some .int) :: wsL_law0
noncomputable def f_X7_inFirst_28 (fu : Nat)  (v : GV) (x4 : Int32) : Option (Int32) :=
  some (x4)
set_option maxHeartbeats 4000000 in
set_option maxRecDepth 100000 in
theorem t_X7_inFirst_28 {G : GG} {p : Program} {l : Launch} {e : Env} {s : State} {m : MethodId} {args : Array Value} {below : List Frame} {meth : Method} {c : Code} {S : ST} {fu : Nat} {z : Int32} {a : Nat} {v : GV}  {x4 : Int32} (hM : MC G p s m args c cX7_inFirst w_X7_inFirst RX7) (hml : c.maxLocals = 5) (hr : meth.sig.returnType = (some .int)) (hlk : meth.locks = false) (hc0 : gC v = 7)  (hf : f_X7_inFirst_28 fu  v  x4 = some z) : ∀ (H : Heap) (locs : List Loc), WB G (st S a v) s H locs → ∀ (ls : Array Slot), lv_has ls 5 [(4, .int x4)] → W p l e RM_X7_inFirst s m args below meth c H locs 0 0 (QR G below args s (some (.int z)) (st S a v) (st S a v)) (F0 m 28 ls []) := by
  intro  H locs hW ls hl
  have hx := hM.1
  have hb := hM.2.1
  have hc := hc0
  refine lv_iload hx hb dX7_inFirst_28 (lv_at hl 0 rfl) ?_
  cases hf
  exact W.iret hx hb hr (b_ret0 hW (fun _ _ => rfl) _) hW.2.2.2 dX7_inFirst_30 hlk
noncomputable def f_X7_inFirst_4s (fu : Nat)  (k4 : Int32 → Int32 → Option (Int32)) (v : GV) (x1 : Int32) (x2 : Int32) (x3 : Int32) : Option (Int32) :=
  if x1 < x3 then
    (some ((-1 : Int32)))
  else
    (bd (f_X7_firstWith fu v x2 x3) fun r2 =>
    if r2 = (-1 : Int32) then
      (f_X7_inFirst_28 fu v r2)
    else
      (if x3 = x1 then
        (f_X7_inFirst_28 fu v r2)
      else
        (ck (inb r2 5) <|
        nm ((x2 + (uni.getD r2.toNatClampNeg 0))) fun y6 =>
        nm (x3 + (1 : Int32)) fun y7 =>
        k4 y6 y7)))
noncomputable def f_X7_inFirst_4 (fu n : Nat)  (v : GV) (x1 : Int32) : Int32 → Int32 → Option (Int32) :=
  lq_2 (fun k4 => f_X7_inFirst_4s fu  k4 v  x1) n
set_option maxHeartbeats 4000000 in
set_option maxRecDepth 100000 in
theorem t_X7_inFirst_4s {G : GG} {p : Program} {l : Launch} {e : Env} {s : State} {m : MethodId} {args : Array Value} {below : List Frame} {meth : Method} {c : Code} {S : ST} {fu : Nat} {z : Int32} {a : Nat} {v : GV}  {k4 : Int32 → Int32 → Option (Int32)} {x1 : Int32} (hM : MC G p s m args c cX7_inFirst w_X7_inFirst RX7) (hml : c.maxLocals = 5) (hr : meth.sig.returnType = (some .int)) (hlk : meth.locks = false) (hc0 : gC v = 7)  (hk4 : ∀ (x2 : Int32) (x3 : Int32), k4 x2 x3 = some z → ∀ (H : Heap) (locs : List Loc), WB G (st S a v) s H locs → ∀ (ls : Array Slot), lv_has ls 5 [(0, .ref a), (1, .int x1), (2, .int x2), (3, .int x3)] → W p l e RM_X7_inFirst s m args below meth c H locs 0 0 (QR G below args s (some (.int z)) (st S a v) (st S a v)) (F0 m 4 ls [])) : ∀ (x2 : Int32) (x3 : Int32), f_X7_inFirst_4s fu  k4 v  x1 x2 x3 = some z → ∀ (H : Heap) (locs : List Loc), WB G (st S a v) s H locs → ∀ (ls : Array Slot), lv_has ls 5 [(0, .ref a), (1, .int x1), (2, .int x2), (3, .int x3)] → W p l e RM_X7_inFirst s m args below meth c H locs 0 0 (QR G below args s (some (.int z)) (st S a v) (st S a v)) (F0 m 4 ls []) := by
  intro x2 x3 hf  H locs hW ls hl
  have hx := hM.1
  have hb := hM.2.1
  have hc := hc0
  refine lv_iload_n hx hb dX7_inFirst_4 rfl (lv_at hl 3 rfl) ?_
  refine lv_iload_n hx hb dX7_inFirst_5 rfl (lv_at hl 1 rfl) ?_
  refine lv_icmp_gt (tgt := 46) hx hb dX7_inFirst_6 (by decide) (fun c1 => ?_) (fun c1 => ?_)
  · have hf := if_t c1 hf
    refine lv_iconst (v := (-1 : Int32)) hx hb dX7_inFirst_46 (by decide) ?_
    cases hf
    exact W.iret hx hb hr (b_ret0 hW (fun _ _ => rfl) _) hW.2.2.2 dX7_inFirst_47 hlk
  · have hf := if_f c1 hf
    refine lv_aload_n hx hb dX7_inFirst_9 rfl (lv_at hl 0 rfl) ?_
    refine lv_iload_n hx hb dX7_inFirst_10 rfl (lv_at hl 2 rfl) ?_
    refine lv_iload_n hx hb dX7_inFirst_11 rfl (lv_at hl 3 rfl) ?_
    obtain ⟨r2, hr2, hf⟩ := bd_elim hf
    refine b_callVi [.int x2, .int x3] [] hM hml hl.1 hW hc rfl (by decide) (c_X7_firstWith l G fu _ a v _ _ hc hr2) (cwV 2 hM.2.2.2.1 (gV mk_RX7_66 im_X7_firstWith se_X7_firstWith it_RX7 cd_X7_firstWith) rfl rfl rfl (by decide +kernel) ⟨Nat.le_of_ble_eq_true rfl, Nat.le_of_ble_eq_true rfl⟩) rfl rfl (Nat.le_of_ble_eq_true rfl) ⟨Nat.zero_le _, Nat.zero_le _⟩ dX7_inFirst_12 (fun H locs hW hk => ?_)
    refine lv_istore (lv' := [(4, .int r2), (0, .ref a), (1, .int x1), (2, .int x2), (3, .int x3)]) hx hb dX7_inFirst_15 hl (by decide) rfl (fun ls hl => ?_)
    refine lv_iload hx hb dX7_inFirst_17 (lv_at hl 0 rfl) ?_
    refine lv_iconst (v := (-1 : Int32)) hx hb dX7_inFirst_19 (by decide) ?_
    refine lv_icmp_eq (tgt := 28) hx hb dX7_inFirst_20 (by decide) (fun c3 => ?_) (fun c3 => ?_)
    · have hf := if_t c3 hf
      exact t_X7_inFirst_28 (fu := fu) hM hml hr hlk hc0 hf _ _ hW _ (lv_sub hl [0] rfl)
    · have hf := if_f c3 hf
      refine lv_iload_n hx hb dX7_inFirst_23 rfl (lv_at hl 4 rfl) ?_
      refine lv_iload_n hx hb dX7_inFirst_24 rfl (lv_at hl 2 rfl) ?_
      refine lv_icmp_ne (tgt := 31) hx hb dX7_inFirst_25 (by decide) (fun c4 => ?_) (fun c4 => ?_)
      · have hf := if_f c4 hf
        refine lv_iload_n hx hb dX7_inFirst_31 rfl (lv_at hl 3 rfl) ?_
        refine k_units hM hW (wgm fk_RX7_63) dX7_inFirst_32 ?_
        refine lv_iload hx hb dX7_inFirst_35 (lv_at hl 0 rfl) ?_
        obtain ⟨h5, hf⟩ := ck_elim hf
        refine k_iun hM hW h5 dX7_inFirst_37 ?_
        refine lv_iadd hx hb dX7_inFirst_38 ?_
        refine lv_topi (fun y6 ey6 => ?_)
        have hf := nm_at ey6 hf
        refine lv_istore_n (lv' := [(2, .int y6), (4, .int r2), (0, .ref a), (1, .int x1), (3, .int x3)]) hx hb dX7_inFirst_39 rfl hl (by decide) rfl (fun ls hl => ?_)
        obtain ⟨y7, ey7⟩ : ∃ y : Int32, y = x3 + (1 : Int32) := ⟨_, rfl⟩
        have hf := nm_at ey7 hf
        refine lv_iinc (v := y7) (lv' := [(3, .int y7), (2, .int y6), (4, .int r2), (0, .ref a), (1, .int x1)]) hx hb dX7_inFirst_40 hl (k := 4) rfl (by rw [ey7]; rfl) (by decide) rfl (fun ls hl => ?_)
        refine lv_goto (tgt := 4) hx hb dX7_inFirst_43 (by decide) ?_
        exact hk4 _ _ hf _ _ hW _ (lv_sub hl [3, 4, 1, 0] rfl)
      · have hf := if_t c4 hf
        exact t_X7_inFirst_28 (fu := fu) hM hml hr hlk hc0 hf _ _ hW _ (lv_sub hl [0] rfl)
theorem t_X7_inFirst_4 {G : GG} {p : Program} {l : Launch} {e : Env} {s : State} {m : MethodId} {args : Array Value} {below : List Frame} {meth : Method} {c : Code} {S : ST} {fu : Nat} {z : Int32} {a : Nat} {v : GV}  {x1 : Int32} (hM : MC G p s m args c cX7_inFirst w_X7_inFirst RX7) (hml : c.maxLocals = 5) (hr : meth.sig.returnType = (some .int)) (hlk : meth.locks = false) (hc0 : gC v = 7)  : ∀ {n : Nat} (x2 : Int32) (x3 : Int32), f_X7_inFirst_4 fu n  v  x1 x2 x3 = some z → ∀ (H : Heap) (locs : List Loc), WB G (st S a v) s H locs → ∀ (ls : Array Slot), lv_has ls 5 [(0, .ref a), (1, .int x1), (2, .int x2), (3, .int x3)] → W p l e RM_X7_inFirst s m args below meth c H locs 0 0 (QR G below args s (some (.int z)) (st S a v) (st S a v)) (F0 m 4 ls []) := by
  intro n
  induction n with
  | zero => intro x2 x3 hf; cases hf
  | succ n ih => intro x2 x3 hf; exact t_X7_inFirst_4s (fu := fu) hM hml hr hlk hc0 (k4 := f_X7_inFirst_4 fu n  v  x1) ih _ _ hf
noncomputable def f_X7_inFirst_0 (fu : Nat)  (v : GV) (x1 : Int32) : Option (Int32) :=
  f_X7_inFirst_4 fu fu v x1 (0 : Int32) (1 : Int32)
set_option maxHeartbeats 4000000 in
set_option maxRecDepth 100000 in
theorem t_X7_inFirst_0 {G : GG} {p : Program} {l : Launch} {e : Env} {s : State} {m : MethodId} {args : Array Value} {below : List Frame} {meth : Method} {c : Code} {S : ST} {fu : Nat} {z : Int32} {a : Nat} {v : GV}  {x1 : Int32} (hM : MC G p s m args c cX7_inFirst w_X7_inFirst RX7) (hml : c.maxLocals = 5) (hr : meth.sig.returnType = (some .int)) (hlk : meth.locks = false) (hc0 : gC v = 7)  (hf : f_X7_inFirst_0 fu  v  x1 = some z) : ∀ (H : Heap) (locs : List Loc), WB G (st S a v) s H locs → ∀ (ls : Array Slot), lv_has ls 5 [(0, .ref a), (1, .int x1)] → W p l e RM_X7_inFirst s m args below meth c H locs 0 0 (QR G below args s (some (.int z)) (st S a v) (st S a v)) (F0 m 0 ls []) := by
  intro  H locs hW ls hl
  have hx := hM.1
  have hb := hM.2.1
  have hc := hc0
  refine lv_iconst (v := (0 : Int32)) hx hb dX7_inFirst_0 (by decide) ?_
  refine lv_istore_n (lv' := [(2, .int (0 : Int32)), (0, .ref a), (1, .int x1)]) hx hb dX7_inFirst_1 rfl hl (by decide) rfl (fun ls hl => ?_)
  refine lv_iconst (v := (1 : Int32)) hx hb dX7_inFirst_2 (by decide) ?_
  refine lv_istore_n (lv' := [(3, .int (1 : Int32)), (2, .int (0 : Int32)), (0, .ref a), (1, .int x1)]) hx hb dX7_inFirst_3 rfl hl (by decide) rfl (fun ls hl => ?_)
  exact t_X7_inFirst_4 (fu := fu) hM hml hr hlk hc0 _ _ hf _ _ hW _ (lv_sub hl [2, 3, 1, 0] rfl)
noncomputable def f_X7_inFirst (fu : Nat) (v : GV) (x1 : Int32) : Option (Int32) := f_X7_inFirst_0 fu v x1
set_option maxHeartbeats 4000000 in
set_option maxRecDepth 100000 in
theorem c_X7_inFirst (l : Launch) (G : GG) (fu : Nat) (S : ST) (a : Nat) (v : GV) (x1 : Int32) {z : Int32} (hc : gC v = 7) (hf : f_X7_inFirst fu v x1 = some z) : Ct l yX7_inFirst w_X7_inFirst RM_X7_inFirst G (st S a v) [.ref a, .int x1] (some (.int z)) (st S a v) 0 0 := by
  refine Met.ofW (cc := cX7_inFirst) (maxL := 5) (ret := (some .int)) (by decide) rfl ?_
  intro p e s m args below meth c s₁ B hml hv
  obtain ⟨rfl, hB, hK, hz⟩ := hv
  have hM : MC G p s m _ c cX7_inFirst w_X7_inFirst RX7 := ⟨B.exec, B.bytes, findClass_of_methodNamed B.named, atoms_spec (ws := w_X7_inFirst) B.pre, hK, hz⟩
  have hW : WB G (st S a v) s s.heap [] := ⟨hB, va_S.rf⟩
  have hl := lv_entry ([.ref a, .int x1]) (n := 5) (Nat.le_of_ble_eq_true rfl)
  rw [lg_entry_eq]
  generalize (lg_sl ([.ref a, .int x1]) ++ List.replicate (5 - (lg_sl ([.ref a, .int x1])).length) Slot.unset).toArray = ls at hl ⊢
  have hl : lv_has ls 5 [(0, .ref a), (1, .int x1)] := hl
  exact t_X7_inFirst_0 (fu := fu) hM hml B.returns B.notSynchronized hc hf _ _ hW _ (lv_sub hl [0, 1] rfl)
abbrev RM_X7_inAll : Room := { frames := 3, cells := 0, slots := 0, locals := 71 }
abbrev w_X7_inAll : List Cond := Cond.code yX7_inAll cX7_inAll 4 (some .int) :: wsL_law0
noncomputable def f_X7_inAll_0 (fu : Nat)  (v : GV) (x1 : Int32) : Option (Int32 × GV) :=
  bd (f_X7_inFirst fu v x1) fun r1 =>
  if r1 = (-1 : Int32) then
    (some ((-1 : Int32), v))
  else
    (bd (f_X7_total fu v) fun r3 =>
    nm (((1 : Int32) <<< (r1 &&& 31))) fun y4 =>
    ck (inb x1 8) <|
    nm (sA v 0 x1.toNatClampNeg y4) fun v6 =>
    bd (f_X7_countWays fu v6) fun v8 =>
    bd (f_X7_total fu v8) fun r9 =>
    if r9 = r3 then
      (some (r1, v8))
    else
      (some ((-1 : Int32), v8)))
set_option maxHeartbeats 4000000 in
set_option maxRecDepth 100000 in
theorem t_X7_inAll_0 {G : GG} {p : Program} {l : Launch} {e : Env} {s : State} {m : MethodId} {args : Array Value} {below : List Frame} {meth : Method} {c : Code} {S : ST} {fu : Nat} {z : Int32 × GV} {a : Nat} {v0 : GV}  {v : GV} {x1 : Int32} (hM : MC G p s m args c cX7_inAll w_X7_inAll RX7) (hml : c.maxLocals = 4) (hr : meth.sig.returnType = (some .int)) (hlk : meth.locks = false) (hc0 : gC v0 = 7)  (hf : f_X7_inAll_0 fu  v  x1 = some z) : (gC v = 7) → ∀ (H : Heap) (locs : List Loc), WB G (st S a v) s H locs → ∀ (ls : Array Slot), lv_has ls 4 [(0, .ref a), (1, .int x1)] → W p l e RM_X7_inAll s m args below meth c H locs 0 0 (QR G below args s (some (.int z.1)) (st S a v0) (st S a z.2)) (F0 m 0 ls []) := by
  intro hc H locs hW ls hl
  have hx := hM.1
  have hb := hM.2.1
  refine lv_aload_n hx hb dX7_inAll_0 rfl (lv_at hl 0 rfl) ?_
  refine lv_iload_n hx hb dX7_inAll_1 rfl (lv_at hl 1 rfl) ?_
  obtain ⟨r1, hr1, hf⟩ := bd_elim hf
  refine b_callVi [.int x1] [] hM hml hl.1 hW hc rfl (by decide) (c_X7_inFirst l G fu _ a v _ hc hr1) (cwV 1 hM.2.2.2.1 (gV mk_RX7_70 im_X7_inFirst se_X7_inFirst it_RX7 cd_X7_inFirst) rfl rfl rfl (by decide +kernel) ⟨Nat.le_of_ble_eq_true rfl, Nat.le_of_ble_eq_true rfl⟩) rfl rfl (Nat.le_of_ble_eq_true rfl) ⟨Nat.zero_le _, Nat.zero_le _⟩ dX7_inAll_2 (fun H locs hW hk => ?_)
  refine lv_istore_n (lv' := [(2, .int r1), (0, .ref a), (1, .int x1)]) hx hb dX7_inAll_5 rfl hl (by decide) rfl (fun ls hl => ?_)
  refine lv_iload_n hx hb dX7_inAll_6 rfl (lv_at hl 0 rfl) ?_
  refine lv_iconst (v := (-1 : Int32)) hx hb dX7_inAll_7 (by decide) ?_
  refine lv_icmp_ne (tgt := 13) hx hb dX7_inAll_8 (by decide) (fun c2 => ?_) (fun c2 => ?_)
  · have hf := if_f c2 hf
    refine lv_aload_n hx hb dX7_inAll_13 rfl (lv_at hl 1 rfl) ?_
    obtain ⟨r3, hr3, hf⟩ := bd_elim hf
    refine b_callVi [] [] hM hml hl.1 hW hc rfl (by decide) (c_X7_total l G fu _ a v hc hr3) (cwV 0 hM.2.2.2.1 (gV mk_RX7_73 im_X7_total se_X7_total it_RX7 cd_X7_total) rfl rfl rfl (by decide +kernel) ⟨Nat.le_of_ble_eq_true rfl, Nat.le_of_ble_eq_true rfl⟩) rfl rfl (Nat.le_of_ble_eq_true rfl) ⟨Nat.zero_le _, Nat.zero_le _⟩ dX7_inAll_14 (fun H locs hW hk => ?_)
    refine lv_istore_n (lv' := [(3, .int r3), (2, .int r1), (0, .ref a), (1, .int x1)]) hx hb dX7_inAll_17 rfl hl (by decide) rfl (fun ls hl => ?_)
    refine lv_aload_n hx hb dX7_inAll_18 rfl (lv_at hl 2 rfl) ?_
    refine b_get hM hW 6 0 hc rfl rfl (by decide) wi_X7 (wgm fk_RX7_9) (x := .ref (a + 1)) rfl dX7_inAll_19 ?_
    refine lv_iload_n hx hb dX7_inAll_22 rfl (lv_at hl 3 rfl) ?_
    refine lv_iconst (v := (1 : Int32)) hx hb dX7_inAll_23 (by decide) ?_
    refine lv_iload_n hx hb dX7_inAll_24 rfl (lv_at hl 1 rfl) ?_
    refine lv_ishl hx hb dX7_inAll_25 ?_
    refine lv_topi (fun y4 ey4 => ?_)
    have hf := nm_at ey4 hf
    obtain ⟨h5, hf⟩ := ck_elim hf
    refine b_iast (n := 8) hM hW 6 0 hc (by decide) rfl rfl rfl rfl h5 dX7_inAll_26 (fun v6 ev6 hc H locs hW => ?_)
    have hf := nm_at ev6 hf
    refine lv_aload_n hx hb dX7_inAll_27 rfl (lv_at hl 2 rfl) ?_
    obtain ⟨v8, hr7, hf⟩ := bd_elim hf
    refine b_callVv [] [] hM hml hl.1 hW hc rfl (by decide) (c_X7_countWays l G fu _ a v6 hc hr7) (cwV 0 hM.2.2.2.1 (gV mk_RX7_45 im_X7_countWays se_X7_countWays it_RX7 cd_X7_countWays) rfl rfl rfl (by decide +kernel) ⟨Nat.le_of_ble_eq_true rfl, Nat.le_of_ble_eq_true rfl⟩) rfl rfl (Nat.le_of_ble_eq_true rfl) ⟨Nat.zero_le _, Nat.zero_le _⟩ dX7_inAll_28 (fun H locs hW hk => ?_)
    have hc := keep_at hc hk
    refine lv_aload_n hx hb dX7_inAll_31 rfl (lv_at hl 2 rfl) ?_
    obtain ⟨r9, hr9, hf⟩ := bd_elim hf
    refine b_callVi [] [] hM hml hl.1 hW hc rfl (by decide) (c_X7_total l G fu _ a v8 hc hr9) (cwV 0 hM.2.2.2.1 (gV mk_RX7_73 im_X7_total se_X7_total it_RX7 cd_X7_total) rfl rfl rfl (by decide +kernel) ⟨Nat.le_of_ble_eq_true rfl, Nat.le_of_ble_eq_true rfl⟩) rfl rfl (Nat.le_of_ble_eq_true rfl) ⟨Nat.zero_le _, Nat.zero_le _⟩ dX7_inAll_32 (fun H locs hW hk => ?_)
    refine lv_iload_n hx hb dX7_inAll_35 rfl (lv_at hl 0 rfl) ?_
    refine lv_icmp_ne (tgt := 43) hx hb dX7_inAll_36 (by decide) (fun c10 => ?_) (fun c10 => ?_)
    · have hf := if_f c10 hf
      refine lv_iconst (v := (-1 : Int32)) hx hb dX7_inAll_43 (by decide) ?_
      cases hf
      exact W.iret hx hb hr (b_ret0 hW (keep_s2 hc0 hc) _) hW.2.2.2 dX7_inAll_44 hlk
    · have hf := if_t c10 hf
      refine lv_iload_n hx hb dX7_inAll_39 rfl (lv_at hl 1 rfl) ?_
      refine lv_goto (tgt := 44) hx hb dX7_inAll_40 (by decide) ?_
      cases hf
      exact W.iret hx hb hr (b_ret0 hW (keep_s2 hc0 hc) _) hW.2.2.2 dX7_inAll_44 hlk
  · have hf := if_t c2 hf
    refine lv_iconst (v := (-1 : Int32)) hx hb dX7_inAll_11 (by decide) ?_
    cases hf
    exact W.iret hx hb hr (b_ret0 hW (keep_s2 hc0 hc) _) hW.2.2.2 dX7_inAll_12 hlk
noncomputable def f_X7_inAll (fu : Nat) (v : GV) (x1 : Int32) : Option (Int32 × GV) := f_X7_inAll_0 fu v x1
set_option maxHeartbeats 4000000 in
set_option maxRecDepth 100000 in
theorem c_X7_inAll (l : Launch) (G : GG) (fu : Nat) (S : ST) (a : Nat) (v : GV) (x1 : Int32) {z : Int32} {w : GV} (hc : gC v = 7) (hf : f_X7_inAll fu v x1 = some (z, w)) : Ct l yX7_inAll w_X7_inAll RM_X7_inAll G (st S a v) [.ref a, .int x1] (some (.int z)) (st S a w) 0 0 := by
  refine Met.ofW (cc := cX7_inAll) (maxL := 4) (ret := (some .int)) (by decide) rfl ?_
  intro p e s m args below meth c s₁ B hml hv
  obtain ⟨rfl, hB, hK, hz⟩ := hv
  have hM : MC G p s m _ c cX7_inAll w_X7_inAll RX7 := ⟨B.exec, B.bytes, findClass_of_methodNamed B.named, atoms_spec (ws := w_X7_inAll) B.pre, hK, hz⟩
  have hW : WB G (st S a v) s s.heap [] := ⟨hB, va_S.rf⟩
  have hl := lv_entry ([.ref a, .int x1]) (n := 4) (Nat.le_of_ble_eq_true rfl)
  rw [lg_entry_eq]
  generalize (lg_sl ([.ref a, .int x1]) ++ List.replicate (4 - (lg_sl ([.ref a, .int x1])).length) Slot.unset).toArray = ls at hl ⊢
  have hl : lv_has ls 4 [(0, .ref a), (1, .int x1)] := hl
  exact t_X7_inAll_0 (fu := fu) hM hml B.returns B.notSynchronized hc hf hc _ _ hW _ (lv_sub hl [0, 1] rfl)
abbrev RM_X8_append : Room := { frames := 0, cells := 0, slots := 0, locals := 0 }
abbrev w_X8_append : List Cond := Cond.code yX8_append cX8_append 6 none :: wsL_law0
noncomputable def f_X8_append_84 (fu : Nat) (k3 : Int32 → GV → Option (GV)) (v : GV) (x1 : Int64) (x3 : Int32) : Option (GV) :=
  nm (x3 + (-8 : Int32)) fun y1 =>
  k3 y1 v
set_option maxHeartbeats 4000000 in
set_option maxRecDepth 100000 in
theorem t_X8_append_84 {G : GG} {p : Program} {l : Launch} {e : Env} {s : State} {m : MethodId} {args : Array Value} {below : List Frame} {meth : Method} {c : Code} {S : ST} {fu : Nat} {z : GV} {a : Nat} {v0 : GV} {k3 : Int32 → GV → Option (GV)} {v : GV} {x1 : Int64} {x3 : Int32} (hM : MC G p s m args c cX8_append w_X8_append RX8) (hml : c.maxLocals = 6) (hr : meth.sig.returnType = none) (hlk : meth.locks = false) (hc0 : gC v0 = 8) (hk3 : ∀ (x3 : Int32) (v : GV), k3 x3 v = some z → (gC v = 8) → ∀ (H : Heap) (locs : List Loc), WB G (st S a v) s H locs → ∀ (ls : Array Slot), lv_has ls 6 [(0, .ref a), (1, .long x1), (3, .int x3)] → W p l e RM_X8_append s m args below meth c H locs 0 0 (QR G below args s none (st S a v0) (st S a z)) (F0 m 3 ls [])) (hf : f_X8_append_84 fu k3 v  x1 x3 = some z) : (gC v = 8) → ∀ (H : Heap) (locs : List Loc), WB G (st S a v) s H locs → ∀ (ls : Array Slot), lv_has ls 6 [(0, .ref a), (1, .long x1), (3, .int x3)] → W p l e RM_X8_append s m args below meth c H locs 0 0 (QR G below args s none (st S a v0) (st S a z)) (F0 m 84 ls []) := by
  intro hc H locs hW ls hl
  have hx := hM.1
  have hb := hM.2.1
  obtain ⟨y1, ey1⟩ : ∃ y : Int32, y = x3 + (-8 : Int32) := ⟨_, rfl⟩
  have hf := nm_at ey1 hf
  refine lv_iinc (v := y1) (lv' := [(3, .int y1), (0, .ref a), (1, .long x1)]) hx hb dX8_append_84 hl (k := 2) rfl (by rw [ey1]; rfl) (by decide) rfl (fun ls hl => ?_)
  refine lv_goto (tgt := 3) hx hb dX8_append_87 (by decide) ?_
  exact hk3 _ _ hf hc _ _ hW _ (lv_sub hl [1, 2, 0] rfl)
noncomputable def f_X8_append_43 (fu : Nat) (k3 : Int32 → GV → Option (GV)) (v : GV) (x1 : Int64) (x3 : Int32) (x4 : Int32) (t0 : Int32) : Option (GV) :=
  if t0 = 0 then
    (f_X8_append_84 fu k3 v x1 x3)
  else
    (if (1000 : Int32) ≤ (gI v 6) then
      (f_X8_append_84 fu k3 v x1 x3)
    else
      (nm (((x4).toUInt32 % 65536).toInt32) fun y3 =>
      ck (inb (gI v 6) 1000) <|
      nm (sA v 0 (gI v 6).toNatClampNeg (vp_nar .char y3)) fun v5 =>
      nm (sI v5 6 ((gI v5 6) + (1 : Int32))) fun v6 =>
      f_X8_append_84 fu k3 v6 x1 x3))
set_option maxHeartbeats 4000000 in
set_option maxRecDepth 100000 in
theorem t_X8_append_43 {G : GG} {p : Program} {l : Launch} {e : Env} {s : State} {m : MethodId} {args : Array Value} {below : List Frame} {meth : Method} {c : Code} {S : ST} {fu : Nat} {z : GV} {a : Nat} {v0 : GV} {k3 : Int32 → GV → Option (GV)} {v : GV} {x1 : Int64} {x3 : Int32} {x4 : Int32} {t0 : Int32} (hM : MC G p s m args c cX8_append w_X8_append RX8) (hml : c.maxLocals = 6) (hr : meth.sig.returnType = none) (hlk : meth.locks = false) (hc0 : gC v0 = 8) (hk3 : ∀ (x3 : Int32) (v : GV), k3 x3 v = some z → (gC v = 8) → ∀ (H : Heap) (locs : List Loc), WB G (st S a v) s H locs → ∀ (ls : Array Slot), lv_has ls 6 [(0, .ref a), (1, .long x1), (3, .int x3)] → W p l e RM_X8_append s m args below meth c H locs 0 0 (QR G below args s none (st S a v0) (st S a z)) (F0 m 3 ls [])) (hf : f_X8_append_43 fu k3 v  x1 x3 x4 t0 = some z) : (gC v = 8) → ∀ (H : Heap) (locs : List Loc), WB G (st S a v) s H locs → ∀ (ls : Array Slot), lv_has ls 6 [(0, .ref a), (1, .long x1), (3, .int x3), (4, .int x4)] → W p l e RM_X8_append s m args below meth c H locs 0 0 (QR G below args s none (st S a v0) (st S a z)) (F0 m 43 ls [.int t0]) := by
  intro hc H locs hW ls hl
  have hx := hM.1
  have hb := hM.2.1
  refine lv_istore (lv' := [(5, .int t0), (0, .ref a), (1, .long x1), (3, .int x3), (4, .int x4)]) hx hb dX8_append_43 hl (by decide) rfl (fun ls hl => ?_)
  refine lv_iload hx hb dX8_append_45 (lv_at hl 0 rfl) ?_
  refine lv_if_eq (tgt := 84) hx hb dX8_append_47 (by decide) (fun c1 => ?_) (fun c1 => ?_)
  · have hf := if_t c1 hf
    exact t_X8_append_84 (fu := fu) hM hml hr hlk hc0 hk3 hf hc _ _ hW _ (lv_sub hl [1, 2, 3] rfl)
  · have hf := if_f c1 hf
    refine lv_aload_n hx hb dX8_append_50 rfl (lv_at hl 1 rfl) ?_
    refine b_get hM hW 7 6 hc rfl rfl (by decide) wi_X8 (wgm fk_RX8_33) (x := .int (gI v 6)) rfl dX8_append_51 ?_
    refine lv_aload_n hx hb dX8_append_54 rfl (lv_at hl 1 rfl) ?_
    refine b_get hM hW 7 0 hc rfl rfl (by decide) wi_X8 (wgm fk_RX8_9) (x := .ref (a + 1)) rfl dX8_append_55 ?_
    refine b_alen (n := 1000) hM hW 7 0 2 hc (by decide) rfl rfl (by decide) rfl rfl (x := (1000 : Int32)) (by decide) dX8_append_58 ?_
    refine lv_icmp_ge (tgt := 84) hx hb dX8_append_59 (by decide) (fun c2 => ?_) (fun c2 => ?_)
    · have hf := if_t c2 hf
      exact t_X8_append_84 (fu := fu) hM hml hr hlk hc0 hk3 hf hc _ _ hW _ (lv_sub hl [1, 2, 3] rfl)
    · have hf := if_f c2 hf
      refine lv_aload_n hx hb dX8_append_62 rfl (lv_at hl 1 rfl) ?_
      refine b_get hM hW 7 0 hc rfl rfl (by decide) wi_X8 (wgm fk_RX8_9) (x := .ref (a + 1)) rfl dX8_append_63 ?_
      refine lv_aload_n hx hb dX8_append_66 rfl (lv_at hl 1 rfl) ?_
      refine b_get hM hW 7 6 hc rfl rfl (by decide) wi_X8 (wgm fk_RX8_33) (x := .int (gI v 6)) rfl dX8_append_67 ?_
      refine lv_iload hx hb dX8_append_70 (lv_at hl 4 rfl) ?_
      refine lv_i2c hx hb dX8_append_72 rfl ?_
      refine lv_topi (fun y3 ey3 => ?_)
      have hf := nm_at ey3 hf
      obtain ⟨h4, hf⟩ := ck_elim hf
      refine b_cast (n := 1000) hM hW 7 0 hc (by decide) rfl rfl rfl rfl h4 dX8_append_73 (fun v5 ev5 hc H locs hW => ?_)
      have hf := nm_at ev5 hf
      refine lv_aload_n hx hb dX8_append_74 rfl (lv_at hl 1 rfl) ?_
      refine lv_dup hx hb dX8_append_75 rfl ?_
      refine b_get hM hW 7 6 hc rfl rfl (by decide) wi_X8 (wgm fk_RX8_33) (x := .int (gI v5 6)) rfl dX8_append_76 ?_
      refine lv_iconst (v := (1 : Int32)) hx hb dX8_append_79 (by decide) ?_
      refine lv_iadd hx hb dX8_append_80 ?_
      refine b_putI hM hW 7 6 hc rfl rfl (by decide) wi_X8 tyX8 tyX8_ok nmX8 (wgm fk_RX8_33) rfl rfl rfl dX8_append_81 (fun v6 ev6 hc H locs hW => ?_)
      have hf := nm_at ev6 hf
      exact t_X8_append_84 (fu := fu) hM hml hr hlk hc0 hk3 hf hc _ _ hW _ (lv_sub hl [1, 2, 3] rfl)
noncomputable def f_X8_append_42 (fu : Nat) (k3 : Int32 → GV → Option (GV)) (v : GV) (x1 : Int64) (x3 : Int32) (x4 : Int32) : Option (GV) :=
  f_X8_append_43 fu k3 v x1 x3 x4 (0 : Int32)
set_option maxHeartbeats 4000000 in
set_option maxRecDepth 100000 in
theorem t_X8_append_42 {G : GG} {p : Program} {l : Launch} {e : Env} {s : State} {m : MethodId} {args : Array Value} {below : List Frame} {meth : Method} {c : Code} {S : ST} {fu : Nat} {z : GV} {a : Nat} {v0 : GV} {k3 : Int32 → GV → Option (GV)} {v : GV} {x1 : Int64} {x3 : Int32} {x4 : Int32} (hM : MC G p s m args c cX8_append w_X8_append RX8) (hml : c.maxLocals = 6) (hr : meth.sig.returnType = none) (hlk : meth.locks = false) (hc0 : gC v0 = 8) (hk3 : ∀ (x3 : Int32) (v : GV), k3 x3 v = some z → (gC v = 8) → ∀ (H : Heap) (locs : List Loc), WB G (st S a v) s H locs → ∀ (ls : Array Slot), lv_has ls 6 [(0, .ref a), (1, .long x1), (3, .int x3)] → W p l e RM_X8_append s m args below meth c H locs 0 0 (QR G below args s none (st S a v0) (st S a z)) (F0 m 3 ls [])) (hf : f_X8_append_42 fu k3 v  x1 x3 x4 = some z) : (gC v = 8) → ∀ (H : Heap) (locs : List Loc), WB G (st S a v) s H locs → ∀ (ls : Array Slot), lv_has ls 6 [(0, .ref a), (1, .long x1), (3, .int x3), (4, .int x4)] → W p l e RM_X8_append s m args below meth c H locs 0 0 (QR G below args s none (st S a v0) (st S a z)) (F0 m 42 ls []) := by
  intro hc H locs hW ls hl
  have hx := hM.1
  have hb := hM.2.1
  refine lv_iconst (v := (0 : Int32)) hx hb dX8_append_42 (by decide) ?_
  exact t_X8_append_43 (fu := fu) hM hml hr hlk hc0 hk3 hf hc _ _ hW _ (lv_sub hl [0, 1, 2, 3] rfl)
noncomputable def f_X8_append_38 (fu : Nat) (k3 : Int32 → GV → Option (GV)) (v : GV) (x1 : Int64) (x3 : Int32) (x4 : Int32) : Option (GV) :=
  f_X8_append_43 fu k3 v x1 x3 x4 (1 : Int32)
set_option maxHeartbeats 4000000 in
set_option maxRecDepth 100000 in
theorem t_X8_append_38 {G : GG} {p : Program} {l : Launch} {e : Env} {s : State} {m : MethodId} {args : Array Value} {below : List Frame} {meth : Method} {c : Code} {S : ST} {fu : Nat} {z : GV} {a : Nat} {v0 : GV} {k3 : Int32 → GV → Option (GV)} {v : GV} {x1 : Int64} {x3 : Int32} {x4 : Int32} (hM : MC G p s m args c cX8_append w_X8_append RX8) (hml : c.maxLocals = 6) (hr : meth.sig.returnType = none) (hlk : meth.locks = false) (hc0 : gC v0 = 8) (hk3 : ∀ (x3 : Int32) (v : GV), k3 x3 v = some z → (gC v = 8) → ∀ (H : Heap) (locs : List Loc), WB G (st S a v) s H locs → ∀ (ls : Array Slot), lv_has ls 6 [(0, .ref a), (1, .long x1), (3, .int x3)] → W p l e RM_X8_append s m args below meth c H locs 0 0 (QR G below args s none (st S a v0) (st S a z)) (F0 m 3 ls [])) (hf : f_X8_append_38 fu k3 v  x1 x3 x4 = some z) : (gC v = 8) → ∀ (H : Heap) (locs : List Loc), WB G (st S a v) s H locs → ∀ (ls : Array Slot), lv_has ls 6 [(0, .ref a), (1, .long x1), (3, .int x3), (4, .int x4)] → W p l e RM_X8_append s m args below meth c H locs 0 0 (QR G below args s none (st S a v0) (st S a z)) (F0 m 38 ls []) := by
  intro hc H locs hW ls hl
  have hx := hM.1
  have hb := hM.2.1
  refine lv_iconst (v := (1 : Int32)) hx hb dX8_append_38 (by decide) ?_
  refine lv_goto (tgt := 43) hx hb dX8_append_39 (by decide) ?_
  exact t_X8_append_43 (fu := fu) hM hml hr hlk hc0 hk3 hf hc _ _ hW _ (lv_sub hl [0, 1, 2, 3] rfl)
noncomputable def f_X8_append_3s (fu : Nat)  (k3 : Int32 → GV → Option (GV)) (x1 : Int64) (x3 : Int32) (v : GV) : Option (GV) :=
  if x3 < 0 then
    (some v)
  else
    (nm ((((x1.toUInt64 >>> (x3.toInt64.toUInt64 &&& Int64.toUInt64 63)).toInt64 &&& (255 : Int64))).toInt32) fun y2 =>
    if y2 = (10 : Int32) then
      (f_X8_append_38 fu k3 v x1 x3 y2)
    else
      (if y2 < (32 : Int32) then
        (f_X8_append_42 fu k3 v x1 x3 y2)
      else
        (if (126 : Int32) < y2 then
          (f_X8_append_42 fu k3 v x1 x3 y2)
        else
          (f_X8_append_38 fu k3 v x1 x3 y2))))
noncomputable def f_X8_append_3 (fu n : Nat)  (x1 : Int64) : Int32 → GV → Option (GV) :=
  lq_2 (fun k3 => f_X8_append_3s fu  k3   x1) n
set_option maxHeartbeats 4000000 in
set_option maxRecDepth 100000 in
theorem t_X8_append_3s {G : GG} {p : Program} {l : Launch} {e : Env} {s : State} {m : MethodId} {args : Array Value} {below : List Frame} {meth : Method} {c : Code} {S : ST} {fu : Nat} {z : GV} {a : Nat} {v0 : GV}  {k3 : Int32 → GV → Option (GV)} {x1 : Int64} (hM : MC G p s m args c cX8_append w_X8_append RX8) (hml : c.maxLocals = 6) (hr : meth.sig.returnType = none) (hlk : meth.locks = false) (hc0 : gC v0 = 8)  (hk3 : ∀ (x3 : Int32) (v : GV), k3 x3 v = some z → (gC v = 8) → ∀ (H : Heap) (locs : List Loc), WB G (st S a v) s H locs → ∀ (ls : Array Slot), lv_has ls 6 [(0, .ref a), (1, .long x1), (3, .int x3)] → W p l e RM_X8_append s m args below meth c H locs 0 0 (QR G below args s none (st S a v0) (st S a z)) (F0 m 3 ls [])) : ∀ (x3 : Int32) (v : GV), f_X8_append_3s fu  k3   x1 x3 v = some z → (gC v = 8) → ∀ (H : Heap) (locs : List Loc), WB G (st S a v) s H locs → ∀ (ls : Array Slot), lv_has ls 6 [(0, .ref a), (1, .long x1), (3, .int x3)] → W p l e RM_X8_append s m args below meth c H locs 0 0 (QR G below args s none (st S a v0) (st S a z)) (F0 m 3 ls []) := by
  intro x3 v hf hc H locs hW ls hl
  have hx := hM.1
  have hb := hM.2.1
  refine lv_iload_n hx hb dX8_append_3 rfl (lv_at hl 2 rfl) ?_
  refine lv_if_lt (tgt := 90) hx hb dX8_append_4 (by decide) (fun c1 => ?_) (fun c1 => ?_)
  · have hf := if_t c1 hf
    cases hf
    exact W.vret hx hb hr (b_ret0 hW (keep_s2 hc0 hc) _) hW.2.2.2 dX8_append_90 hlk
  · have hf := if_f c1 hf
    refine lv_lload_n hx hb dX8_append_7 rfl (lv_at hl 1 rfl) ?_
    refine lv_iload_n hx hb dX8_append_8 rfl (lv_at hl 2 rfl) ?_
    refine lv_lushr hx hb dX8_append_9 rfl ?_
    refine lv_ldc2 (v := (255 : Int64)) hx hb hM.2.2.1 (hM.2.2.2.1 _ (wgm kj_RX8_39)) dX8_append_10 ?_
    refine lv_land hx hb dX8_append_13 ?_
    refine lv_l2i hx hb dX8_append_14 rfl ?_
    refine lv_topi (fun y2 ey2 => ?_)
    have hf := nm_at ey2 hf
    refine lv_istore (lv' := [(4, .int y2), (0, .ref a), (1, .long x1), (3, .int x3)]) hx hb dX8_append_15 hl (by decide) rfl (fun ls hl => ?_)
    refine lv_iload hx hb dX8_append_17 (lv_at hl 0 rfl) ?_
    refine lv_bipush (v := (10 : Int32)) hx hb dX8_append_19 (by decide) ?_
    refine lv_icmp_eq (tgt := 38) hx hb dX8_append_21 (by decide) (fun c3 => ?_) (fun c3 => ?_)
    · have hf := if_t c3 hf
      exact t_X8_append_38 (fu := fu) hM hml hr hlk hc0 hk3 hf hc _ _ hW _ (lv_sub hl [1, 2, 3, 0] rfl)
    · have hf := if_f c3 hf
      refine lv_iload hx hb dX8_append_24 (lv_at hl 0 rfl) ?_
      refine lv_bipush (v := (32 : Int32)) hx hb dX8_append_26 (by decide) ?_
      refine lv_icmp_lt (tgt := 42) hx hb dX8_append_28 (by decide) (fun c4 => ?_) (fun c4 => ?_)
      · have hf := if_t c4 hf
        exact t_X8_append_42 (fu := fu) hM hml hr hlk hc0 hk3 hf hc _ _ hW _ (lv_sub hl [1, 2, 3, 0] rfl)
      · have hf := if_f c4 hf
        refine lv_iload hx hb dX8_append_31 (lv_at hl 0 rfl) ?_
        refine lv_bipush (v := (126 : Int32)) hx hb dX8_append_33 (by decide) ?_
        refine lv_icmp_gt (tgt := 42) hx hb dX8_append_35 (by decide) (fun c5 => ?_) (fun c5 => ?_)
        · have hf := if_t c5 hf
          exact t_X8_append_42 (fu := fu) hM hml hr hlk hc0 hk3 hf hc _ _ hW _ (lv_sub hl [1, 2, 3, 0] rfl)
        · have hf := if_f c5 hf
          exact t_X8_append_38 (fu := fu) hM hml hr hlk hc0 hk3 hf hc _ _ hW _ (lv_sub hl [1, 2, 3, 0] rfl)
theorem t_X8_append_3 {G : GG} {p : Program} {l : Launch} {e : Env} {s : State} {m : MethodId} {args : Array Value} {below : List Frame} {meth : Method} {c : Code} {S : ST} {fu : Nat} {z : GV} {a : Nat} {v0 : GV}  {x1 : Int64} (hM : MC G p s m args c cX8_append w_X8_append RX8) (hml : c.maxLocals = 6) (hr : meth.sig.returnType = none) (hlk : meth.locks = false) (hc0 : gC v0 = 8)  : ∀ {n : Nat} (x3 : Int32) (v : GV), f_X8_append_3 fu n    x1 x3 v = some z → (gC v = 8) → ∀ (H : Heap) (locs : List Loc), WB G (st S a v) s H locs → ∀ (ls : Array Slot), lv_has ls 6 [(0, .ref a), (1, .long x1), (3, .int x3)] → W p l e RM_X8_append s m args below meth c H locs 0 0 (QR G below args s none (st S a v0) (st S a z)) (F0 m 3 ls []) := by
  intro n
  induction n with
  | zero => intro x3 v hf; cases hf
  | succ n ih => intro x3 v hf; exact t_X8_append_3s (fu := fu) hM hml hr hlk hc0 (k3 := f_X8_append_3 fu n    x1) ih _ _ hf
noncomputable def f_X8_append_0 (fu : Nat)  (v : GV) (x1 : Int64) : Option (GV) :=
  f_X8_append_3 fu fu x1 (56 : Int32) v
set_option maxHeartbeats 4000000 in
set_option maxRecDepth 100000 in
theorem t_X8_append_0 {G : GG} {p : Program} {l : Launch} {e : Env} {s : State} {m : MethodId} {args : Array Value} {below : List Frame} {meth : Method} {c : Code} {S : ST} {fu : Nat} {z : GV} {a : Nat} {v0 : GV}  {v : GV} {x1 : Int64} (hM : MC G p s m args c cX8_append w_X8_append RX8) (hml : c.maxLocals = 6) (hr : meth.sig.returnType = none) (hlk : meth.locks = false) (hc0 : gC v0 = 8)  (hf : f_X8_append_0 fu  v  x1 = some z) : (gC v = 8) → ∀ (H : Heap) (locs : List Loc), WB G (st S a v) s H locs → ∀ (ls : Array Slot), lv_has ls 6 [(0, .ref a), (1, .long x1)] → W p l e RM_X8_append s m args below meth c H locs 0 0 (QR G below args s none (st S a v0) (st S a z)) (F0 m 0 ls []) := by
  intro hc H locs hW ls hl
  have hx := hM.1
  have hb := hM.2.1
  refine lv_bipush (v := (56 : Int32)) hx hb dX8_append_0 (by decide) ?_
  refine lv_istore_n (lv' := [(3, .int (56 : Int32)), (0, .ref a), (1, .long x1)]) hx hb dX8_append_2 rfl hl (by decide) rfl (fun ls hl => ?_)
  exact t_X8_append_3 (fu := fu) hM hml hr hlk hc0 _ _ hf hc _ _ hW _ (lv_sub hl [1, 2, 0] rfl)
noncomputable def f_X8_append (fu : Nat) (v : GV) (x1 : Int64) : Option (GV) := f_X8_append_0 fu v x1
set_option maxHeartbeats 4000000 in
set_option maxRecDepth 100000 in
theorem c_X8_append (l : Launch) (G : GG) (fu : Nat) (S : ST) (a : Nat) (v : GV) (x1 : Int64) {z : GV} (hc : gC v = 8) (hf : f_X8_append fu v x1 = some z) : Ct l yX8_append w_X8_append RM_X8_append G (st S a v) [.ref a, .long x1] none (st S a z) 0 0 := by
  refine Met.ofW (cc := cX8_append) (maxL := 6) (ret := none) (by decide) rfl ?_
  intro p e s m args below meth c s₁ B hml hv
  obtain ⟨rfl, hB, hK, hz⟩ := hv
  have hM : MC G p s m _ c cX8_append w_X8_append RX8 := ⟨B.exec, B.bytes, findClass_of_methodNamed B.named, atoms_spec (ws := w_X8_append) B.pre, hK, hz⟩
  have hW : WB G (st S a v) s s.heap [] := ⟨hB, va_S.rf⟩
  have hl := lv_entry ([.ref a, .long x1]) (n := 6) (Nat.le_of_ble_eq_true rfl)
  rw [lg_entry_eq]
  generalize (lg_sl ([.ref a, .long x1]) ++ List.replicate (6 - (lg_sl ([.ref a, .long x1])).length) Slot.unset).toArray = ls at hl ⊢
  have hl : lv_has ls 6 [(0, .ref a), (1, .long x1)] := hl
  exact t_X8_append_0 (fu := fu) hM hml B.returns B.notSynchronized hc hf hc _ _ hW _ (lv_sub hl [0, 1] rfl)
abbrev RM_X9_keep : Room := { frames := 1, cells := 0, slots := 0, locals := 60 }
abbrev w_X9_keep : List Cond := Cond.code yX9_keep cX9_keep 2 none :: wsL_law0
noncomputable def f_X9_keep_33 (fu : Nat)  (S : ST) (a : Nat) : Option (ST) :=
  nm (st S a (sI (S a) 5 ((gI (S a) 5) + (1 : Int32)))) fun S1 =>
  some S1
set_option maxHeartbeats 4000000 in
set_option maxRecDepth 100000 in
theorem t_X9_keep_33 {G : GG} {p : Program} {l : Launch} {e : Env} {s : State} {m : MethodId} {args : Array Value} {below : List Frame} {meth : Method} {c : Code} {S0 : ST} {fu : Nat} {z : ST} {a : Nat}  {S : ST} (hM : MC G p s m args c cX9_keep w_X9_keep RX9) (hml : c.maxLocals = 2) (hr : meth.sig.returnType = none) (hlk : meth.locks = false)   (hf : f_X9_keep_33 fu  S a  = some z) : (gC (S a) = 9) → (∀ b, gC (S0 b) ≠ 0 → gC (S b) = gC (S0 b)) → ∀ (H : Heap) (locs : List Loc), WB G S s H locs → ∀ (ls : Array Slot), lv_has ls 2 [(0, .ref a)] → W p l e RM_X9_keep s m args below meth c H locs 0 0 (QR G below args s none S0 z) (F0 m 33 ls []) := by
  intro ha hK0 H locs hW ls hl
  have hx := hM.1
  have hb := hM.2.1
  refine lv_aload_n hx hb dX9_keep_33 rfl (lv_at hl 0 rfl) ?_
  refine lv_dup hx hb dX9_keep_34 rfl ?_
  refine b_get hM (hW.at_ a) 8 5 ha rfl rfl (by decide) wi_X9 (wgm fk_RX9_28) (x := .int (gI (S a) 5)) rfl dX9_keep_35 ?_
  refine lv_iconst (v := (1 : Int32)) hx hb dX9_keep_38 (by decide) ?_
  refine lv_iadd hx hb dX9_keep_39 ?_
  refine s_putI hM hW 8 5 ha rfl rfl (by decide) wi_X9 tyX9 tyX9_ok nmX9 (wgm fk_RX9_28) rfl rfl rfl dX9_keep_40 (fun S1 eS1 hk H locs hW => ?_)
  have hf := nm_at eS1 hf
  have ha := keep1 hk ha
  have hK0 := keep_tr hK0 hk
  cases hf
  exact W.vret hx hb hr (b_ret0 hW hK0 _) hW.2.2.2 dX9_keep_43 hlk
noncomputable def f_X9_keep_0 (fu : Nat)  (S : ST) (a : Nat) (x1 : Int32) : Option (ST) :=
  if (gI (S a) 4) ≤ x1 then
    (f_X9_keep_33 fu S a)
  else
    (nm (st S a (sI (S a) 4 x1)) fun S2 =>
    nm (st S2 a (sI (S2 a) 5 (0 : Int32))) fun S3 =>
    nm (st S3 a (sAf (S3 a) 2 (va_cpy (gA (S3 a) 1) (gA (S3 a) 2) (0 : Int32).toNatClampNeg (0 : Int32).toNatClampNeg (6 : Int32).toNatClampNeg))) fun S4 =>
    f_X9_keep_33 fu S4 a)
set_option maxHeartbeats 4000000 in
set_option maxRecDepth 100000 in
theorem t_X9_keep_0 {G : GG} {p : Program} {l : Launch} {e : Env} {s : State} {m : MethodId} {args : Array Value} {below : List Frame} {meth : Method} {c : Code} {S0 : ST} {fu : Nat} {z : ST} {a : Nat}  {S : ST} {x1 : Int32} (hM : MC G p s m args c cX9_keep w_X9_keep RX9) (hml : c.maxLocals = 2) (hr : meth.sig.returnType = none) (hlk : meth.locks = false)   (hf : f_X9_keep_0 fu  S a x1 = some z) : (gC (S a) = 9) → (∀ b, gC (S0 b) ≠ 0 → gC (S b) = gC (S0 b)) → ∀ (H : Heap) (locs : List Loc), WB G S s H locs → ∀ (ls : Array Slot), lv_has ls 2 [(0, .ref a), (1, .int x1)] → W p l e RM_X9_keep s m args below meth c H locs 0 0 (QR G below args s none S0 z) (F0 m 0 ls []) := by
  intro ha hK0 H locs hW ls hl
  have hx := hM.1
  have hb := hM.2.1
  refine lv_iload_n hx hb dX9_keep_0 rfl (lv_at hl 1 rfl) ?_
  refine lv_aload_n hx hb dX9_keep_1 rfl (lv_at hl 0 rfl) ?_
  refine b_get hM (hW.at_ a) 8 4 ha rfl rfl (by decide) wi_X9 (wgm fk_RX9_25) (x := .int (gI (S a) 4)) rfl dX9_keep_2 ?_
  refine lv_icmp_ge (tgt := 33) hx hb dX9_keep_5 (by decide) (fun c1 => ?_) (fun c1 => ?_)
  · have hf := if_t c1 hf
    exact t_X9_keep_33 (fu := fu) hM hml hr hlk hf ha hK0 _ _ hW _ (lv_sub hl [0] rfl)
  · have hf := if_f c1 hf
    refine lv_aload_n hx hb dX9_keep_8 rfl (lv_at hl 0 rfl) ?_
    refine lv_iload_n hx hb dX9_keep_9 rfl (lv_at hl 1 rfl) ?_
    refine s_putI hM hW 8 4 ha rfl rfl (by decide) wi_X9 tyX9 tyX9_ok nmX9 (wgm fk_RX9_25) rfl rfl rfl dX9_keep_10 (fun S2 eS2 hk H locs hW => ?_)
    have hf := nm_at eS2 hf
    have ha := keep1 hk ha
    have hK0 := keep_tr hK0 hk
    refine lv_aload_n hx hb dX9_keep_13 rfl (lv_at hl 0 rfl) ?_
    refine lv_iconst (v := (0 : Int32)) hx hb dX9_keep_14 (by decide) ?_
    refine s_putI hM hW 8 5 ha rfl rfl (by decide) wi_X9 tyX9 tyX9_ok nmX9 (wgm fk_RX9_28) rfl rfl rfl dX9_keep_15 (fun S3 eS3 hk H locs hW => ?_)
    have hf := nm_at eS3 hf
    have ha := keep1 hk ha
    have hK0 := keep_tr hK0 hk
    refine lv_aload_n hx hb dX9_keep_18 rfl (lv_at hl 0 rfl) ?_
    refine b_get hM (hW.at_ a) 8 1 ha rfl rfl (by decide) wi_X9 (wgm fk_RX9_15) (x := .ref (a + 2)) rfl dX9_keep_19 ?_
    refine lv_iconst (v := (0 : Int32)) hx hb dX9_keep_22 (by decide) ?_
    refine lv_aload_n hx hb dX9_keep_23 rfl (lv_at hl 0 rfl) ?_
    refine b_get hM (hW.at_ a) 8 2 ha rfl rfl (by decide) wi_X9 (wgm fk_RX9_18) (x := .ref (a + 3)) rfl dX9_keep_24 ?_
    refine lv_iconst (v := (0 : Int32)) hx hb dX9_keep_27 (by decide) ?_
    refine lv_bipush (v := (6 : Int32)) hx hb dX9_keep_28 (by decide) ?_
    refine s_copy hM hml hl.1 hW mk_RX9_52 8 1 8 2 ha (by decide) rfl rfl ha (by decide) rfl rfl rfl rfl (by decide) (by decide) (by decide) (Nat.le_of_ble_eq_true rfl) (Nat.le_of_ble_eq_true rfl) (Nat.le_of_ble_eq_true rfl) (by decide) dX9_keep_30 (fun S4 eS4 hk H locs hW => ?_)
    have hf := nm_at eS4 hf
    have ha := keep1 hk ha
    have hK0 := keep_tr hK0 hk
    exact t_X9_keep_33 (fu := fu) hM hml hr hlk hf ha hK0 _ _ hW _ (lv_sub hl [0] rfl)
noncomputable def f_X9_keep (fu : Nat) (S : ST) (a : Nat) (x1 : Int32) : Option (ST) := f_X9_keep_0 fu S a x1
set_option maxHeartbeats 4000000 in
set_option maxRecDepth 100000 in
theorem c_X9_keep (l : Launch) (G : GG) (fu : Nat) (S : ST) (a : Nat) (x1 : Int32) {z : ST} (ha : gC (S a) = 9) (hf : f_X9_keep fu S a x1 = some z) : Ct l yX9_keep w_X9_keep RM_X9_keep G S [.ref a, .int x1] none z 0 0 := by
  refine Met.ofW (cc := cX9_keep) (maxL := 2) (ret := none) (by decide) rfl ?_
  intro p e s m args below meth c s₁ B hml hv
  obtain ⟨rfl, hB, hK, hz⟩ := hv
  have hM : MC G p s m _ c cX9_keep w_X9_keep RX9 := ⟨B.exec, B.bytes, findClass_of_methodNamed B.named, atoms_spec (ws := w_X9_keep) B.pre, hK, hz⟩
  have hW : WB G S s s.heap [] := ⟨hB, va_S.rf⟩
  have hl := lv_entry ([.ref a, .int x1]) (n := 2) (Nat.le_of_ble_eq_true rfl)
  rw [lg_entry_eq]
  generalize (lg_sl ([.ref a, .int x1]) ++ List.replicate (2 - (lg_sl ([.ref a, .int x1])).length) Slot.unset).toArray = ls at hl ⊢
  have hl : lv_has ls 2 [(0, .ref a), (1, .int x1)] := hl
  exact t_X9_keep_0 (fu := fu) hM hml B.returns B.notSynchronized hf ha (fun _ _ => rfl) _ _ hW _ (lv_sub hl [0, 1] rfl)
abbrev RM_X9_leadsBack : Room := { frames := 0, cells := 0, slots := 0, locals := 0 }
abbrev w_X9_leadsBack : List Cond := Cond.code yX9_leadsBack cX9_leadsBack 5 (some .boolean) :: wsL_law0
noncomputable def f_X9_leadsBack_34 (fu : Nat)  (v : GV) (x2 : Int32) (x3 : Int32) : Option (Int32) :=
  if x3 = x2 then
    (some ((1 : Int32)))
  else
    (some ((0 : Int32)))
set_option maxHeartbeats 4000000 in
set_option maxRecDepth 100000 in
theorem t_X9_leadsBack_34 {G : GG} {p : Program} {l : Launch} {e : Env} {s : State} {m : MethodId} {args : Array Value} {below : List Frame} {meth : Method} {c : Code} {S : ST} {fu : Nat} {z : Int32} {a : Nat} {v : GV}  {x2 : Int32} {x3 : Int32} (hM : MC G p s m args c cX9_leadsBack w_X9_leadsBack RX9) (hml : c.maxLocals = 5) (hr : meth.sig.returnType = (some .boolean)) (hlk : meth.locks = false) (hc0 : gC v = 9)  (hf : f_X9_leadsBack_34 fu  v  x2 x3 = some z) : ∀ (H : Heap) (locs : List Loc), WB G (st S a v) s H locs → ∀ (ls : Array Slot), lv_has ls 5 [(2, .int x2), (3, .int x3)] → W p l e RM_X9_leadsBack s m args below meth c H locs 0 0 (QR G below args s (some (.int z)) (st S a v) (st S a v)) (F0 m 34 ls []) := by
  intro  H locs hW ls hl
  have hx := hM.1
  have hb := hM.2.1
  have hc := hc0
  refine lv_iload_n hx hb dX9_leadsBack_34 rfl (lv_at hl 1 rfl) ?_
  refine lv_iload_n hx hb dX9_leadsBack_35 rfl (lv_at hl 0 rfl) ?_
  refine lv_icmp_ne (tgt := 43) hx hb dX9_leadsBack_36 (by decide) (fun c1 => ?_) (fun c1 => ?_)
  · have hf := if_f c1 hf
    refine lv_iconst (v := (0 : Int32)) hx hb dX9_leadsBack_43 (by decide) ?_
    cases hf
    exact W.zret (v := (0 : Int32)) hx hb hr (by decide) (b_ret0 hW (fun _ _ => rfl) _) hW.2.2.2 dX9_leadsBack_44 hlk
  · have hf := if_t c1 hf
    refine lv_iconst (v := (1 : Int32)) hx hb dX9_leadsBack_39 (by decide) ?_
    refine lv_goto (tgt := 44) hx hb dX9_leadsBack_40 (by decide) ?_
    cases hf
    exact W.zret (v := (1 : Int32)) hx hb hr (by decide) (b_ret0 hW (fun _ _ => rfl) _) hW.2.2.2 dX9_leadsBack_44 hlk
noncomputable def f_X9_leadsBack_5s (fu : Nat)  (k5 : Int32 → Int32 → Option (Int32)) (v : GV) (x2 : Int32) (x3 : Int32) (x4 : Int32) : Option (Int32) :=
  if (6 : Int32) ≤ x4 then
    (f_X9_leadsBack_34 fu v x2 x3)
  else
    (if x3 ≤ 0 then
      (f_X9_leadsBack_34 fu v x2 x3)
    else
      (if x2 ≤ x3 then
        (f_X9_leadsBack_34 fu v x2 x3)
      else
        (ck (inb x3 6) <|
        nm ((gA v 1 x3.toNatClampNeg)) fun y5 =>
        nm (x4 + (1 : Int32)) fun y6 =>
        k5 y5 y6)))
noncomputable def f_X9_leadsBack_5 (fu n : Nat)  (v : GV) (x2 : Int32) : Int32 → Int32 → Option (Int32) :=
  lq_2 (fun k5 => f_X9_leadsBack_5s fu  k5 v  x2) n
set_option maxHeartbeats 4000000 in
set_option maxRecDepth 100000 in
theorem t_X9_leadsBack_5s {G : GG} {p : Program} {l : Launch} {e : Env} {s : State} {m : MethodId} {args : Array Value} {below : List Frame} {meth : Method} {c : Code} {S : ST} {fu : Nat} {z : Int32} {a : Nat} {v : GV}  {k5 : Int32 → Int32 → Option (Int32)} {x2 : Int32} (hM : MC G p s m args c cX9_leadsBack w_X9_leadsBack RX9) (hml : c.maxLocals = 5) (hr : meth.sig.returnType = (some .boolean)) (hlk : meth.locks = false) (hc0 : gC v = 9)  (hk5 : ∀ (x3 : Int32) (x4 : Int32), k5 x3 x4 = some z → ∀ (H : Heap) (locs : List Loc), WB G (st S a v) s H locs → ∀ (ls : Array Slot), lv_has ls 5 [(0, .ref a), (2, .int x2), (3, .int x3), (4, .int x4)] → W p l e RM_X9_leadsBack s m args below meth c H locs 0 0 (QR G below args s (some (.int z)) (st S a v) (st S a v)) (F0 m 5 ls [])) : ∀ (x3 : Int32) (x4 : Int32), f_X9_leadsBack_5s fu  k5 v  x2 x3 x4 = some z → ∀ (H : Heap) (locs : List Loc), WB G (st S a v) s H locs → ∀ (ls : Array Slot), lv_has ls 5 [(0, .ref a), (2, .int x2), (3, .int x3), (4, .int x4)] → W p l e RM_X9_leadsBack s m args below meth c H locs 0 0 (QR G below args s (some (.int z)) (st S a v) (st S a v)) (F0 m 5 ls []) := by
  intro x3 x4 hf  H locs hW ls hl
  have hx := hM.1
  have hb := hM.2.1
  have hc := hc0
  refine lv_iload hx hb dX9_leadsBack_5 (lv_at hl 3 rfl) ?_
  refine lv_bipush (v := (6 : Int32)) hx hb dX9_leadsBack_7 (by decide) ?_
  refine lv_icmp_ge (tgt := 34) hx hb dX9_leadsBack_9 (by decide) (fun c1 => ?_) (fun c1 => ?_)
  · have hf := if_t c1 hf
    exact t_X9_leadsBack_34 (fu := fu) hM hml hr hlk hc0 hf _ _ hW _ (lv_sub hl [1, 2] rfl)
  · have hf := if_f c1 hf
    refine lv_iload_n hx hb dX9_leadsBack_12 rfl (lv_at hl 2 rfl) ?_
    refine lv_if_le (tgt := 34) hx hb dX9_leadsBack_13 (by decide) (fun c2 => ?_) (fun c2 => ?_)
    · have hf := if_t c2 hf
      exact t_X9_leadsBack_34 (fu := fu) hM hml hr hlk hc0 hf _ _ hW _ (lv_sub hl [1, 2] rfl)
    · have hf := if_f c2 hf
      refine lv_iload_n hx hb dX9_leadsBack_16 rfl (lv_at hl 2 rfl) ?_
      refine lv_iload_n hx hb dX9_leadsBack_17 rfl (lv_at hl 1 rfl) ?_
      refine lv_icmp_ge (tgt := 34) hx hb dX9_leadsBack_18 (by decide) (fun c3 => ?_) (fun c3 => ?_)
      · have hf := if_t c3 hf
        exact t_X9_leadsBack_34 (fu := fu) hM hml hr hlk hc0 hf _ _ hW _ (lv_sub hl [1, 2] rfl)
      · have hf := if_f c3 hf
        refine lv_aload_n hx hb dX9_leadsBack_21 rfl (lv_at hl 0 rfl) ?_
        refine b_get hM hW 8 1 hc rfl rfl (by decide) wi_X9 (wgm fk_RX9_15) (x := .ref (a + 2)) rfl dX9_leadsBack_22 ?_
        refine lv_iload_n hx hb dX9_leadsBack_25 rfl (lv_at hl 2 rfl) ?_
        obtain ⟨h4, hf⟩ := ck_elim hf
        refine b_iald (n := 6) hM hW 8 1 hc (by decide) rfl rfl rfl rfl h4 dX9_leadsBack_26 ?_
        refine lv_topi (fun y5 ey5 => ?_)
        have hf := nm_at ey5 hf
        refine lv_istore_n (lv' := [(3, .int y5), (0, .ref a), (2, .int x2), (4, .int x4)]) hx hb dX9_leadsBack_27 rfl hl (by decide) rfl (fun ls hl => ?_)
        obtain ⟨y6, ey6⟩ : ∃ y : Int32, y = x4 + (1 : Int32) := ⟨_, rfl⟩
        have hf := nm_at ey6 hf
        refine lv_iinc (v := y6) (lv' := [(4, .int y6), (3, .int y5), (0, .ref a), (2, .int x2)]) hx hb dX9_leadsBack_28 hl (k := 3) rfl (by rw [ey6]; rfl) (by decide) rfl (fun ls hl => ?_)
        refine lv_goto (tgt := 5) hx hb dX9_leadsBack_31 (by decide) ?_
        exact hk5 _ _ hf _ _ hW _ (lv_sub hl [2, 3, 1, 0] rfl)
theorem t_X9_leadsBack_5 {G : GG} {p : Program} {l : Launch} {e : Env} {s : State} {m : MethodId} {args : Array Value} {below : List Frame} {meth : Method} {c : Code} {S : ST} {fu : Nat} {z : Int32} {a : Nat} {v : GV}  {x2 : Int32} (hM : MC G p s m args c cX9_leadsBack w_X9_leadsBack RX9) (hml : c.maxLocals = 5) (hr : meth.sig.returnType = (some .boolean)) (hlk : meth.locks = false) (hc0 : gC v = 9)  : ∀ {n : Nat} (x3 : Int32) (x4 : Int32), f_X9_leadsBack_5 fu n  v  x2 x3 x4 = some z → ∀ (H : Heap) (locs : List Loc), WB G (st S a v) s H locs → ∀ (ls : Array Slot), lv_has ls 5 [(0, .ref a), (2, .int x2), (3, .int x3), (4, .int x4)] → W p l e RM_X9_leadsBack s m args below meth c H locs 0 0 (QR G below args s (some (.int z)) (st S a v) (st S a v)) (F0 m 5 ls []) := by
  intro n
  induction n with
  | zero => intro x3 x4 hf; cases hf
  | succ n ih => intro x3 x4 hf; exact t_X9_leadsBack_5s (fu := fu) hM hml hr hlk hc0 (k5 := f_X9_leadsBack_5 fu n  v  x2) ih _ _ hf
noncomputable def f_X9_leadsBack_0 (fu : Nat)  (v : GV) (x1 : Int32) (x2 : Int32) : Option (Int32) :=
  f_X9_leadsBack_5 fu fu v x2 x1 (0 : Int32)
set_option maxHeartbeats 4000000 in
set_option maxRecDepth 100000 in
theorem t_X9_leadsBack_0 {G : GG} {p : Program} {l : Launch} {e : Env} {s : State} {m : MethodId} {args : Array Value} {below : List Frame} {meth : Method} {c : Code} {S : ST} {fu : Nat} {z : Int32} {a : Nat} {v : GV}  {x1 : Int32} {x2 : Int32} (hM : MC G p s m args c cX9_leadsBack w_X9_leadsBack RX9) (hml : c.maxLocals = 5) (hr : meth.sig.returnType = (some .boolean)) (hlk : meth.locks = false) (hc0 : gC v = 9)  (hf : f_X9_leadsBack_0 fu  v  x1 x2 = some z) : ∀ (H : Heap) (locs : List Loc), WB G (st S a v) s H locs → ∀ (ls : Array Slot), lv_has ls 5 [(0, .ref a), (1, .int x1), (2, .int x2)] → W p l e RM_X9_leadsBack s m args below meth c H locs 0 0 (QR G below args s (some (.int z)) (st S a v) (st S a v)) (F0 m 0 ls []) := by
  intro  H locs hW ls hl
  have hx := hM.1
  have hb := hM.2.1
  have hc := hc0
  refine lv_iload_n hx hb dX9_leadsBack_0 rfl (lv_at hl 1 rfl) ?_
  refine lv_istore_n (lv' := [(3, .int x1), (0, .ref a), (1, .int x1), (2, .int x2)]) hx hb dX9_leadsBack_1 rfl hl (by decide) rfl (fun ls hl => ?_)
  refine lv_iconst (v := (0 : Int32)) hx hb dX9_leadsBack_2 (by decide) ?_
  refine lv_istore (lv' := [(4, .int (0 : Int32)), (3, .int x1), (0, .ref a), (1, .int x1), (2, .int x2)]) hx hb dX9_leadsBack_3 hl (by decide) rfl (fun ls hl => ?_)
  exact t_X9_leadsBack_5 (fu := fu) hM hml hr hlk hc0 _ _ hf _ _ hW _ (lv_sub hl [2, 4, 1, 0] rfl)
noncomputable def f_X9_leadsBack (fu : Nat) (v : GV) (x1 : Int32) (x2 : Int32) : Option (Int32) := f_X9_leadsBack_0 fu v x1 x2
set_option maxHeartbeats 4000000 in
set_option maxRecDepth 100000 in
theorem c_X9_leadsBack (l : Launch) (G : GG) (fu : Nat) (S : ST) (a : Nat) (v : GV) (x1 : Int32) (x2 : Int32) {z : Int32} (hc : gC v = 9) (hf : f_X9_leadsBack fu v x1 x2 = some z) : Ct l yX9_leadsBack w_X9_leadsBack RM_X9_leadsBack G (st S a v) [.ref a, .int x1, .int x2] (some (.int z)) (st S a v) 0 0 := by
  refine Met.ofW (cc := cX9_leadsBack) (maxL := 5) (ret := (some .boolean)) (by decide) rfl ?_
  intro p e s m args below meth c s₁ B hml hv
  obtain ⟨rfl, hB, hK, hz⟩ := hv
  have hM : MC G p s m _ c cX9_leadsBack w_X9_leadsBack RX9 := ⟨B.exec, B.bytes, findClass_of_methodNamed B.named, atoms_spec (ws := w_X9_leadsBack) B.pre, hK, hz⟩
  have hW : WB G (st S a v) s s.heap [] := ⟨hB, va_S.rf⟩
  have hl := lv_entry ([.ref a, .int x1, .int x2]) (n := 5) (Nat.le_of_ble_eq_true rfl)
  rw [lg_entry_eq]
  generalize (lg_sl ([.ref a, .int x1, .int x2]) ++ List.replicate (5 - (lg_sl ([.ref a, .int x1, .int x2])).length) Slot.unset).toArray = ls at hl ⊢
  have hl : lv_has ls 5 [(0, .ref a), (1, .int x1), (2, .int x2)] := hl
  exact t_X9_leadsBack_0 (fu := fu) hM hml B.returns B.notSynchronized hc hf _ _ hW _ (lv_sub hl [0, 1, 2] rfl)
abbrev RM_X9_join (d : Nat) : Room := { frames := 1 * d + 2, cells := 0, slots := 0, locals := 24 * d + 81 }
abbrev w_X9_join : List Cond := Cond.code yX9_join cX9_join 5 none :: wsL_law0
noncomputable def f_X9_join_86 (fu : Nat) (rec : ST → Nat → Nat → Int32 → Int32 → Option (ST)) (k32 : Int32 → ST → Option (ST)) (S : ST) (a : Nat) (g1 : Nat) (x2 : Int32) (x3 : Int32) (x4 : Int32) : Option (ST) :=
  nm (x4 + (1 : Int32)) fun y1 =>
  k32 y1 S
set_option maxHeartbeats 4000000 in
set_option maxRecDepth 100000 in
theorem t_X9_join_86 {G : GG} {p : Program} {l : Launch} {e : Env} {s : State} {m : MethodId} {args : Array Value} {below : List Frame} {meth : Method} {c : Code} {S0 : ST} {fu : Nat} {z : ST} {a : Nat} {g1 : Nat} {d : Nat} {rec : ST → Nat → Nat → Int32 → Int32 → Option (ST)} {k32 : Int32 → ST → Option (ST)} {S : ST} {x2 : Int32} {x3 : Int32} {x4 : Int32} (hM : MC G p s m args c cX9_join w_X9_join RX9) (hml : c.maxLocals = 5) (hr : meth.sig.returnType = none) (hlk : meth.locks = false) (hrec : ∀ (S : ST) (a : Nat) (g1 : Nat) (x2 : Int32) (x3 : Int32) (z : ST), gC (S a) = 9 → gC (S g1) = 3 → rec S a g1 x2 x3 = some z → Ct l yX9_join w_X9_join (RM_X9_join d) G S [.ref a, .ref g1, .int x2, .int x3] none z 0 0) (hk32 : ∀ (x4 : Int32) (S : ST), k32 x4 S = some z → (gC (S a) = 9) → (gC (S g1) = 3) → (∀ b, gC (S0 b) ≠ 0 → gC (S b) = gC (S0 b)) → ∀ (H : Heap) (locs : List Loc), WB G S s H locs → ∀ (ls : Array Slot), lv_has ls 5 [(0, .ref a), (1, .ref g1), (2, .int x2), (3, .int x3), (4, .int x4)] → W p l e (RM_X9_join (d + 1)) s m args below meth c H locs 0 0 (QR G below args s none S0 z) (F0 m 32 ls [])) (hf : f_X9_join_86 fu rec k32 S a g1 x2 x3 x4 = some z) : (gC (S a) = 9) → (gC (S g1) = 3) → (∀ b, gC (S0 b) ≠ 0 → gC (S b) = gC (S0 b)) → ∀ (H : Heap) (locs : List Loc), WB G S s H locs → ∀ (ls : Array Slot), lv_has ls 5 [(0, .ref a), (1, .ref g1), (2, .int x2), (3, .int x3), (4, .int x4)] → W p l e (RM_X9_join (d + 1)) s m args below meth c H locs 0 0 (QR G below args s none S0 z) (F0 m 86 ls []) := by
  intro ha hg1 hK0 H locs hW ls hl
  have hx := hM.1
  have hb := hM.2.1
  obtain ⟨y1, ey1⟩ : ∃ y : Int32, y = x4 + (1 : Int32) := ⟨_, rfl⟩
  have hf := nm_at ey1 hf
  refine lv_iinc (v := y1) (lv' := [(4, .int y1), (0, .ref a), (1, .ref g1), (2, .int x2), (3, .int x3)]) hx hb dX9_join_86 hl (k := 4) rfl (by rw [ey1]; rfl) (by decide) rfl (fun ls hl => ?_)
  refine lv_goto (tgt := 32) hx hb dX9_join_89 (by decide) ?_
  exact hk32 _ _ hf ha hg1 hK0 _ _ hW _ (lv_sub hl [1, 2, 3, 4, 0] rfl)
noncomputable def f_X9_join_32s (fu : Nat) (rec : ST → Nat → Nat → Int32 → Int32 → Option (ST))  (k32 : Int32 → ST → Option (ST)) (a : Nat) (g1 : Nat) (x2 : Int32) (x3 : Int32) (x4 : Int32) (S : ST) : Option (ST) :=
  if (gI (S a) 3) ≤ x4 then
    (some S)
  else
    (bd (f_X9_leadsBack fu (S a) x4 x2) fun r2 =>
    if r2 = 0 then
      (ck (inb x2 6) <|
      nm (st S a (sA (S a) 1 x2.toNatClampNeg x4)) fun S5 =>
      ck (inb x2 6) <|
      ck (inb x4 6) <|
      bd (f_X3_apart fu (S5 g1) (gA (S5 a) 0 x2.toNatClampNeg) (gA (S5 a) 0 x4.toNatClampNeg)) fun r8 =>
      bd (rec S5 a g1 (x2 + (1 : Int32)) (x3 + r8)) fun S10 =>
      f_X9_join_86 fu rec k32 S10 a g1 x2 x3 x4)
    else
      (f_X9_join_86 fu rec k32 S a g1 x2 x3 x4))
noncomputable def f_X9_join_32 (fu n : Nat) (rec : ST → Nat → Nat → Int32 → Int32 → Option (ST))  (a : Nat) (g1 : Nat) (x2 : Int32) (x3 : Int32) : Int32 → ST → Option (ST) :=
  lq_2 (fun k32 => f_X9_join_32s fu rec  k32  a g1 x2 x3) n
set_option maxHeartbeats 4000000 in
set_option maxRecDepth 100000 in
theorem t_X9_join_32s {G : GG} {p : Program} {l : Launch} {e : Env} {s : State} {m : MethodId} {args : Array Value} {below : List Frame} {meth : Method} {c : Code} {S0 : ST} {fu : Nat} {z : ST} {a : Nat} {g1 : Nat} {d : Nat} {rec : ST → Nat → Nat → Int32 → Int32 → Option (ST)}  {k32 : Int32 → ST → Option (ST)} {x2 : Int32} {x3 : Int32} (hM : MC G p s m args c cX9_join w_X9_join RX9) (hml : c.maxLocals = 5) (hr : meth.sig.returnType = none) (hlk : meth.locks = false) (hrec : ∀ (S : ST) (a : Nat) (g1 : Nat) (x2 : Int32) (x3 : Int32) (z : ST), gC (S a) = 9 → gC (S g1) = 3 → rec S a g1 x2 x3 = some z → Ct l yX9_join w_X9_join (RM_X9_join d) G S [.ref a, .ref g1, .int x2, .int x3] none z 0 0)  (hk32 : ∀ (x4 : Int32) (S : ST), k32 x4 S = some z → (gC (S a) = 9) → (gC (S g1) = 3) → (∀ b, gC (S0 b) ≠ 0 → gC (S b) = gC (S0 b)) → ∀ (H : Heap) (locs : List Loc), WB G S s H locs → ∀ (ls : Array Slot), lv_has ls 5 [(0, .ref a), (1, .ref g1), (2, .int x2), (3, .int x3), (4, .int x4)] → W p l e (RM_X9_join (d + 1)) s m args below meth c H locs 0 0 (QR G below args s none S0 z) (F0 m 32 ls [])) : ∀ (x4 : Int32) (S : ST), f_X9_join_32s fu rec  k32  a g1 x2 x3 x4 S = some z → (gC (S a) = 9) → (gC (S g1) = 3) → (∀ b, gC (S0 b) ≠ 0 → gC (S b) = gC (S0 b)) → ∀ (H : Heap) (locs : List Loc), WB G S s H locs → ∀ (ls : Array Slot), lv_has ls 5 [(0, .ref a), (1, .ref g1), (2, .int x2), (3, .int x3), (4, .int x4)] → W p l e (RM_X9_join (d + 1)) s m args below meth c H locs 0 0 (QR G below args s none S0 z) (F0 m 32 ls []) := by
  intro x4 S hf ha hg1 hK0 H locs hW ls hl
  have hx := hM.1
  have hb := hM.2.1
  refine lv_iload hx hb dX9_join_32 (lv_at hl 4 rfl) ?_
  refine lv_aload_n hx hb dX9_join_34 rfl (lv_at hl 0 rfl) ?_
  refine b_get hM (hW.at_ a) 8 3 ha rfl rfl (by decide) wi_X9 (wgm fk_RX9_21) (x := .int (gI (S a) 3)) rfl dX9_join_35 ?_
  refine lv_icmp_ge (tgt := 92) hx hb dX9_join_38 (by decide) (fun c1 => ?_) (fun c1 => ?_)
  · have hf := if_t c1 hf
    cases hf
    exact W.vret hx hb hr (b_ret0 hW hK0 _) hW.2.2.2 dX9_join_92 hlk
  · have hf := if_f c1 hf
    refine lv_aload_n hx hb dX9_join_41 rfl (lv_at hl 0 rfl) ?_
    refine lv_iload hx hb dX9_join_42 (lv_at hl 4 rfl) ?_
    refine lv_iload_n hx hb dX9_join_44 rfl (lv_at hl 2 rfl) ?_
    obtain ⟨r2, hr2, hf⟩ := bd_elim hf
    refine s_callVi [.int x4, .int x2] [] hM hml hl.1 hW ha rfl (by decide) (Ct_rd (c_X9_leadsBack l G fu _ a (S a) _ _ ha hr2)) (cwV 2 hM.2.2.2.1 (gV mk_RX9_44 im_X9_leadsBack se_X9_leadsBack it_RX9 cd_X9_leadsBack) rfl rfl rfl (by decide +kernel) ⟨by show 0 + 1 ≤ 1 * (d + 1) + 2; omega, by show 8 + (5 + 11) + 0 ≤ 24 * (d + 1) + 81; omega⟩) rfl rfl (Nat.le_of_ble_eq_true rfl) ⟨Nat.zero_le _, Nat.zero_le _⟩ dX9_join_45 (fun H locs hW hk => ?_)
    refine lv_if_ne (tgt := 86) hx hb dX9_join_48 (by decide) (fun c3 => ?_) (fun c3 => ?_)
    · have hf := if_f c3 hf
      exact t_X9_join_86 (fu := fu) hM hml hr hlk hrec hk32 hf ha hg1 hK0 _ _ hW _ (lv_sub hl [0, 1, 2, 3, 4] rfl)
    · have hf := if_t c3 hf
      refine lv_aload_n hx hb dX9_join_51 rfl (lv_at hl 0 rfl) ?_
      refine b_get hM (hW.at_ a) 8 1 ha rfl rfl (by decide) wi_X9 (wgm fk_RX9_15) (x := .ref (a + 2)) rfl dX9_join_52 ?_
      refine lv_iload_n hx hb dX9_join_55 rfl (lv_at hl 2 rfl) ?_
      refine lv_iload hx hb dX9_join_56 (lv_at hl 4 rfl) ?_
      obtain ⟨h4, hf⟩ := ck_elim hf
      refine s_iast (n := 6) hM hW 8 1 ha (by decide) rfl rfl rfl rfl h4 dX9_join_58 (fun S5 eS5 hk H locs hW => ?_)
      have hf := nm_at eS5 hf
      have ha := keep1 hk ha
      have hg1 := keep1 hk hg1
      have hK0 := keep_tr hK0 hk
      refine lv_aload_n hx hb dX9_join_59 rfl (lv_at hl 0 rfl) ?_
      refine lv_aload_n hx hb dX9_join_60 rfl (lv_at hl 1 rfl) ?_
      refine lv_iload_n hx hb dX9_join_61 rfl (lv_at hl 2 rfl) ?_
      refine lv_iconst (v := (1 : Int32)) hx hb dX9_join_62 (by decide) ?_
      refine lv_iadd hx hb dX9_join_63 ?_
      refine lv_iload_n hx hb dX9_join_64 rfl (lv_at hl 3 rfl) ?_
      refine lv_aload_n hx hb dX9_join_65 rfl (lv_at hl 1 rfl) ?_
      refine lv_aload_n hx hb dX9_join_66 rfl (lv_at hl 0 rfl) ?_
      refine b_get hM (hW.at_ a) 8 0 ha rfl rfl (by decide) wi_X9 (wgm fk_RX9_11) (x := .ref (a + 1)) rfl dX9_join_67 ?_
      refine lv_iload_n hx hb dX9_join_70 rfl (lv_at hl 2 rfl) ?_
      obtain ⟨h6, hf⟩ := ck_elim hf
      refine b_iald (n := 6) hM (hW.at_ a) 8 0 ha (by decide) rfl rfl rfl rfl h6 dX9_join_71 ?_
      refine lv_aload_n hx hb dX9_join_72 rfl (lv_at hl 0 rfl) ?_
      refine b_get hM (hW.at_ a) 8 0 ha rfl rfl (by decide) wi_X9 (wgm fk_RX9_11) (x := .ref (a + 1)) rfl dX9_join_73 ?_
      refine lv_iload hx hb dX9_join_76 (lv_at hl 4 rfl) ?_
      obtain ⟨h7, hf⟩ := ck_elim hf
      refine b_iald (n := 6) hM (hW.at_ a) 8 0 ha (by decide) rfl rfl rfl rfl h7 dX9_join_78 ?_
      obtain ⟨r8, hr8, hf⟩ := bd_elim hf
      refine s_callVi [.int (gA (S5 a) 0 x2.toNatClampNeg), .int (gA (S5 a) 0 x4.toNatClampNeg)] [.int x3, .int (x2 + (1 : Int32)), .ref g1, .ref a] hM hml hl.1 hW hg1 rfl (by decide) (Ct_rd (c_X3_apart l G fu _ g1 (S5 g1) _ _ hg1 hr8)) (cwV 2 hM.2.2.2.1 (gV mk_RX9_48 im_X3_apart se_X3_apart it_RX3 cd_X3_apart) rfl rfl rfl (by decide +kernel) ⟨by show 1 + 1 ≤ 1 * (d + 1) + 2; omega, by show 8 + (3 + 11) + 20 ≤ 24 * (d + 1) + 81; omega⟩) rfl rfl (Nat.le_of_ble_eq_true rfl) ⟨Nat.zero_le _, Nat.zero_le _⟩ dX9_join_79 (fun H locs hW hk => ?_)
      refine lv_iadd hx hb dX9_join_82 ?_
      obtain ⟨S10, hr9, hf⟩ := bd_elim hf
      refine s_callVv [.ref g1, .int (x2 + (1 : Int32)), .int (x3 + r8)] [] hM hml hl.1 hW ha rfl (by decide) (hrec _ a _ _ _ _ ha hg1 hr9) (cwV 3 hM.2.2.2.1 (gV mk_RX9_36 im_X9_join se_X9_join it_RX9 cd_X9_join) rfl rfl rfl (by decide +kernel) ⟨by show (1 * d + 2) + 1 ≤ 1 * (d + 1) + 2; omega, by show 8 + (5 + 11) + (24 * d + 81) ≤ 24 * (d + 1) + 81; omega⟩) rfl rfl (Nat.le_of_ble_eq_true rfl) ⟨Nat.zero_le _, Nat.zero_le _⟩ dX9_join_83 (fun H locs hW hk => ?_)
      have ha := keep1 hk ha
      have hg1 := keep1 hk hg1
      have hK0 := keep_tr hK0 hk
      exact t_X9_join_86 (fu := fu) hM hml hr hlk hrec hk32 hf ha hg1 hK0 _ _ hW _ (lv_sub hl [0, 1, 2, 3, 4] rfl)
theorem t_X9_join_32 {G : GG} {p : Program} {l : Launch} {e : Env} {s : State} {m : MethodId} {args : Array Value} {below : List Frame} {meth : Method} {c : Code} {S0 : ST} {fu : Nat} {z : ST} {a : Nat} {g1 : Nat} {d : Nat} {rec : ST → Nat → Nat → Int32 → Int32 → Option (ST)}  {x2 : Int32} {x3 : Int32} (hM : MC G p s m args c cX9_join w_X9_join RX9) (hml : c.maxLocals = 5) (hr : meth.sig.returnType = none) (hlk : meth.locks = false) (hrec : ∀ (S : ST) (a : Nat) (g1 : Nat) (x2 : Int32) (x3 : Int32) (z : ST), gC (S a) = 9 → gC (S g1) = 3 → rec S a g1 x2 x3 = some z → Ct l yX9_join w_X9_join (RM_X9_join d) G S [.ref a, .ref g1, .int x2, .int x3] none z 0 0)  : ∀ {n : Nat} (x4 : Int32) (S : ST), f_X9_join_32 fu n rec   a g1 x2 x3 x4 S = some z → (gC (S a) = 9) → (gC (S g1) = 3) → (∀ b, gC (S0 b) ≠ 0 → gC (S b) = gC (S0 b)) → ∀ (H : Heap) (locs : List Loc), WB G S s H locs → ∀ (ls : Array Slot), lv_has ls 5 [(0, .ref a), (1, .ref g1), (2, .int x2), (3, .int x3), (4, .int x4)] → W p l e (RM_X9_join (d + 1)) s m args below meth c H locs 0 0 (QR G below args s none S0 z) (F0 m 32 ls []) := by
  intro n
  induction n with
  | zero => intro x4 S hf; cases hf
  | succ n ih => intro x4 S hf; exact t_X9_join_32s (fu := fu) hM hml hr hlk hrec (k32 := f_X9_join_32 fu n rec   a g1 x2 x3) ih _ _ hf
noncomputable def f_X9_join_23 (fu : Nat) (rec : ST → Nat → Nat → Int32 → Int32 → Option (ST))  (S : ST) (a : Nat) (g1 : Nat) (x3 : Int32) : Option (ST) :=
  bd (f_X9_keep fu S a x3) fun S2 =>
  some S2
set_option maxHeartbeats 4000000 in
set_option maxRecDepth 100000 in
theorem t_X9_join_23 {G : GG} {p : Program} {l : Launch} {e : Env} {s : State} {m : MethodId} {args : Array Value} {below : List Frame} {meth : Method} {c : Code} {S0 : ST} {fu : Nat} {z : ST} {a : Nat} {g1 : Nat} {d : Nat} {rec : ST → Nat → Nat → Int32 → Int32 → Option (ST)}  {S : ST} {x3 : Int32} (hM : MC G p s m args c cX9_join w_X9_join RX9) (hml : c.maxLocals = 5) (hr : meth.sig.returnType = none) (hlk : meth.locks = false) (hrec : ∀ (S : ST) (a : Nat) (g1 : Nat) (x2 : Int32) (x3 : Int32) (z : ST), gC (S a) = 9 → gC (S g1) = 3 → rec S a g1 x2 x3 = some z → Ct l yX9_join w_X9_join (RM_X9_join d) G S [.ref a, .ref g1, .int x2, .int x3] none z 0 0)  (hf : f_X9_join_23 fu rec  S a g1 x3 = some z) : (gC (S a) = 9) → (gC (S g1) = 3) → (∀ b, gC (S0 b) ≠ 0 → gC (S b) = gC (S0 b)) → ∀ (H : Heap) (locs : List Loc), WB G S s H locs → ∀ (ls : Array Slot), lv_has ls 5 [(0, .ref a), (3, .int x3)] → W p l e (RM_X9_join (d + 1)) s m args below meth c H locs 0 0 (QR G below args s none S0 z) (F0 m 23 ls []) := by
  intro ha hg1 hK0 H locs hW ls hl
  have hx := hM.1
  have hb := hM.2.1
  refine lv_aload_n hx hb dX9_join_23 rfl (lv_at hl 0 rfl) ?_
  refine lv_iload_n hx hb dX9_join_24 rfl (lv_at hl 1 rfl) ?_
  obtain ⟨S2, hr1, hf⟩ := bd_elim hf
  refine s_callVv [.int x3] [] hM hml hl.1 hW ha rfl (by decide) (c_X9_keep l G fu _ a _ ha hr1) (cwV 1 hM.2.2.2.1 (gV mk_RX9_40 im_X9_keep se_X9_keep it_RX9 cd_X9_keep) rfl rfl rfl (by decide +kernel) ⟨by show 1 + 1 ≤ 1 * (d + 1) + 2; omega, by show 8 + (2 + 11) + 60 ≤ 24 * (d + 1) + 81; omega⟩) rfl rfl (Nat.le_of_ble_eq_true rfl) ⟨Nat.zero_le _, Nat.zero_le _⟩ dX9_join_25 (fun H locs hW hk => ?_)
  have ha := keep1 hk ha
  have hg1 := keep1 hk hg1
  have hK0 := keep_tr hK0 hk
  cases hf
  exact W.vret hx hb hr (b_ret0 hW hK0 _) hW.2.2.2 dX9_join_28 hlk
noncomputable def f_X9_join_0 (fu : Nat) (rec : ST → Nat → Nat → Int32 → Int32 → Option (ST))  (S : ST) (a : Nat) (g1 : Nat) (x2 : Int32) (x3 : Int32) : Option (ST) :=
  if x3 ≤ (gI (S a) 4) then
    (if (gI (S a) 3) ≤ x2 then
      (f_X9_join_23 fu rec S a g1 x3)
    else
      (if x2 < (6 : Int32) then
        (f_X9_join_32 fu fu rec a g1 x2 x3 (0 : Int32) S)
      else
        (f_X9_join_23 fu rec S a g1 x3)))
  else
    (some S)
set_option maxHeartbeats 4000000 in
set_option maxRecDepth 100000 in
theorem t_X9_join_0 {G : GG} {p : Program} {l : Launch} {e : Env} {s : State} {m : MethodId} {args : Array Value} {below : List Frame} {meth : Method} {c : Code} {S0 : ST} {fu : Nat} {z : ST} {a : Nat} {g1 : Nat} {d : Nat} {rec : ST → Nat → Nat → Int32 → Int32 → Option (ST)}  {S : ST} {x2 : Int32} {x3 : Int32} (hM : MC G p s m args c cX9_join w_X9_join RX9) (hml : c.maxLocals = 5) (hr : meth.sig.returnType = none) (hlk : meth.locks = false) (hrec : ∀ (S : ST) (a : Nat) (g1 : Nat) (x2 : Int32) (x3 : Int32) (z : ST), gC (S a) = 9 → gC (S g1) = 3 → rec S a g1 x2 x3 = some z → Ct l yX9_join w_X9_join (RM_X9_join d) G S [.ref a, .ref g1, .int x2, .int x3] none z 0 0)  (hf : f_X9_join_0 fu rec  S a g1 x2 x3 = some z) : (gC (S a) = 9) → (gC (S g1) = 3) → (∀ b, gC (S0 b) ≠ 0 → gC (S b) = gC (S0 b)) → ∀ (H : Heap) (locs : List Loc), WB G S s H locs → ∀ (ls : Array Slot), lv_has ls 5 [(0, .ref a), (1, .ref g1), (2, .int x2), (3, .int x3)] → W p l e (RM_X9_join (d + 1)) s m args below meth c H locs 0 0 (QR G below args s none S0 z) (F0 m 0 ls []) := by
  intro ha hg1 hK0 H locs hW ls hl
  have hx := hM.1
  have hb := hM.2.1
  refine lv_iload_n hx hb dX9_join_0 rfl (lv_at hl 3 rfl) ?_
  refine lv_aload_n hx hb dX9_join_1 rfl (lv_at hl 0 rfl) ?_
  refine b_get hM (hW.at_ a) 8 4 ha rfl rfl (by decide) wi_X9 (wgm fk_RX9_25) (x := .int (gI (S a) 4)) rfl dX9_join_2 ?_
  refine lv_icmp_le (tgt := 9) hx hb dX9_join_5 (by decide) (fun c1 => ?_) (fun c1 => ?_)
  · have hf := if_t c1 hf
    refine lv_iload_n hx hb dX9_join_9 rfl (lv_at hl 2 rfl) ?_
    refine lv_aload_n hx hb dX9_join_10 rfl (lv_at hl 0 rfl) ?_
    refine b_get hM (hW.at_ a) 8 3 ha rfl rfl (by decide) wi_X9 (wgm fk_RX9_21) (x := .int (gI (S a) 3)) rfl dX9_join_11 ?_
    refine lv_icmp_ge (tgt := 23) hx hb dX9_join_14 (by decide) (fun c2 => ?_) (fun c2 => ?_)
    · have hf := if_t c2 hf
      exact t_X9_join_23 (fu := fu) hM hml hr hlk hrec hf ha hg1 hK0 _ _ hW _ (lv_sub hl [0, 3] rfl)
    · have hf := if_f c2 hf
      refine lv_iload_n hx hb dX9_join_17 rfl (lv_at hl 2 rfl) ?_
      refine lv_bipush (v := (6 : Int32)) hx hb dX9_join_18 (by decide) ?_
      refine lv_icmp_lt (tgt := 29) hx hb dX9_join_20 (by decide) (fun c3 => ?_) (fun c3 => ?_)
      · have hf := if_t c3 hf
        refine lv_iconst (v := (0 : Int32)) hx hb dX9_join_29 (by decide) ?_
        refine lv_istore (lv' := [(4, .int (0 : Int32)), (0, .ref a), (1, .ref g1), (2, .int x2), (3, .int x3)]) hx hb dX9_join_30 hl (by decide) rfl (fun ls hl => ?_)
        exact t_X9_join_32 (fu := fu) hM hml hr hlk hrec _ _ hf ha hg1 hK0 _ _ hW _ (lv_sub hl [1, 2, 3, 4, 0] rfl)
      · have hf := if_f c3 hf
        exact t_X9_join_23 (fu := fu) hM hml hr hlk hrec hf ha hg1 hK0 _ _ hW _ (lv_sub hl [0, 3] rfl)
  · have hf := if_f c1 hf
    cases hf
    exact W.vret hx hb hr (b_ret0 hW hK0 _) hW.2.2.2 dX9_join_8 hlk
noncomputable def f_X9_join (fu : Nat) (rec : ST → Nat → Nat → Int32 → Int32 → Option (ST)) (S : ST) (a : Nat) (g1 : Nat) (x2 : Int32) (x3 : Int32) : Option (ST) := f_X9_join_0 fu rec S a g1 x2 x3
set_option maxHeartbeats 4000000 in
set_option maxRecDepth 100000 in
theorem c_X9_join (l : Launch) (G : GG) (fu : Nat) {d : Nat} {rec : ST → Nat → Nat → Int32 → Int32 → Option (ST)} (hrec : ∀ (S : ST) (a : Nat) (g1 : Nat) (x2 : Int32) (x3 : Int32) (z : ST), gC (S a) = 9 → gC (S g1) = 3 → rec S a g1 x2 x3 = some z → Ct l yX9_join w_X9_join (RM_X9_join d) G S [.ref a, .ref g1, .int x2, .int x3] none z 0 0) (S : ST) (a : Nat) (g1 : Nat) (x2 : Int32) (x3 : Int32) {z : ST} (ha : gC (S a) = 9) (hg1 : gC (S g1) = 3) (hf : f_X9_join fu rec S a g1 x2 x3 = some z) : Ct l yX9_join w_X9_join (RM_X9_join (d + 1)) G S [.ref a, .ref g1, .int x2, .int x3] none z 0 0 := by
  refine Met.ofW (cc := cX9_join) (maxL := 5) (ret := none) (by decide) rfl ?_
  intro p e s m args below meth c s₁ B hml hv
  obtain ⟨rfl, hB, hK, hz⟩ := hv
  have hM : MC G p s m _ c cX9_join w_X9_join RX9 := ⟨B.exec, B.bytes, findClass_of_methodNamed B.named, atoms_spec (ws := w_X9_join) B.pre, hK, hz⟩
  have hW : WB G S s s.heap [] := ⟨hB, va_S.rf⟩
  have hl := lv_entry ([.ref a, .ref g1, .int x2, .int x3]) (n := 5) (Nat.le_of_ble_eq_true rfl)
  rw [lg_entry_eq]
  generalize (lg_sl ([.ref a, .ref g1, .int x2, .int x3]) ++ List.replicate (5 - (lg_sl ([.ref a, .ref g1, .int x2, .int x3])).length) Slot.unset).toArray = ls at hl ⊢
  have hl : lv_has ls 5 [(0, .ref a), (1, .ref g1), (2, .int x2), (3, .int x3)] := hl
  exact t_X9_join_0 (fu := fu) hM hml B.returns B.notSynchronized hrec hf ha hg1 (fun _ _ => rfl) _ _ hW _ (lv_sub hl [0, 1, 2, 3] rfl)
noncomputable def f_X9_joinD (fu d : Nat) : ST → Nat → Nat → Int32 → Int32 → Option (ST) := Nat.rec (fun _ _ _ _ _ => none) (fun _ ih => f_X9_join fu ih) d
theorem c_X9_joinD (l : Launch) (G : GG) (fu d : Nat) : ∀ (S : ST) (a : Nat) (g1 : Nat) (x2 : Int32) (x3 : Int32) (z : ST), gC (S a) = 9 → gC (S g1) = 3 → f_X9_joinD fu d S a g1 x2 x3 = some z → Ct l yX9_join w_X9_join (RM_X9_join d) G S [.ref a, .ref g1, .int x2, .int x3] none z 0 0 := by
  induction d with
  | zero => intro S _ _ _ _ _ h90 h91 hf; cases hf
  | succ d ih => intro S _ _ _ _ _ h90 h91 hf; exact c_X9_join l G fu ih S _ _ _ _ h90 h91 hf
