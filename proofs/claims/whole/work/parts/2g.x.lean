abbrev RM_X8_scanWord : Room := { frames := 1, cells := 0, slots := 0, locals := 24 }
abbrev w_X8_scanWord : List Cond := Cond.code yX8_scanWord cX8_scanWord 6 (some .int) :: wsL_law0
noncomputable def f_X8_scanWord_78 (fu : Nat)  (v : GV) (x1 : Int32) (x2 : Int64) (x4 : Int32) (t1 : Int32) : Option (Int32 × GV) :=
  bd (f_X8_addToken fu v t1 x1 x2) fun v2 =>
  some (x4, v2)
set_option maxHeartbeats 4000000 in
set_option maxRecDepth 100000 in
theorem t_X8_scanWord_78 {G : GG} {p : Program} {l : Launch} {e : Env} {s : State} {m : MethodId} {args : Array Value} {below : List Frame} {meth : Method} {c : Code} {S : ST} {fu : Nat} {z : Int32 × GV} {a : Nat} {v0 : GV}  {v : GV} {x1 : Int32} {x2 : Int64} {x4 : Int32} {t1 : Int32} (hM : MC G p s m args c cX8_scanWord w_X8_scanWord RX8) (hml : c.maxLocals = 6) (hr : meth.sig.returnType = (some .int)) (hlk : meth.locks = false) (hc0 : gC v0 = 8)  (hf : f_X8_scanWord_78 fu  v  x1 x2 x4 t1 = some z) : (gC v = 8) → ∀ (H : Heap) (locs : List Loc), WB G (st S a v) s H locs → ∀ (ls : Array Slot), lv_has ls 6 [(1, .int x1), (2, .long x2), (4, .int x4)] → W p l e RM_X8_scanWord s m args below meth c H locs 0 0 (QR G below args s (some (.int z.1)) (st S a v0) (st S a z.2)) (F0 m 78 ls [.int t1, .ref a]) := by
  intro hc H locs hW ls hl
  have hx := hM.1
  have hb := hM.2.1
  refine lv_iload_n hx hb dX8_scanWord_78 rfl (lv_at hl 0 rfl) ?_
  refine lv_lload_n hx hb dX8_scanWord_79 rfl (lv_at hl 1 rfl) ?_
  obtain ⟨v2, hr1, hf⟩ := bd_elim hf
  refine b_callVv [.int t1, .int x1, .long x2] [] hM hml hl.1 hW hc rfl (by decide) (c_X8_addToken l G fu _ a v _ _ _ hc hr1) (cwV 3 hM.2.2.2.1 (gV mk_RX8_49 im_X8_addToken se_X8_addToken it_RX8 cd_X8_addToken) rfl rfl rfl (by decide +kernel) ⟨Nat.le_of_ble_eq_true rfl, Nat.le_of_ble_eq_true rfl⟩) rfl rfl (Nat.le_of_ble_eq_true rfl) ⟨Nat.zero_le _, Nat.zero_le _⟩ dX8_scanWord_80 (fun H locs hW hk => ?_)
  have hc := keep_at hc hk
  refine lv_iload hx hb dX8_scanWord_83 (lv_at hl 2 rfl) ?_
  cases hf
  exact W.iret hx hb hr (b_ret0 hW (keep_s2 hc0 hc) _) hW.2.2.2 dX8_scanWord_85 hlk
noncomputable def f_X8_scanWord_60 (fu : Nat)  (v : GV) (x1 : Int32) (x2 : Int64) (x4 : Int32) (t0 : Int32) : Option (Int32 × GV) :=
  if (8 : Int32) < (x4 - x1) then
    (f_X8_scanWord_78 fu v x1 x2 x4 (1 : Int32))
  else
    (f_X8_scanWord_78 fu v x1 x2 x4 t0)
set_option maxHeartbeats 4000000 in
set_option maxRecDepth 100000 in
theorem t_X8_scanWord_60 {G : GG} {p : Program} {l : Launch} {e : Env} {s : State} {m : MethodId} {args : Array Value} {below : List Frame} {meth : Method} {c : Code} {S : ST} {fu : Nat} {z : Int32 × GV} {a : Nat} {v0 : GV}  {v : GV} {x1 : Int32} {x2 : Int64} {x4 : Int32} {t0 : Int32} (hM : MC G p s m args c cX8_scanWord w_X8_scanWord RX8) (hml : c.maxLocals = 6) (hr : meth.sig.returnType = (some .int)) (hlk : meth.locks = false) (hc0 : gC v0 = 8)  (hf : f_X8_scanWord_60 fu  v  x1 x2 x4 t0 = some z) : (gC v = 8) → ∀ (H : Heap) (locs : List Loc), WB G (st S a v) s H locs → ∀ (ls : Array Slot), lv_has ls 6 [(0, .ref a), (1, .int x1), (2, .long x2), (4, .int x4)] → W p l e RM_X8_scanWord s m args below meth c H locs 0 0 (QR G below args s (some (.int z.1)) (st S a v0) (st S a z.2)) (F0 m 60 ls [.int t0]) := by
  intro hc H locs hW ls hl
  have hx := hM.1
  have hb := hM.2.1
  refine lv_istore (lv' := [(5, .int t0), (0, .ref a), (1, .int x1), (2, .long x2), (4, .int x4)]) hx hb dX8_scanWord_60 hl (by decide) rfl (fun ls hl => ?_)
  refine lv_aload_n hx hb dX8_scanWord_62 rfl (lv_at hl 1 rfl) ?_
  refine lv_iload hx hb dX8_scanWord_63 (lv_at hl 4 rfl) ?_
  refine lv_iload_n hx hb dX8_scanWord_65 rfl (lv_at hl 2 rfl) ?_
  refine lv_isub hx hb dX8_scanWord_66 ?_
  refine lv_bipush (v := (8 : Int32)) hx hb dX8_scanWord_67 (by decide) ?_
  refine lv_icmp_gt (tgt := 77) hx hb dX8_scanWord_69 (by decide) (fun c1 => ?_) (fun c1 => ?_)
  · have hf := if_t c1 hf
    refine lv_iconst (v := (1 : Int32)) hx hb dX8_scanWord_77 (by decide) ?_
    exact t_X8_scanWord_78 (fu := fu) hM hml hr hlk hc0 hf hc _ _ hW _ (lv_sub hl [2, 3, 4] rfl)
  · have hf := if_f c1 hf
    refine lv_iload hx hb dX8_scanWord_72 (lv_at hl 0 rfl) ?_
    refine lv_goto (tgt := 78) hx hb dX8_scanWord_74 (by decide) ?_
    exact t_X8_scanWord_78 (fu := fu) hM hml hr hlk hc0 hf hc _ _ hW _ (lv_sub hl [2, 3, 4] rfl)
noncomputable def f_X8_scanWord_45 (fu : Nat)  (v : GV) (x1 : Int32) (x2 : Int64) (x4 : Int32) : Option (Int32 × GV) :=
  bd (f_X10_of fu x2) fun r1 =>
  ck (decide (r1 < 30)) <|
  if (wrs.getD r1 0) = 0 then
    (f_X8_scanWord_60 fu v x1 x2 x4 (2 : Int32))
  else
    (f_X8_scanWord_60 fu v x1 x2 x4 (3 : Int32))
set_option maxHeartbeats 4000000 in
set_option maxRecDepth 100000 in
theorem t_X8_scanWord_45 {G : GG} {p : Program} {l : Launch} {e : Env} {s : State} {m : MethodId} {args : Array Value} {below : List Frame} {meth : Method} {c : Code} {S : ST} {fu : Nat} {z : Int32 × GV} {a : Nat} {v0 : GV}  {v : GV} {x1 : Int32} {x2 : Int64} {x4 : Int32} (hM : MC G p s m args c cX8_scanWord w_X8_scanWord RX8) (hml : c.maxLocals = 6) (hr : meth.sig.returnType = (some .int)) (hlk : meth.locks = false) (hc0 : gC v0 = 8)  (hf : f_X8_scanWord_45 fu  v  x1 x2 x4 = some z) : (gC v = 8) → ∀ (H : Heap) (locs : List Loc), WB G (st S a v) s H locs → ∀ (ls : Array Slot), lv_has ls 6 [(0, .ref a), (1, .int x1), (2, .long x2), (4, .int x4)] → W p l e RM_X8_scanWord s m args below meth c H locs 0 0 (QR G below args s (some (.int z.1)) (st S a v0) (st S a z.2)) (F0 m 45 ls []) := by
  intro hc H locs hW ls hl
  have hx := hM.1
  have hb := hM.2.1
  refine lv_lload_n hx hb dX8_scanWord_45 rfl (lv_at hl 2 rfl) ?_
  obtain ⟨r1, hr1, hf⟩ := bd_elim hf
  refine s_callSr [.long x2] [] hM hml hl.1 hW (c_X10_of l G fu _ _ hr1) (va_cwS 1 hM.2.2.2.1 (gS mk_RX8_78 sm_X10_of it_RX10 cd_X10_of) rfl rfl rfl (by decide +kernel) ⟨Nat.le_of_ble_eq_true rfl, Nat.le_of_ble_eq_true rfl⟩) rfl rfl (Nat.le_of_ble_eq_true rfl) ⟨Nat.zero_le _, Nat.zero_le _⟩ dX8_scanWord_46 (fun H locs hW hk => ?_)
  obtain ⟨h2, hf⟩ := ck_elim hf
  have h2 := of_decide_eq_true h2
  refine k_rs hM hW h2 (wgm fk_RX8_82) dX8_scanWord_49 ?_
  refine lv_if_eq (tgt := 59) hx hb dX8_scanWord_52 (by decide) (fun c3 => ?_) (fun c3 => ?_)
  · have hf := if_t c3 hf
    refine lv_iconst (v := (2 : Int32)) hx hb dX8_scanWord_59 (by decide) ?_
    exact t_X8_scanWord_60 (fu := fu) hM hml hr hlk hc0 hf hc _ _ hW _ (lv_sub hl [0, 1, 2, 3] rfl)
  · have hf := if_f c3 hf
    refine lv_iconst (v := (3 : Int32)) hx hb dX8_scanWord_55 (by decide) ?_
    refine lv_goto (tgt := 60) hx hb dX8_scanWord_56 (by decide) ?_
    exact t_X8_scanWord_60 (fu := fu) hM hml hr hlk hc0 hf hc _ _ hW _ (lv_sub hl [0, 1, 2, 3] rfl)
noncomputable def f_X8_scanWord_5s (fu : Nat)  (k5 : Int64 → Int32 → GV → Option (Int32 × GV)) (x1 : Int32) (x2 : Int64) (x4 : Int32) (v : GV) : Option (Int32 × GV) :=
  if (gI v 6) ≤ x4 then
    (f_X8_scanWord_45 fu v x1 x2 x4)
  else
    (ck (inb x4 1000) <|
    bd (f_X8_isLetter fu (gA v 0 x4.toNatClampNeg)) fun r3 =>
    if r3 = 0 then
      (f_X8_scanWord_45 fu v x1 x2 x4)
    else
      (ck (inb x4 1000) <|
      bd (f_X10_packedWith fu x2 (gA v 0 x4.toNatClampNeg)) fun r6 =>
      nm (x4 + (1 : Int32)) fun y7 =>
      k5 r6 y7 v))
noncomputable def f_X8_scanWord_5 (fu n : Nat)  (x1 : Int32) : Int64 → Int32 → GV → Option (Int32 × GV) :=
  lq_3 (fun k5 => f_X8_scanWord_5s fu  k5   x1) n
set_option maxHeartbeats 4000000 in
set_option maxRecDepth 100000 in
theorem t_X8_scanWord_5s {G : GG} {p : Program} {l : Launch} {e : Env} {s : State} {m : MethodId} {args : Array Value} {below : List Frame} {meth : Method} {c : Code} {S : ST} {fu : Nat} {z : Int32 × GV} {a : Nat} {v0 : GV}  {k5 : Int64 → Int32 → GV → Option (Int32 × GV)} {x1 : Int32} (hM : MC G p s m args c cX8_scanWord w_X8_scanWord RX8) (hml : c.maxLocals = 6) (hr : meth.sig.returnType = (some .int)) (hlk : meth.locks = false) (hc0 : gC v0 = 8)  (hk5 : ∀ (x2 : Int64) (x4 : Int32) (v : GV), k5 x2 x4 v = some z → (gC v = 8) → ∀ (H : Heap) (locs : List Loc), WB G (st S a v) s H locs → ∀ (ls : Array Slot), lv_has ls 6 [(0, .ref a), (1, .int x1), (2, .long x2), (4, .int x4)] → W p l e RM_X8_scanWord s m args below meth c H locs 0 0 (QR G below args s (some (.int z.1)) (st S a v0) (st S a z.2)) (F0 m 5 ls [])) : ∀ (x2 : Int64) (x4 : Int32) (v : GV), f_X8_scanWord_5s fu  k5   x1 x2 x4 v = some z → (gC v = 8) → ∀ (H : Heap) (locs : List Loc), WB G (st S a v) s H locs → ∀ (ls : Array Slot), lv_has ls 6 [(0, .ref a), (1, .int x1), (2, .long x2), (4, .int x4)] → W p l e RM_X8_scanWord s m args below meth c H locs 0 0 (QR G below args s (some (.int z.1)) (st S a v0) (st S a z.2)) (F0 m 5 ls []) := by
  intro x2 x4 v hf hc H locs hW ls hl
  have hx := hM.1
  have hb := hM.2.1
  refine lv_iload hx hb dX8_scanWord_5 (lv_at hl 3 rfl) ?_
  refine lv_aload_n hx hb dX8_scanWord_7 rfl (lv_at hl 0 rfl) ?_
  refine b_get hM hW 7 6 hc rfl rfl (by decide) wi_X8 (wgm fk_RX8_33) (x := .int (gI v 6)) rfl dX8_scanWord_8 ?_
  refine lv_icmp_ge (tgt := 45) hx hb dX8_scanWord_11 (by decide) (fun c1 => ?_) (fun c1 => ?_)
  · have hf := if_t c1 hf
    exact t_X8_scanWord_45 (fu := fu) hM hml hr hlk hc0 hf hc _ _ hW _ (lv_sub hl [0, 1, 2, 3] rfl)
  · have hf := if_f c1 hf
    refine lv_aload_n hx hb dX8_scanWord_14 rfl (lv_at hl 0 rfl) ?_
    refine b_get hM hW 7 0 hc rfl rfl (by decide) wi_X8 (wgm fk_RX8_9) (x := .ref (a + 1)) rfl dX8_scanWord_15 ?_
    refine lv_iload hx hb dX8_scanWord_18 (lv_at hl 3 rfl) ?_
    obtain ⟨h2, hf⟩ := ck_elim hf
    refine b_cald (n := 1000) hM hW 7 0 hc (by decide) rfl rfl rfl rfl h2 dX8_scanWord_20 ?_
    obtain ⟨r3, hr3, hf⟩ := bd_elim hf
    refine s_callSi [.int (gA v 0 x4.toNatClampNeg)] [] hM hml hl.1 hW (c_X8_isLetter l G fu _ _ hr3) (va_cwS 1 hM.2.2.2.1 (gS mk_RX8_53 sm_X8_isLetter it_RX8 cd_X8_isLetter) rfl rfl rfl (by decide +kernel) ⟨Nat.le_of_ble_eq_true rfl, Nat.le_of_ble_eq_true rfl⟩) rfl rfl (Nat.le_of_ble_eq_true rfl) ⟨Nat.zero_le _, Nat.zero_le _⟩ dX8_scanWord_21 (fun H locs hW hk => ?_)
    refine lv_if_eq (tgt := 45) hx hb dX8_scanWord_24 (by decide) (fun c4 => ?_) (fun c4 => ?_)
    · have hf := if_t c4 hf
      exact t_X8_scanWord_45 (fu := fu) hM hml hr hlk hc0 hf hc _ _ hW _ (lv_sub hl [0, 1, 2, 3] rfl)
    · have hf := if_f c4 hf
      refine lv_lload_n hx hb dX8_scanWord_27 rfl (lv_at hl 2 rfl) ?_
      refine lv_aload_n hx hb dX8_scanWord_28 rfl (lv_at hl 0 rfl) ?_
      refine b_get hM hW 7 0 hc rfl rfl (by decide) wi_X8 (wgm fk_RX8_9) (x := .ref (a + 1)) rfl dX8_scanWord_29 ?_
      refine lv_iload hx hb dX8_scanWord_32 (lv_at hl 3 rfl) ?_
      obtain ⟨h5, hf⟩ := ck_elim hf
      refine b_cald (n := 1000) hM hW 7 0 hc (by decide) rfl rfl rfl rfl h5 dX8_scanWord_34 ?_
      obtain ⟨r6, hr6, hf⟩ := bd_elim hf
      refine s_callSl [.long x2, .int (gA v 0 x4.toNatClampNeg)] [] hM hml hl.1 hW (c_X10_packedWith l G fu _ _ _ hr6) (va_cwS 2 hM.2.2.2.1 (gS mk_RX8_72 sm_X10_packedWith it_RX10 cd_X10_packedWith) rfl rfl rfl (by decide +kernel) ⟨Nat.le_of_ble_eq_true rfl, Nat.le_of_ble_eq_true rfl⟩) rfl rfl (Nat.le_of_ble_eq_true rfl) ⟨Nat.zero_le _, Nat.zero_le _⟩ dX8_scanWord_35 (fun H locs hW hk => ?_)
      refine lv_lstore_n (lv' := [(2, .long r6), (0, .ref a), (1, .int x1), (4, .int x4)]) hx hb dX8_scanWord_38 rfl hl (by decide) rfl (fun ls hl => ?_)
      obtain ⟨y7, ey7⟩ : ∃ y : Int32, y = x4 + (1 : Int32) := ⟨_, rfl⟩
      have hf := nm_at ey7 hf
      refine lv_iinc (v := y7) (lv' := [(4, .int y7), (2, .long r6), (0, .ref a), (1, .int x1)]) hx hb dX8_scanWord_39 hl (k := 3) rfl (by rw [ey7]; rfl) (by decide) rfl (fun ls hl => ?_)
      refine lv_goto (tgt := 5) hx hb dX8_scanWord_42 (by decide) ?_
      exact hk5 _ _ _ hf hc _ _ hW _ (lv_sub hl [2, 3, 1, 0] rfl)
theorem t_X8_scanWord_5 {G : GG} {p : Program} {l : Launch} {e : Env} {s : State} {m : MethodId} {args : Array Value} {below : List Frame} {meth : Method} {c : Code} {S : ST} {fu : Nat} {z : Int32 × GV} {a : Nat} {v0 : GV}  {x1 : Int32} (hM : MC G p s m args c cX8_scanWord w_X8_scanWord RX8) (hml : c.maxLocals = 6) (hr : meth.sig.returnType = (some .int)) (hlk : meth.locks = false) (hc0 : gC v0 = 8)  : ∀ {n : Nat} (x2 : Int64) (x4 : Int32) (v : GV), f_X8_scanWord_5 fu n    x1 x2 x4 v = some z → (gC v = 8) → ∀ (H : Heap) (locs : List Loc), WB G (st S a v) s H locs → ∀ (ls : Array Slot), lv_has ls 6 [(0, .ref a), (1, .int x1), (2, .long x2), (4, .int x4)] → W p l e RM_X8_scanWord s m args below meth c H locs 0 0 (QR G below args s (some (.int z.1)) (st S a v0) (st S a z.2)) (F0 m 5 ls []) := by
  intro n
  induction n with
  | zero => intro x2 x4 v hf; cases hf
  | succ n ih => intro x2 x4 v hf; exact t_X8_scanWord_5s (fu := fu) hM hml hr hlk hc0 (k5 := f_X8_scanWord_5 fu n    x1) ih _ _ _ hf
noncomputable def f_X8_scanWord_0 (fu : Nat)  (v : GV) (x1 : Int32) : Option (Int32 × GV) :=
  f_X8_scanWord_5 fu fu x1 (0 : Int64) x1 v
set_option maxHeartbeats 4000000 in
set_option maxRecDepth 100000 in
theorem t_X8_scanWord_0 {G : GG} {p : Program} {l : Launch} {e : Env} {s : State} {m : MethodId} {args : Array Value} {below : List Frame} {meth : Method} {c : Code} {S : ST} {fu : Nat} {z : Int32 × GV} {a : Nat} {v0 : GV}  {v : GV} {x1 : Int32} (hM : MC G p s m args c cX8_scanWord w_X8_scanWord RX8) (hml : c.maxLocals = 6) (hr : meth.sig.returnType = (some .int)) (hlk : meth.locks = false) (hc0 : gC v0 = 8)  (hf : f_X8_scanWord_0 fu  v  x1 = some z) : (gC v = 8) → ∀ (H : Heap) (locs : List Loc), WB G (st S a v) s H locs → ∀ (ls : Array Slot), lv_has ls 6 [(0, .ref a), (1, .int x1)] → W p l e RM_X8_scanWord s m args below meth c H locs 0 0 (QR G below args s (some (.int z.1)) (st S a v0) (st S a z.2)) (F0 m 0 ls []) := by
  intro hc H locs hW ls hl
  have hx := hM.1
  have hb := hM.2.1
  refine lv_lconst (v := (0 : Int64)) hx hb dX8_scanWord_0 (by decide) ?_
  refine lv_lstore_n (lv' := [(2, .long (0 : Int64)), (0, .ref a), (1, .int x1)]) hx hb dX8_scanWord_1 rfl hl (by decide) rfl (fun ls hl => ?_)
  refine lv_iload_n hx hb dX8_scanWord_2 rfl (lv_at hl 2 rfl) ?_
  refine lv_istore (lv' := [(4, .int x1), (2, .long (0 : Int64)), (0, .ref a), (1, .int x1)]) hx hb dX8_scanWord_3 hl (by decide) rfl (fun ls hl => ?_)
  exact t_X8_scanWord_5 (fu := fu) hM hml hr hlk hc0 _ _ _ hf hc _ _ hW _ (lv_sub hl [2, 3, 1, 0] rfl)
noncomputable def f_X8_scanWord (fu : Nat) (v : GV) (x1 : Int32) : Option (Int32 × GV) := f_X8_scanWord_0 fu v x1
set_option maxHeartbeats 4000000 in
set_option maxRecDepth 100000 in
theorem c_X8_scanWord (l : Launch) (G : GG) (fu : Nat) (S : ST) (a : Nat) (v : GV) (x1 : Int32) {z : Int32} {w : GV} (hc : gC v = 8) (hf : f_X8_scanWord fu v x1 = some (z, w)) : Ct l yX8_scanWord w_X8_scanWord RM_X8_scanWord G (st S a v) [.ref a, .int x1] (some (.int z)) (st S a w) 0 0 := by
  refine Met.ofW (cc := cX8_scanWord) (maxL := 6) (ret := (some .int)) (by decide) rfl ?_
  intro p e s m args below meth c s₁ B hml hv
  obtain ⟨rfl, hB, hK, hz⟩ := hv
  have hM : MC G p s m _ c cX8_scanWord w_X8_scanWord RX8 := ⟨B.exec, B.bytes, findClass_of_methodNamed B.named, atoms_spec (ws := w_X8_scanWord) B.pre, hK, hz⟩
  have hW : WB G (st S a v) s s.heap [] := ⟨hB, va_S.rf⟩
  have hl := lv_entry ([.ref a, .int x1]) (n := 6) (Nat.le_of_ble_eq_true rfl)
  rw [lg_entry_eq]
  generalize (lg_sl ([.ref a, .int x1]) ++ List.replicate (6 - (lg_sl ([.ref a, .int x1])).length) Slot.unset).toArray = ls at hl ⊢
  have hl : lv_has ls 6 [(0, .ref a), (1, .int x1)] := hl
  exact t_X8_scanWord_0 (fu := fu) hM hml B.returns B.notSynchronized hc hf hc _ _ hW _ (lv_sub hl [0, 1] rfl)
abbrev RM_X8_isDigit : Room := { frames := 0, cells := 0, slots := 0, locals := 0 }
abbrev w_X8_isDigit : List Cond := Cond.code yX8_isDigit cX8_isDigit 1 (some .boolean) :: wsL_law0
noncomputable def f_X8_isDigit_16 (fu : Nat)  : Option (Int32) :=
  some ((0 : Int32))
set_option maxHeartbeats 4000000 in
set_option maxRecDepth 100000 in
theorem t_X8_isDigit_16 {G : GG} {p : Program} {l : Launch} {e : Env} {s : State} {m : MethodId} {args : Array Value} {below : List Frame} {meth : Method} {c : Code} {S : ST} {fu : Nat} {z : Int32}  (hM : MC G p s m args c cX8_isDigit w_X8_isDigit RX8) (hml : c.maxLocals = 1) (hr : meth.sig.returnType = (some .boolean)) (hlk : meth.locks = false)   (hf : f_X8_isDigit_16 fu     = some z) : ∀ (H : Heap) (locs : List Loc), WB G S s H locs → ∀ (ls : Array Slot), lv_has ls 1 [] → W p l e RM_X8_isDigit s m args below meth c H locs 0 0 (QR G below args s (some (.int z)) S S) (F0 m 16 ls []) := by
  intro  H locs hW ls hl
  have hx := hM.1
  have hb := hM.2.1
  refine lv_iconst (v := (0 : Int32)) hx hb dX8_isDigit_16 (by decide) ?_
  cases hf
  exact W.zret (v := (0 : Int32)) hx hb hr (by decide) (b_ret0 hW (fun _ _ => rfl) _) hW.2.2.2 dX8_isDigit_17 hlk
noncomputable def f_X8_isDigit_0 (fu : Nat)  (x0 : Int32) : Option (Int32) :=
  if x0 < (48 : Int32) then
    (f_X8_isDigit_16 fu)
  else
    (if (57 : Int32) < x0 then
      (f_X8_isDigit_16 fu)
    else
      (some ((1 : Int32))))
set_option maxHeartbeats 4000000 in
set_option maxRecDepth 100000 in
theorem t_X8_isDigit_0 {G : GG} {p : Program} {l : Launch} {e : Env} {s : State} {m : MethodId} {args : Array Value} {below : List Frame} {meth : Method} {c : Code} {S : ST} {fu : Nat} {z : Int32}  {x0 : Int32} (hM : MC G p s m args c cX8_isDigit w_X8_isDigit RX8) (hml : c.maxLocals = 1) (hr : meth.sig.returnType = (some .boolean)) (hlk : meth.locks = false)   (hf : f_X8_isDigit_0 fu    x0 = some z) : ∀ (H : Heap) (locs : List Loc), WB G S s H locs → ∀ (ls : Array Slot), lv_has ls 1 [(0, .int x0)] → W p l e RM_X8_isDigit s m args below meth c H locs 0 0 (QR G below args s (some (.int z)) S S) (F0 m 0 ls []) := by
  intro  H locs hW ls hl
  have hx := hM.1
  have hb := hM.2.1
  refine lv_iload_n hx hb dX8_isDigit_0 rfl (lv_at hl 0 rfl) ?_
  refine lv_bipush (v := (48 : Int32)) hx hb dX8_isDigit_1 (by decide) ?_
  refine lv_icmp_lt (tgt := 16) hx hb dX8_isDigit_3 (by decide) (fun c1 => ?_) (fun c1 => ?_)
  · have hf := if_t c1 hf
    exact t_X8_isDigit_16 (fu := fu) hM hml hr hlk hf _ _ hW _ (lv_sub hl [] rfl)
  · have hf := if_f c1 hf
    refine lv_iload_n hx hb dX8_isDigit_6 rfl (lv_at hl 0 rfl) ?_
    refine lv_bipush (v := (57 : Int32)) hx hb dX8_isDigit_7 (by decide) ?_
    refine lv_icmp_gt (tgt := 16) hx hb dX8_isDigit_9 (by decide) (fun c2 => ?_) (fun c2 => ?_)
    · have hf := if_t c2 hf
      exact t_X8_isDigit_16 (fu := fu) hM hml hr hlk hf _ _ hW _ (lv_sub hl [] rfl)
    · have hf := if_f c2 hf
      refine lv_iconst (v := (1 : Int32)) hx hb dX8_isDigit_12 (by decide) ?_
      refine lv_goto (tgt := 17) hx hb dX8_isDigit_13 (by decide) ?_
      cases hf
      exact W.zret (v := (1 : Int32)) hx hb hr (by decide) (b_ret0 hW (fun _ _ => rfl) _) hW.2.2.2 dX8_isDigit_17 hlk
noncomputable def f_X8_isDigit (fu : Nat) (x0 : Int32) : Option (Int32) := f_X8_isDigit_0 fu x0
set_option maxHeartbeats 4000000 in
set_option maxRecDepth 100000 in
theorem c_X8_isDigit (l : Launch) (G : GG) (fu : Nat) (S : ST) (x0 : Int32) {z : Int32} (hf : f_X8_isDigit fu x0 = some z) : Ct l yX8_isDigit w_X8_isDigit RM_X8_isDigit G S [.int x0] (some (.int z)) S 0 0 := by
  refine Met.ofW (cc := cX8_isDigit) (maxL := 1) (ret := (some .boolean)) (by decide) rfl ?_
  intro p e s m args below meth c s₁ B hml hv
  obtain ⟨rfl, hB, hK, hz⟩ := hv
  have hM : MC G p s m _ c cX8_isDigit w_X8_isDigit RX8 := ⟨B.exec, B.bytes, findClass_of_methodNamed B.named, atoms_spec (ws := w_X8_isDigit) B.pre, hK, hz⟩
  have hW : WB G S s s.heap [] := ⟨hB, va_S.rf⟩
  have hl := lv_entry ([.int x0]) (n := 1) (Nat.le_of_ble_eq_true rfl)
  rw [lg_entry_eq]
  generalize (lg_sl ([.int x0]) ++ List.replicate (1 - (lg_sl ([.int x0])).length) Slot.unset).toArray = ls at hl ⊢
  have hl : lv_has ls 1 [(0, .int x0)] := hl
  exact t_X8_isDigit_0 (fu := fu) hM hml B.returns B.notSynchronized hf _ _ hW _ (lv_sub hl [0] rfl)
abbrev RM_X8_scanNumber : Room := { frames := 1, cells := 0, slots := 0, locals := 24 }
abbrev w_X8_scanNumber : List Cond := Cond.code yX8_scanNumber cX8_scanNumber 5 (some .int) :: wsL_law0
noncomputable def f_X8_scanNumber_65 (fu : Nat)  (v : GV) (x1 : Int32) (x2 : Int64) (x4 : Int32) (t1 : Int32) : Option (Int32 × GV) :=
  bd (f_X8_addToken fu v t1 x1 x2) fun v2 =>
  some (x4, v2)
set_option maxHeartbeats 4000000 in
set_option maxRecDepth 100000 in
theorem t_X8_scanNumber_65 {G : GG} {p : Program} {l : Launch} {e : Env} {s : State} {m : MethodId} {args : Array Value} {below : List Frame} {meth : Method} {c : Code} {S : ST} {fu : Nat} {z : Int32 × GV} {a : Nat} {v0 : GV}  {v : GV} {x1 : Int32} {x2 : Int64} {x4 : Int32} {t1 : Int32} (hM : MC G p s m args c cX8_scanNumber w_X8_scanNumber RX8) (hml : c.maxLocals = 5) (hr : meth.sig.returnType = (some .int)) (hlk : meth.locks = false) (hc0 : gC v0 = 8)  (hf : f_X8_scanNumber_65 fu  v  x1 x2 x4 t1 = some z) : (gC v = 8) → ∀ (H : Heap) (locs : List Loc), WB G (st S a v) s H locs → ∀ (ls : Array Slot), lv_has ls 5 [(1, .int x1), (2, .long x2), (4, .int x4)] → W p l e RM_X8_scanNumber s m args below meth c H locs 0 0 (QR G below args s (some (.int z.1)) (st S a v0) (st S a z.2)) (F0 m 65 ls [.int t1, .ref a]) := by
  intro hc H locs hW ls hl
  have hx := hM.1
  have hb := hM.2.1
  refine lv_iload_n hx hb dX8_scanNumber_65 rfl (lv_at hl 0 rfl) ?_
  refine lv_lload_n hx hb dX8_scanNumber_66 rfl (lv_at hl 1 rfl) ?_
  obtain ⟨v2, hr1, hf⟩ := bd_elim hf
  refine b_callVv [.int t1, .int x1, .long x2] [] hM hml hl.1 hW hc rfl (by decide) (c_X8_addToken l G fu _ a v _ _ _ hc hr1) (cwV 3 hM.2.2.2.1 (gV mk_RX8_49 im_X8_addToken se_X8_addToken it_RX8 cd_X8_addToken) rfl rfl rfl (by decide +kernel) ⟨Nat.le_of_ble_eq_true rfl, Nat.le_of_ble_eq_true rfl⟩) rfl rfl (Nat.le_of_ble_eq_true rfl) ⟨Nat.zero_le _, Nat.zero_le _⟩ dX8_scanNumber_67 (fun H locs hW hk => ?_)
  have hc := keep_at hc hk
  refine lv_iload hx hb dX8_scanNumber_70 (lv_at hl 2 rfl) ?_
  cases hf
  exact W.iret hx hb hr (b_ret0 hW (keep_s2 hc0 hc) _) hW.2.2.2 dX8_scanNumber_72 hlk
noncomputable def f_X8_scanNumber_51 (fu : Nat)  (v : GV) (x1 : Int32) (x2 : Int64) (x4 : Int32) : Option (Int32 × GV) :=
  if (4 : Int32) < (x4 - x1) then
    (f_X8_scanNumber_65 fu v x1 x2 x4 (1 : Int32))
  else
    (f_X8_scanNumber_65 fu v x1 x2 x4 (4 : Int32))
set_option maxHeartbeats 4000000 in
set_option maxRecDepth 100000 in
theorem t_X8_scanNumber_51 {G : GG} {p : Program} {l : Launch} {e : Env} {s : State} {m : MethodId} {args : Array Value} {below : List Frame} {meth : Method} {c : Code} {S : ST} {fu : Nat} {z : Int32 × GV} {a : Nat} {v0 : GV}  {v : GV} {x1 : Int32} {x2 : Int64} {x4 : Int32} (hM : MC G p s m args c cX8_scanNumber w_X8_scanNumber RX8) (hml : c.maxLocals = 5) (hr : meth.sig.returnType = (some .int)) (hlk : meth.locks = false) (hc0 : gC v0 = 8)  (hf : f_X8_scanNumber_51 fu  v  x1 x2 x4 = some z) : (gC v = 8) → ∀ (H : Heap) (locs : List Loc), WB G (st S a v) s H locs → ∀ (ls : Array Slot), lv_has ls 5 [(0, .ref a), (1, .int x1), (2, .long x2), (4, .int x4)] → W p l e RM_X8_scanNumber s m args below meth c H locs 0 0 (QR G below args s (some (.int z.1)) (st S a v0) (st S a z.2)) (F0 m 51 ls []) := by
  intro hc H locs hW ls hl
  have hx := hM.1
  have hb := hM.2.1
  refine lv_aload_n hx hb dX8_scanNumber_51 rfl (lv_at hl 0 rfl) ?_
  refine lv_iload hx hb dX8_scanNumber_52 (lv_at hl 3 rfl) ?_
  refine lv_iload_n hx hb dX8_scanNumber_54 rfl (lv_at hl 1 rfl) ?_
  refine lv_isub hx hb dX8_scanNumber_55 ?_
  refine lv_iconst (v := (4 : Int32)) hx hb dX8_scanNumber_56 (by decide) ?_
  refine lv_icmp_gt (tgt := 64) hx hb dX8_scanNumber_57 (by decide) (fun c1 => ?_) (fun c1 => ?_)
  · have hf := if_t c1 hf
    refine lv_iconst (v := (1 : Int32)) hx hb dX8_scanNumber_64 (by decide) ?_
    exact t_X8_scanNumber_65 (fu := fu) hM hml hr hlk hc0 hf hc _ _ hW _ (lv_sub hl [1, 2, 3] rfl)
  · have hf := if_f c1 hf
    refine lv_iconst (v := (4 : Int32)) hx hb dX8_scanNumber_60 (by decide) ?_
    refine lv_goto (tgt := 65) hx hb dX8_scanNumber_61 (by decide) ?_
    exact t_X8_scanNumber_65 (fu := fu) hM hml hr hlk hc0 hf hc _ _ hW _ (lv_sub hl [1, 2, 3] rfl)
noncomputable def f_X8_scanNumber_5s (fu : Nat)  (k5 : Int64 → Int32 → GV → Option (Int32 × GV)) (x1 : Int32) (x2 : Int64) (x4 : Int32) (v : GV) : Option (Int32 × GV) :=
  if (gI v 6) ≤ x4 then
    (f_X8_scanNumber_51 fu v x1 x2 x4)
  else
    (ck (inb x4 1000) <|
    bd (f_X8_isDigit fu (gA v 0 x4.toNatClampNeg)) fun r3 =>
    if r3 = 0 then
      (f_X8_scanNumber_51 fu v x1 x2 x4)
    else
      (ck (inb x4 1000) <|
      nm (((x2 * (10 : Int64)) + (((gA v 0 x4.toNatClampNeg) - (48 : Int32))).toInt64)) fun y6 =>
      nm (x4 + (1 : Int32)) fun y7 =>
      k5 y6 y7 v))
noncomputable def f_X8_scanNumber_5 (fu n : Nat)  (x1 : Int32) : Int64 → Int32 → GV → Option (Int32 × GV) :=
  lq_3 (fun k5 => f_X8_scanNumber_5s fu  k5   x1) n
set_option maxHeartbeats 4000000 in
set_option maxRecDepth 100000 in
theorem t_X8_scanNumber_5s {G : GG} {p : Program} {l : Launch} {e : Env} {s : State} {m : MethodId} {args : Array Value} {below : List Frame} {meth : Method} {c : Code} {S : ST} {fu : Nat} {z : Int32 × GV} {a : Nat} {v0 : GV}  {k5 : Int64 → Int32 → GV → Option (Int32 × GV)} {x1 : Int32} (hM : MC G p s m args c cX8_scanNumber w_X8_scanNumber RX8) (hml : c.maxLocals = 5) (hr : meth.sig.returnType = (some .int)) (hlk : meth.locks = false) (hc0 : gC v0 = 8)  (hk5 : ∀ (x2 : Int64) (x4 : Int32) (v : GV), k5 x2 x4 v = some z → (gC v = 8) → ∀ (H : Heap) (locs : List Loc), WB G (st S a v) s H locs → ∀ (ls : Array Slot), lv_has ls 5 [(0, .ref a), (1, .int x1), (2, .long x2), (4, .int x4)] → W p l e RM_X8_scanNumber s m args below meth c H locs 0 0 (QR G below args s (some (.int z.1)) (st S a v0) (st S a z.2)) (F0 m 5 ls [])) : ∀ (x2 : Int64) (x4 : Int32) (v : GV), f_X8_scanNumber_5s fu  k5   x1 x2 x4 v = some z → (gC v = 8) → ∀ (H : Heap) (locs : List Loc), WB G (st S a v) s H locs → ∀ (ls : Array Slot), lv_has ls 5 [(0, .ref a), (1, .int x1), (2, .long x2), (4, .int x4)] → W p l e RM_X8_scanNumber s m args below meth c H locs 0 0 (QR G below args s (some (.int z.1)) (st S a v0) (st S a z.2)) (F0 m 5 ls []) := by
  intro x2 x4 v hf hc H locs hW ls hl
  have hx := hM.1
  have hb := hM.2.1
  refine lv_iload hx hb dX8_scanNumber_5 (lv_at hl 3 rfl) ?_
  refine lv_aload_n hx hb dX8_scanNumber_7 rfl (lv_at hl 0 rfl) ?_
  refine b_get hM hW 7 6 hc rfl rfl (by decide) wi_X8 (wgm fk_RX8_33) (x := .int (gI v 6)) rfl dX8_scanNumber_8 ?_
  refine lv_icmp_ge (tgt := 51) hx hb dX8_scanNumber_11 (by decide) (fun c1 => ?_) (fun c1 => ?_)
  · have hf := if_t c1 hf
    exact t_X8_scanNumber_51 (fu := fu) hM hml hr hlk hc0 hf hc _ _ hW _ (lv_sub hl [0, 1, 2, 3] rfl)
  · have hf := if_f c1 hf
    refine lv_aload_n hx hb dX8_scanNumber_14 rfl (lv_at hl 0 rfl) ?_
    refine b_get hM hW 7 0 hc rfl rfl (by decide) wi_X8 (wgm fk_RX8_9) (x := .ref (a + 1)) rfl dX8_scanNumber_15 ?_
    refine lv_iload hx hb dX8_scanNumber_18 (lv_at hl 3 rfl) ?_
    obtain ⟨h2, hf⟩ := ck_elim hf
    refine b_cald (n := 1000) hM hW 7 0 hc (by decide) rfl rfl rfl rfl h2 dX8_scanNumber_20 ?_
    obtain ⟨r3, hr3, hf⟩ := bd_elim hf
    refine s_callSi [.int (gA v 0 x4.toNatClampNeg)] [] hM hml hl.1 hW (c_X8_isDigit l G fu _ _ hr3) (va_cwS 1 hM.2.2.2.1 (gS mk_RX8_59 sm_X8_isDigit it_RX8 cd_X8_isDigit) rfl rfl rfl (by decide +kernel) ⟨Nat.le_of_ble_eq_true rfl, Nat.le_of_ble_eq_true rfl⟩) rfl rfl (Nat.le_of_ble_eq_true rfl) ⟨Nat.zero_le _, Nat.zero_le _⟩ dX8_scanNumber_21 (fun H locs hW hk => ?_)
    refine lv_if_eq (tgt := 51) hx hb dX8_scanNumber_24 (by decide) (fun c4 => ?_) (fun c4 => ?_)
    · have hf := if_t c4 hf
      exact t_X8_scanNumber_51 (fu := fu) hM hml hr hlk hc0 hf hc _ _ hW _ (lv_sub hl [0, 1, 2, 3] rfl)
    · have hf := if_f c4 hf
      refine lv_lload_n hx hb dX8_scanNumber_27 rfl (lv_at hl 2 rfl) ?_
      refine lv_ldc2 (v := (10 : Int64)) hx hb hM.2.2.1 (hM.2.2.2.1 _ (wgm kj_RX8_86)) dX8_scanNumber_28 ?_
      refine lv_lmul hx hb dX8_scanNumber_31 ?_
      refine lv_aload_n hx hb dX8_scanNumber_32 rfl (lv_at hl 0 rfl) ?_
      refine b_get hM hW 7 0 hc rfl rfl (by decide) wi_X8 (wgm fk_RX8_9) (x := .ref (a + 1)) rfl dX8_scanNumber_33 ?_
      refine lv_iload hx hb dX8_scanNumber_36 (lv_at hl 3 rfl) ?_
      obtain ⟨h5, hf⟩ := ck_elim hf
      refine b_cald (n := 1000) hM hW 7 0 hc (by decide) rfl rfl rfl rfl h5 dX8_scanNumber_38 ?_
      refine lv_bipush (v := (48 : Int32)) hx hb dX8_scanNumber_39 (by decide) ?_
      refine lv_isub hx hb dX8_scanNumber_41 ?_
      refine lv_i2l hx hb dX8_scanNumber_42 rfl ?_
      refine lv_ladd hx hb dX8_scanNumber_43 ?_
      refine lv_topl (fun y6 ey6 => ?_)
      have hf := nm_at ey6 hf
      refine lv_lstore_n (lv' := [(2, .long y6), (0, .ref a), (1, .int x1), (4, .int x4)]) hx hb dX8_scanNumber_44 rfl hl (by decide) rfl (fun ls hl => ?_)
      obtain ⟨y7, ey7⟩ : ∃ y : Int32, y = x4 + (1 : Int32) := ⟨_, rfl⟩
      have hf := nm_at ey7 hf
      refine lv_iinc (v := y7) (lv' := [(4, .int y7), (2, .long y6), (0, .ref a), (1, .int x1)]) hx hb dX8_scanNumber_45 hl (k := 3) rfl (by rw [ey7]; rfl) (by decide) rfl (fun ls hl => ?_)
      refine lv_goto (tgt := 5) hx hb dX8_scanNumber_48 (by decide) ?_
      exact hk5 _ _ _ hf hc _ _ hW _ (lv_sub hl [2, 3, 1, 0] rfl)
theorem t_X8_scanNumber_5 {G : GG} {p : Program} {l : Launch} {e : Env} {s : State} {m : MethodId} {args : Array Value} {below : List Frame} {meth : Method} {c : Code} {S : ST} {fu : Nat} {z : Int32 × GV} {a : Nat} {v0 : GV}  {x1 : Int32} (hM : MC G p s m args c cX8_scanNumber w_X8_scanNumber RX8) (hml : c.maxLocals = 5) (hr : meth.sig.returnType = (some .int)) (hlk : meth.locks = false) (hc0 : gC v0 = 8)  : ∀ {n : Nat} (x2 : Int64) (x4 : Int32) (v : GV), f_X8_scanNumber_5 fu n    x1 x2 x4 v = some z → (gC v = 8) → ∀ (H : Heap) (locs : List Loc), WB G (st S a v) s H locs → ∀ (ls : Array Slot), lv_has ls 5 [(0, .ref a), (1, .int x1), (2, .long x2), (4, .int x4)] → W p l e RM_X8_scanNumber s m args below meth c H locs 0 0 (QR G below args s (some (.int z.1)) (st S a v0) (st S a z.2)) (F0 m 5 ls []) := by
  intro n
  induction n with
  | zero => intro x2 x4 v hf; cases hf
  | succ n ih => intro x2 x4 v hf; exact t_X8_scanNumber_5s (fu := fu) hM hml hr hlk hc0 (k5 := f_X8_scanNumber_5 fu n    x1) ih _ _ _ hf
noncomputable def f_X8_scanNumber_0 (fu : Nat)  (v : GV) (x1 : Int32) : Option (Int32 × GV) :=
  f_X8_scanNumber_5 fu fu x1 (0 : Int64) x1 v
set_option maxHeartbeats 4000000 in
set_option maxRecDepth 100000 in
theorem t_X8_scanNumber_0 {G : GG} {p : Program} {l : Launch} {e : Env} {s : State} {m : MethodId} {args : Array Value} {below : List Frame} {meth : Method} {c : Code} {S : ST} {fu : Nat} {z : Int32 × GV} {a : Nat} {v0 : GV}  {v : GV} {x1 : Int32} (hM : MC G p s m args c cX8_scanNumber w_X8_scanNumber RX8) (hml : c.maxLocals = 5) (hr : meth.sig.returnType = (some .int)) (hlk : meth.locks = false) (hc0 : gC v0 = 8)  (hf : f_X8_scanNumber_0 fu  v  x1 = some z) : (gC v = 8) → ∀ (H : Heap) (locs : List Loc), WB G (st S a v) s H locs → ∀ (ls : Array Slot), lv_has ls 5 [(0, .ref a), (1, .int x1)] → W p l e RM_X8_scanNumber s m args below meth c H locs 0 0 (QR G below args s (some (.int z.1)) (st S a v0) (st S a z.2)) (F0 m 0 ls []) := by
  intro hc H locs hW ls hl
  have hx := hM.1
  have hb := hM.2.1
  refine lv_lconst (v := (0 : Int64)) hx hb dX8_scanNumber_0 (by decide) ?_
  refine lv_lstore_n (lv' := [(2, .long (0 : Int64)), (0, .ref a), (1, .int x1)]) hx hb dX8_scanNumber_1 rfl hl (by decide) rfl (fun ls hl => ?_)
  refine lv_iload_n hx hb dX8_scanNumber_2 rfl (lv_at hl 2 rfl) ?_
  refine lv_istore (lv' := [(4, .int x1), (2, .long (0 : Int64)), (0, .ref a), (1, .int x1)]) hx hb dX8_scanNumber_3 hl (by decide) rfl (fun ls hl => ?_)
  exact t_X8_scanNumber_5 (fu := fu) hM hml hr hlk hc0 _ _ _ hf hc _ _ hW _ (lv_sub hl [2, 3, 1, 0] rfl)
noncomputable def f_X8_scanNumber (fu : Nat) (v : GV) (x1 : Int32) : Option (Int32 × GV) := f_X8_scanNumber_0 fu v x1
set_option maxHeartbeats 4000000 in
set_option maxRecDepth 100000 in
theorem c_X8_scanNumber (l : Launch) (G : GG) (fu : Nat) (S : ST) (a : Nat) (v : GV) (x1 : Int32) {z : Int32} {w : GV} (hc : gC v = 8) (hf : f_X8_scanNumber fu v x1 = some (z, w)) : Ct l yX8_scanNumber w_X8_scanNumber RM_X8_scanNumber G (st S a v) [.ref a, .int x1] (some (.int z)) (st S a w) 0 0 := by
  refine Met.ofW (cc := cX8_scanNumber) (maxL := 5) (ret := (some .int)) (by decide) rfl ?_
  intro p e s m args below meth c s₁ B hml hv
  obtain ⟨rfl, hB, hK, hz⟩ := hv
  have hM : MC G p s m _ c cX8_scanNumber w_X8_scanNumber RX8 := ⟨B.exec, B.bytes, findClass_of_methodNamed B.named, atoms_spec (ws := w_X8_scanNumber) B.pre, hK, hz⟩
  have hW : WB G (st S a v) s s.heap [] := ⟨hB, va_S.rf⟩
  have hl := lv_entry ([.ref a, .int x1]) (n := 5) (Nat.le_of_ble_eq_true rfl)
  rw [lg_entry_eq]
  generalize (lg_sl ([.ref a, .int x1]) ++ List.replicate (5 - (lg_sl ([.ref a, .int x1])).length) Slot.unset).toArray = ls at hl ⊢
  have hl : lv_has ls 5 [(0, .ref a), (1, .int x1)] := hl
  exact t_X8_scanNumber_0 (fu := fu) hM hml B.returns B.notSynchronized hc hf hc _ _ hW _ (lv_sub hl [0, 1] rfl)
abbrev RM_J0_isLatin1_aae02 : Room := { frames := 0, cells := 0, slots := 0, locals := 0 }
abbrev w_J0_isLatin1_aae02 : List Cond := Cond.code yJ0_isLatin1_aae02 cJ0_isLatin1_aae02 1 (some .boolean) :: wsL_law0
noncomputable def f_J0_isLatin1_aae02_17 (fu : Nat)  : Option (Int32) :=
  some ((0 : Int32))
set_option maxHeartbeats 4000000 in
set_option maxRecDepth 100000 in
theorem t_J0_isLatin1_aae02_17 {G : GG} {p : Program} {l : Launch} {e : Env} {s : State} {m : MethodId} {args : Array Value} {below : List Frame} {meth : Method} {c : Code} {S : ST} {fu : Nat} {z : Int32}  (hM : MC G p s m args c cJ0_isLatin1_aae02 w_J0_isLatin1_aae02 RJ0) (hml : c.maxLocals = 1) (hr : meth.sig.returnType = (some .boolean)) (hlk : meth.locks = false)   (hf : f_J0_isLatin1_aae02_17 fu     = some z) : ∀ (H : Heap) (locs : List Loc), WB G S s H locs → ∀ (ls : Array Slot), lv_has ls 1 [] → W p l e RM_J0_isLatin1_aae02 s m args below meth c H locs 0 0 (QR G below args s (some (.int z)) S S) (F0 m 17 ls []) := by
  intro  H locs hW ls hl
  have hx := hM.1
  have hb := hM.2.1
  refine lv_iconst (v := (0 : Int32)) hx hb dJ0_isLatin1_aae02_17 (by decide) ?_
  cases hf
  exact W.zret (v := (0 : Int32)) hx hb hr (by decide) (b_ret0 hW (fun _ _ => rfl) _) hW.2.2.2 dJ0_isLatin1_aae02_18 hlk
noncomputable def f_J0_isLatin1_aae02_0 (fu : Nat)  : Option (Int32) :=
  if (1 : Int32) = 0 then
    (f_J0_isLatin1_aae02_17 fu)
  else
    (if (0 : Int32) = 0 then
      (some ((1 : Int32)))
    else
      (f_J0_isLatin1_aae02_17 fu))
set_option maxHeartbeats 4000000 in
set_option maxRecDepth 100000 in
theorem t_J0_isLatin1_aae02_0 {G : GG} {p : Program} {l : Launch} {e : Env} {s : State} {m : MethodId} {args : Array Value} {below : List Frame} {meth : Method} {c : Code} {S : ST} {fu : Nat} {z : Int32}  (hM : MC G p s m args c cJ0_isLatin1_aae02 w_J0_isLatin1_aae02 RJ0) (hml : c.maxLocals = 1) (hr : meth.sig.returnType = (some .boolean)) (hlk : meth.locks = false)   (hf : f_J0_isLatin1_aae02_0 fu     = some z) : ∀ (H : Heap) (locs : List Loc), WB G S s H locs → ∀ (ls : Array Slot), lv_has ls 1 [(0, .ref (kAd G 33))] → W p l e RM_J0_isLatin1_aae02 s m args below meth c H locs 0 0 (QR G below args s (some (.int z)) S S) (F0 m 0 ls []) := by
  intro  H locs hW ls hl
  have hx := hM.1
  have hb := hM.2.1
  refine k_cs hM hW (wgm fk_RJ0_38) dJ0_isLatin1_aae02_0 ?_
  refine lv_if_eq (tgt := 17) hx hb dJ0_isLatin1_aae02_3 (by decide) (fun c1 => ?_) (fun c1 => ?_)
  · have hf := if_t c1 hf
    exact t_J0_isLatin1_aae02_17 (fu := fu) hM hml hr hlk hf _ _ hW _ (lv_sub hl [] rfl)
  · have hf := if_f c1 hf
    refine lv_aload_n hx hb dJ0_isLatin1_aae02_6 rfl (lv_at hl 0 rfl) ?_
    refine k_cod hM hW (wgm fk_RJ0_15) dJ0_isLatin1_aae02_7 ?_
    refine lv_if_ne (tgt := 17) hx hb dJ0_isLatin1_aae02_10 (by decide) (fun c2 => ?_) (fun c2 => ?_)
    · have hf := if_f c2 hf
      exact t_J0_isLatin1_aae02_17 (fu := fu) hM hml hr hlk hf _ _ hW _ (lv_sub hl [] rfl)
    · have hf := if_t c2 hf
      refine lv_iconst (v := (1 : Int32)) hx hb dJ0_isLatin1_aae02_13 (by decide) ?_
      refine lv_goto (tgt := 18) hx hb dJ0_isLatin1_aae02_14 (by decide) ?_
      cases hf
      exact W.zret (v := (1 : Int32)) hx hb hr (by decide) (b_ret0 hW (fun _ _ => rfl) _) hW.2.2.2 dJ0_isLatin1_aae02_18 hlk
noncomputable def f_J0_isLatin1_aae02 (fu : Nat) : Option (Int32) := f_J0_isLatin1_aae02_0 fu
set_option maxHeartbeats 4000000 in
set_option maxRecDepth 100000 in
theorem c_J0_isLatin1_aae02 (l : Launch) (G : GG) (fu : Nat) (S : ST) {z : Int32} (hf : f_J0_isLatin1_aae02 fu = some z) : Ct l yJ0_isLatin1_aae02 w_J0_isLatin1_aae02 RM_J0_isLatin1_aae02 G S [.ref (kAd G 33)] (some (.int z)) S 0 0 := by
  refine Met.ofW (cc := cJ0_isLatin1_aae02) (maxL := 1) (ret := (some .boolean)) (by decide) rfl ?_
  intro p e s m args below meth c s₁ B hml hv
  obtain ⟨rfl, hB, hK, hz⟩ := hv
  have hM : MC G p s m _ c cJ0_isLatin1_aae02 w_J0_isLatin1_aae02 RJ0 := ⟨B.exec, B.bytes, findClass_of_methodNamed B.named, atoms_spec (ws := w_J0_isLatin1_aae02) B.pre, hK, hz⟩
  have hW : WB G S s s.heap [] := ⟨hB, va_S.rf⟩
  have hl := lv_entry ([.ref (kAd G 33)]) (n := 1) (Nat.le_of_ble_eq_true rfl)
  rw [lg_entry_eq]
  generalize (lg_sl ([.ref (kAd G 33)]) ++ List.replicate (1 - (lg_sl ([.ref (kAd G 33)])).length) Slot.unset).toArray = ls at hl ⊢
  have hl : lv_has ls 1 [(0, .ref (kAd G 33))] := hl
  exact t_J0_isLatin1_aae02_0 (fu := fu) hM hml B.returns B.notSynchronized hf _ _ hW _ (lv_sub hl [0] rfl)
abbrev RM_J0_coder_7d493 : Room := { frames := 0, cells := 0, slots := 0, locals := 0 }
abbrev w_J0_coder_7d493 : List Cond := Cond.code yJ0_coder_7d493 cJ0_coder_7d493 1 (some .byte) :: wsL_law0
noncomputable def f_J0_coder_7d493_0 (fu : Nat)  : Option (Int32) :=
  if (1 : Int32) = 0 then
    (some ((1 : Int32)))
  else
    (some ((0 : Int32)))
set_option maxHeartbeats 4000000 in
set_option maxRecDepth 100000 in
theorem t_J0_coder_7d493_0 {G : GG} {p : Program} {l : Launch} {e : Env} {s : State} {m : MethodId} {args : Array Value} {below : List Frame} {meth : Method} {c : Code} {S : ST} {fu : Nat} {z : Int32}  (hM : MC G p s m args c cJ0_coder_7d493 w_J0_coder_7d493 RJ0) (hml : c.maxLocals = 1) (hr : meth.sig.returnType = (some .byte)) (hlk : meth.locks = false)   (hf : f_J0_coder_7d493_0 fu     = some z) : ∀ (H : Heap) (locs : List Loc), WB G S s H locs → ∀ (ls : Array Slot), lv_has ls 1 [(0, .ref (kAd G 33))] → W p l e RM_J0_coder_7d493 s m args below meth c H locs 0 0 (QR G below args s (some (.int z)) S S) (F0 m 0 ls []) := by
  intro  H locs hW ls hl
  have hx := hM.1
  have hb := hM.2.1
  refine k_cs hM hW (wgm fk_RJ0_38) dJ0_coder_7d493_0 ?_
  refine lv_if_eq (tgt := 13) hx hb dJ0_coder_7d493_3 (by decide) (fun c1 => ?_) (fun c1 => ?_)
  · have hf := if_t c1 hf
    refine lv_iconst (v := (1 : Int32)) hx hb dJ0_coder_7d493_13 (by decide) ?_
    cases hf
    exact W.zret (v := (1 : Int32)) hx hb hr (by decide) (b_ret0 hW (fun _ _ => rfl) _) hW.2.2.2 dJ0_coder_7d493_14 hlk
  · have hf := if_f c1 hf
    refine lv_aload_n hx hb dJ0_coder_7d493_6 rfl (lv_at hl 0 rfl) ?_
    refine k_cod hM hW (wgm fk_RJ0_15) dJ0_coder_7d493_7 ?_
    refine lv_goto (tgt := 14) hx hb dJ0_coder_7d493_10 (by decide) ?_
    cases hf
    exact W.zret (v := (0 : Int32)) hx hb hr (by decide) (b_ret0 hW (fun _ _ => rfl) _) hW.2.2.2 dJ0_coder_7d493_14 hlk
noncomputable def f_J0_coder_7d493 (fu : Nat) : Option (Int32) := f_J0_coder_7d493_0 fu
set_option maxHeartbeats 4000000 in
set_option maxRecDepth 100000 in
theorem c_J0_coder_7d493 (l : Launch) (G : GG) (fu : Nat) (S : ST) {z : Int32} (hf : f_J0_coder_7d493 fu = some z) : Ct l yJ0_coder_7d493 w_J0_coder_7d493 RM_J0_coder_7d493 G S [.ref (kAd G 33)] (some (.int z)) S 0 0 := by
  refine Met.ofW (cc := cJ0_coder_7d493) (maxL := 1) (ret := (some .byte)) (by decide) rfl ?_
  intro p e s m args below meth c s₁ B hml hv
  obtain ⟨rfl, hB, hK, hz⟩ := hv
  have hM : MC G p s m _ c cJ0_coder_7d493 w_J0_coder_7d493 RJ0 := ⟨B.exec, B.bytes, findClass_of_methodNamed B.named, atoms_spec (ws := w_J0_coder_7d493) B.pre, hK, hz⟩
  have hW : WB G S s s.heap [] := ⟨hB, va_S.rf⟩
  have hl := lv_entry ([.ref (kAd G 33)]) (n := 1) (Nat.le_of_ble_eq_true rfl)
  rw [lg_entry_eq]
  generalize (lg_sl ([.ref (kAd G 33)]) ++ List.replicate (1 - (lg_sl ([.ref (kAd G 33)])).length) Slot.unset).toArray = ls at hl ⊢
  have hl : lv_has ls 1 [(0, .ref (kAd G 33))] := hl
  exact t_J0_coder_7d493_0 (fu := fu) hM hml B.returns B.notSynchronized hf _ _ hW _ (lv_sub hl [0] rfl)
abbrev RM_J0_length_8abf5 : Room := { frames := 1, cells := 0, slots := 0, locals := 20 }
abbrev w_J0_length_8abf5 : List Cond := Cond.code yJ0_length_8abf5 cJ0_length_8abf5 1 (some .int) :: wsL_law0
noncomputable def f_J0_length_8abf5_0 (fu : Nat)  : Option (Int32) :=
  bd (f_J0_coder_7d493 fu) fun r1 =>
  some (((8 : Int32) >>> (r1 &&& 31)))
set_option maxHeartbeats 4000000 in
set_option maxRecDepth 100000 in
theorem t_J0_length_8abf5_0 {G : GG} {p : Program} {l : Launch} {e : Env} {s : State} {m : MethodId} {args : Array Value} {below : List Frame} {meth : Method} {c : Code} {S : ST} {fu : Nat} {z : Int32}  (hM : MC G p s m args c cJ0_length_8abf5 w_J0_length_8abf5 RJ0) (hml : c.maxLocals = 1) (hr : meth.sig.returnType = (some .int)) (hlk : meth.locks = false)   (hf : f_J0_length_8abf5_0 fu     = some z) : ∀ (H : Heap) (locs : List Loc), WB G S s H locs → ∀ (ls : Array Slot), lv_has ls 1 [(0, .ref (kAd G 33))] → W p l e RM_J0_length_8abf5 s m args below meth c H locs 0 0 (QR G below args s (some (.int z)) S S) (F0 m 0 ls []) := by
  intro  H locs hW ls hl
  have hx := hM.1
  have hb := hM.2.1
  refine lv_aload_n hx hb dJ0_length_8abf5_0 rfl (lv_at hl 0 rfl) ?_
  refine k_val hM hW (wgm fk_RJ0_9) dJ0_length_8abf5_1 ?_
  refine k_blen hM hW dJ0_length_8abf5_4 ?_
  refine lv_aload_n hx hb dJ0_length_8abf5_5 rfl (lv_at hl 0 rfl) ?_
  obtain ⟨r1, hr1, hf⟩ := bd_elim hf
  refine k_callC [] [.int (8 : Int32)] hM hml hl.1 hW (c_J0_coder_7d493 l G fu _ hr1) (cwV 0 hM.2.2.2.1 (gV mk_RJ0_335 im_J0_coder_7d493 se_J0_coder_7d493 it_RJ0 cd_J0_coder_7d493) rfl rfl rfl (by decide +kernel) ⟨Nat.le_of_ble_eq_true rfl, Nat.le_of_ble_eq_true rfl⟩) rfl rfl (Nat.le_of_ble_eq_true rfl) ⟨Nat.zero_le _, Nat.zero_le _⟩ dJ0_length_8abf5_6 (fun H locs hW hk => ?_)
  refine lv_ishr hx hb dJ0_length_8abf5_9 ?_
  cases hf
  exact W.iret hx hb hr (b_ret0 hW (fun _ _ => rfl) _) hW.2.2.2 dJ0_length_8abf5_10 hlk
noncomputable def f_J0_length_8abf5 (fu : Nat) : Option (Int32) := f_J0_length_8abf5_0 fu
set_option maxHeartbeats 4000000 in
set_option maxRecDepth 100000 in
theorem c_J0_length_8abf5 (l : Launch) (G : GG) (fu : Nat) (S : ST) {z : Int32} (hf : f_J0_length_8abf5 fu = some z) : Ct l yJ0_length_8abf5 w_J0_length_8abf5 RM_J0_length_8abf5 G S [.ref (kAd G 33)] (some (.int z)) S 0 0 := by
  refine Met.ofW (cc := cJ0_length_8abf5) (maxL := 1) (ret := (some .int)) (by decide) rfl ?_
  intro p e s m args below meth c s₁ B hml hv
  obtain ⟨rfl, hB, hK, hz⟩ := hv
  have hM : MC G p s m _ c cJ0_length_8abf5 w_J0_length_8abf5 RJ0 := ⟨B.exec, B.bytes, findClass_of_methodNamed B.named, atoms_spec (ws := w_J0_length_8abf5) B.pre, hK, hz⟩
  have hW : WB G S s s.heap [] := ⟨hB, va_S.rf⟩
  have hl := lv_entry ([.ref (kAd G 33)]) (n := 1) (Nat.le_of_ble_eq_true rfl)
  rw [lg_entry_eq]
  generalize (lg_sl ([.ref (kAd G 33)]) ++ List.replicate (1 - (lg_sl ([.ref (kAd G 33)])).length) Slot.unset).toArray = ls at hl ⊢
  have hl : lv_has ls 1 [(0, .ref (kAd G 33))] := hl
  exact t_J0_length_8abf5_0 (fu := fu) hM hml B.returns B.notSynchronized hf _ _ hW _ (lv_sub hl [0] rfl)
abbrev RM_J1_canEncode_9a6ad : Room := { frames := 0, cells := 0, slots := 0, locals := 0 }
abbrev w_J1_canEncode_9a6ad : List Cond := Cond.code yJ1_canEncode_9a6ad cJ1_canEncode_9a6ad 1 (some .boolean) :: wsL_law0
noncomputable def f_J1_canEncode_9a6ad_15 (fu : Nat)  : Option (Int32) :=
  some ((0 : Int32))
set_option maxHeartbeats 4000000 in
set_option maxRecDepth 100000 in
theorem t_J1_canEncode_9a6ad_15 {G : GG} {p : Program} {l : Launch} {e : Env} {s : State} {m : MethodId} {args : Array Value} {below : List Frame} {meth : Method} {c : Code} {S : ST} {fu : Nat} {z : Int32}  (hM : MC G p s m args c cJ1_canEncode_9a6ad w_J1_canEncode_9a6ad RJ1) (hml : c.maxLocals = 1) (hr : meth.sig.returnType = (some .boolean)) (hlk : meth.locks = false)   (hf : f_J1_canEncode_9a6ad_15 fu     = some z) : ∀ (H : Heap) (locs : List Loc), WB G S s H locs → ∀ (ls : Array Slot), lv_has ls 1 [] → W p l e RM_J1_canEncode_9a6ad s m args below meth c H locs 0 0 (QR G below args s (some (.int z)) S S) (F0 m 15 ls []) := by
  intro  H locs hW ls hl
  have hx := hM.1
  have hb := hM.2.1
  refine lv_iconst (v := (0 : Int32)) hx hb dJ1_canEncode_9a6ad_15 (by decide) ?_
  cases hf
  exact W.zret (v := (0 : Int32)) hx hb hr (by decide) (b_ret0 hW (fun _ _ => rfl) _) hW.2.2.2 dJ1_canEncode_9a6ad_16 hlk
noncomputable def f_J1_canEncode_9a6ad_0 (fu : Nat)  (x0 : Int32) : Option (Int32) :=
  if x0 < 0 then
    (f_J1_canEncode_9a6ad_15 fu)
  else
    (if (255 : Int32) < x0 then
      (f_J1_canEncode_9a6ad_15 fu)
    else
      (some ((1 : Int32))))
set_option maxHeartbeats 4000000 in
set_option maxRecDepth 100000 in
theorem t_J1_canEncode_9a6ad_0 {G : GG} {p : Program} {l : Launch} {e : Env} {s : State} {m : MethodId} {args : Array Value} {below : List Frame} {meth : Method} {c : Code} {S : ST} {fu : Nat} {z : Int32}  {x0 : Int32} (hM : MC G p s m args c cJ1_canEncode_9a6ad w_J1_canEncode_9a6ad RJ1) (hml : c.maxLocals = 1) (hr : meth.sig.returnType = (some .boolean)) (hlk : meth.locks = false)   (hf : f_J1_canEncode_9a6ad_0 fu    x0 = some z) : ∀ (H : Heap) (locs : List Loc), WB G S s H locs → ∀ (ls : Array Slot), lv_has ls 1 [(0, .int x0)] → W p l e RM_J1_canEncode_9a6ad s m args below meth c H locs 0 0 (QR G below args s (some (.int z)) S S) (F0 m 0 ls []) := by
  intro  H locs hW ls hl
  have hx := hM.1
  have hb := hM.2.1
  refine lv_iload_n hx hb dJ1_canEncode_9a6ad_0 rfl (lv_at hl 0 rfl) ?_
  refine lv_if_lt (tgt := 15) hx hb dJ1_canEncode_9a6ad_1 (by decide) (fun c1 => ?_) (fun c1 => ?_)
  · have hf := if_t c1 hf
    exact t_J1_canEncode_9a6ad_15 (fu := fu) hM hml hr hlk hf _ _ hW _ (lv_sub hl [] rfl)
  · have hf := if_f c1 hf
    refine lv_iload_n hx hb dJ1_canEncode_9a6ad_4 rfl (lv_at hl 0 rfl) ?_
    refine lv_sipush (v := (255 : Int32)) hx hb dJ1_canEncode_9a6ad_5 (by decide) ?_
    refine lv_icmp_gt (tgt := 15) hx hb dJ1_canEncode_9a6ad_8 (by decide) (fun c2 => ?_) (fun c2 => ?_)
    · have hf := if_t c2 hf
      exact t_J1_canEncode_9a6ad_15 (fu := fu) hM hml hr hlk hf _ _ hW _ (lv_sub hl [] rfl)
    · have hf := if_f c2 hf
      refine lv_iconst (v := (1 : Int32)) hx hb dJ1_canEncode_9a6ad_11 (by decide) ?_
      refine lv_goto (tgt := 16) hx hb dJ1_canEncode_9a6ad_12 (by decide) ?_
      cases hf
      exact W.zret (v := (1 : Int32)) hx hb hr (by decide) (b_ret0 hW (fun _ _ => rfl) _) hW.2.2.2 dJ1_canEncode_9a6ad_16 hlk
noncomputable def f_J1_canEncode_9a6ad (fu : Nat) (x0 : Int32) : Option (Int32) := f_J1_canEncode_9a6ad_0 fu x0
set_option maxHeartbeats 4000000 in
set_option maxRecDepth 100000 in
theorem c_J1_canEncode_9a6ad (l : Launch) (G : GG) (fu : Nat) (S : ST) (x0 : Int32) {z : Int32} (hf : f_J1_canEncode_9a6ad fu x0 = some z) : Ct l yJ1_canEncode_9a6ad w_J1_canEncode_9a6ad RM_J1_canEncode_9a6ad G S [.int x0] (some (.int z)) S 0 0 := by
  refine Met.ofW (cc := cJ1_canEncode_9a6ad) (maxL := 1) (ret := (some .boolean)) (by decide) rfl ?_
  intro p e s m args below meth c s₁ B hml hv
  obtain ⟨rfl, hB, hK, hz⟩ := hv
  have hM : MC G p s m _ c cJ1_canEncode_9a6ad w_J1_canEncode_9a6ad RJ1 := ⟨B.exec, B.bytes, findClass_of_methodNamed B.named, atoms_spec (ws := w_J1_canEncode_9a6ad) B.pre, hK, hz⟩
  have hW : WB G S s s.heap [] := ⟨hB, va_S.rf⟩
  have hl := lv_entry ([.int x0]) (n := 1) (Nat.le_of_ble_eq_true rfl)
  rw [lg_entry_eq]
  generalize (lg_sl ([.int x0]) ++ List.replicate (1 - (lg_sl ([.int x0])).length) Slot.unset).toArray = ls at hl ⊢
  have hl : lv_has ls 1 [(0, .int x0)] := hl
  exact t_J1_canEncode_9a6ad_0 (fu := fu) hM hml B.returns B.notSynchronized hf _ _ hW _ (lv_sub hl [0] rfl)
abbrev RM_J1_indexOfChar_4cfef : Room := { frames := 0, cells := 0, slots := 0, locals := 0 }
abbrev w_J1_indexOfChar_4cfef : List Cond := Cond.code yJ1_indexOfChar_4cfef cJ1_indexOfChar_4cfef 6 (some .int) :: wsL_law0
noncomputable def f_J1_indexOfChar_4cfef_7s (fu : Nat)  (k7 : Int32 → Option (Int32)) (x3 : Int32) (x4 : Int32) (x5 : Int32) : Option (Int32) :=
  if x3 ≤ x5 then
    (some ((-1 : Int32)))
  else
    (ck (inb x5 8) <|
    if (sgn.getD x5.toNatClampNeg 0) = x4 then
      (some (x5))
    else
      (nm (x5 + (1 : Int32)) fun y4 =>
      k7 y4))
noncomputable def f_J1_indexOfChar_4cfef_7 (fu n : Nat)  (x3 : Int32) (x4 : Int32) : Int32 → Option (Int32) :=
  lq_1 (fun k7 => f_J1_indexOfChar_4cfef_7s fu  k7   x3 x4) n
set_option maxHeartbeats 4000000 in
set_option maxRecDepth 100000 in
theorem t_J1_indexOfChar_4cfef_7s {G : GG} {p : Program} {l : Launch} {e : Env} {s : State} {m : MethodId} {args : Array Value} {below : List Frame} {meth : Method} {c : Code} {S : ST} {fu : Nat} {z : Int32}  {k7 : Int32 → Option (Int32)} {x3 : Int32} {x4 : Int32} (hM : MC G p s m args c cJ1_indexOfChar_4cfef w_J1_indexOfChar_4cfef RJ1) (hml : c.maxLocals = 6) (hr : meth.sig.returnType = (some .int)) (hlk : meth.locks = false)   (hk7 : ∀ (x5 : Int32), k7 x5 = some z → ∀ (H : Heap) (locs : List Loc), WB G S s H locs → ∀ (ls : Array Slot), lv_has ls 6 [(0, .ref (kAd G 34)), (3, .int x3), (4, .int x4), (5, .int x5)] → W p l e RM_J1_indexOfChar_4cfef s m args below meth c H locs 0 0 (QR G below args s (some (.int z)) S S) (F0 m 7 ls [])) : ∀ (x5 : Int32), f_J1_indexOfChar_4cfef_7s fu  k7   x3 x4 x5 = some z → ∀ (H : Heap) (locs : List Loc), WB G S s H locs → ∀ (ls : Array Slot), lv_has ls 6 [(0, .ref (kAd G 34)), (3, .int x3), (4, .int x4), (5, .int x5)] → W p l e RM_J1_indexOfChar_4cfef s m args below meth c H locs 0 0 (QR G below args s (some (.int z)) S S) (F0 m 7 ls []) := by
  intro x5 hf  H locs hW ls hl
  have hx := hM.1
  have hb := hM.2.1
  refine lv_iload hx hb dJ1_indexOfChar_4cfef_7 (lv_at hl 3 rfl) ?_
  refine lv_iload_n hx hb dJ1_indexOfChar_4cfef_9 rfl (lv_at hl 1 rfl) ?_
  refine lv_icmp_ge (tgt := 31) hx hb dJ1_indexOfChar_4cfef_10 (by decide) (fun c1 => ?_) (fun c1 => ?_)
  · have hf := if_t c1 hf
    refine lv_iconst (v := (-1 : Int32)) hx hb dJ1_indexOfChar_4cfef_31 (by decide) ?_
    cases hf
    exact W.iret hx hb hr (b_ret0 hW (fun _ _ => rfl) _) hW.2.2.2 dJ1_indexOfChar_4cfef_32 hlk
  · have hf := if_f c1 hf
    refine lv_aload_n hx hb dJ1_indexOfChar_4cfef_13 rfl (lv_at hl 0 rfl) ?_
    refine lv_iload hx hb dJ1_indexOfChar_4cfef_14 (lv_at hl 3 rfl) ?_
    obtain ⟨h2, hf⟩ := ck_elim hf
    refine k_bsg hM hW h2 dJ1_indexOfChar_4cfef_16 ?_
    refine lv_iload hx hb dJ1_indexOfChar_4cfef_17 (lv_at hl 2 rfl) ?_
    refine lv_icmp_ne (tgt := 25) hx hb dJ1_indexOfChar_4cfef_19 (by decide) (fun c3 => ?_) (fun c3 => ?_)
    · have hf := if_f c3 hf
      obtain ⟨y4, ey4⟩ : ∃ y : Int32, y = x5 + (1 : Int32) := ⟨_, rfl⟩
      have hf := nm_at ey4 hf
      refine lv_iinc (v := y4) (lv' := [(5, .int y4), (0, .ref (kAd G 34)), (3, .int x3), (4, .int x4)]) hx hb dJ1_indexOfChar_4cfef_25 hl (k := 3) rfl (by rw [ey4]; rfl) (by decide) rfl (fun ls hl => ?_)
      refine lv_goto (tgt := 7) hx hb dJ1_indexOfChar_4cfef_28 (by decide) ?_
      exact hk7 _ hf _ _ hW _ (lv_sub hl [1, 2, 3, 0] rfl)
    · have hf := if_t c3 hf
      refine lv_iload hx hb dJ1_indexOfChar_4cfef_22 (lv_at hl 3 rfl) ?_
      cases hf
      exact W.iret hx hb hr (b_ret0 hW (fun _ _ => rfl) _) hW.2.2.2 dJ1_indexOfChar_4cfef_24 hlk
theorem t_J1_indexOfChar_4cfef_7 {G : GG} {p : Program} {l : Launch} {e : Env} {s : State} {m : MethodId} {args : Array Value} {below : List Frame} {meth : Method} {c : Code} {S : ST} {fu : Nat} {z : Int32}  {x3 : Int32} {x4 : Int32} (hM : MC G p s m args c cJ1_indexOfChar_4cfef w_J1_indexOfChar_4cfef RJ1) (hml : c.maxLocals = 6) (hr : meth.sig.returnType = (some .int)) (hlk : meth.locks = false)   : ∀ {n : Nat} (x5 : Int32), f_J1_indexOfChar_4cfef_7 fu n    x3 x4 x5 = some z → ∀ (H : Heap) (locs : List Loc), WB G S s H locs → ∀ (ls : Array Slot), lv_has ls 6 [(0, .ref (kAd G 34)), (3, .int x3), (4, .int x4), (5, .int x5)] → W p l e RM_J1_indexOfChar_4cfef s m args below meth c H locs 0 0 (QR G below args s (some (.int z)) S S) (F0 m 7 ls []) := by
  intro n
  induction n with
  | zero => intro x5 hf; cases hf
  | succ n ih => intro x5 hf; exact t_J1_indexOfChar_4cfef_7s (fu := fu) hM hml hr hlk (k7 := f_J1_indexOfChar_4cfef_7 fu n    x3 x4) ih _ hf
noncomputable def f_J1_indexOfChar_4cfef_0 (fu : Nat)  (x1 : Int32) (x2 : Int32) (x3 : Int32) : Option (Int32) :=
  nm ((x1).toInt8.toInt32) fun y1 =>
  f_J1_indexOfChar_4cfef_7 fu fu x3 y1 x2
set_option maxHeartbeats 4000000 in
set_option maxRecDepth 100000 in
theorem t_J1_indexOfChar_4cfef_0 {G : GG} {p : Program} {l : Launch} {e : Env} {s : State} {m : MethodId} {args : Array Value} {below : List Frame} {meth : Method} {c : Code} {S : ST} {fu : Nat} {z : Int32}  {x1 : Int32} {x2 : Int32} {x3 : Int32} (hM : MC G p s m args c cJ1_indexOfChar_4cfef w_J1_indexOfChar_4cfef RJ1) (hml : c.maxLocals = 6) (hr : meth.sig.returnType = (some .int)) (hlk : meth.locks = false)   (hf : f_J1_indexOfChar_4cfef_0 fu    x1 x2 x3 = some z) : ∀ (H : Heap) (locs : List Loc), WB G S s H locs → ∀ (ls : Array Slot), lv_has ls 6 [(0, .ref (kAd G 34)), (1, .int x1), (2, .int x2), (3, .int x3)] → W p l e RM_J1_indexOfChar_4cfef s m args below meth c H locs 0 0 (QR G below args s (some (.int z)) S S) (F0 m 0 ls []) := by
  intro  H locs hW ls hl
  have hx := hM.1
  have hb := hM.2.1
  refine lv_iload_n hx hb dJ1_indexOfChar_4cfef_0 rfl (lv_at hl 1 rfl) ?_
  refine lv_i2b hx hb dJ1_indexOfChar_4cfef_1 rfl ?_
  refine lv_topi (fun y1 ey1 => ?_)
  have hf := nm_at ey1 hf
  refine lv_istore (lv' := [(4, .int y1), (0, .ref (kAd G 34)), (1, .int x1), (2, .int x2), (3, .int x3)]) hx hb dJ1_indexOfChar_4cfef_2 hl (by decide) rfl (fun ls hl => ?_)
  refine lv_iload_n hx hb dJ1_indexOfChar_4cfef_4 rfl (lv_at hl 3 rfl) ?_
  refine lv_istore (lv' := [(5, .int x2), (4, .int y1), (0, .ref (kAd G 34)), (1, .int x1), (2, .int x2), (3, .int x3)]) hx hb dJ1_indexOfChar_4cfef_5 hl (by decide) rfl (fun ls hl => ?_)
  exact t_J1_indexOfChar_4cfef_7 (fu := fu) hM hml hr hlk _ hf _ _ hW _ (lv_sub hl [2, 5, 1, 0] rfl)
noncomputable def f_J1_indexOfChar_4cfef (fu : Nat) (x1 : Int32) (x2 : Int32) (x3 : Int32) : Option (Int32) := f_J1_indexOfChar_4cfef_0 fu x1 x2 x3
set_option maxHeartbeats 4000000 in
set_option maxRecDepth 100000 in
theorem c_J1_indexOfChar_4cfef (l : Launch) (G : GG) (fu : Nat) (S : ST) (x1 : Int32) (x2 : Int32) (x3 : Int32) {z : Int32} (hf : f_J1_indexOfChar_4cfef fu x1 x2 x3 = some z) : Ct l yJ1_indexOfChar_4cfef w_J1_indexOfChar_4cfef RM_J1_indexOfChar_4cfef G S [.ref (kAd G 34), .int x1, .int x2, .int x3] (some (.int z)) S 0 0 := by
  refine Met.ofW (cc := cJ1_indexOfChar_4cfef) (maxL := 6) (ret := (some .int)) (by decide) rfl ?_
  intro p e s m args below meth c s₁ B hml hv
  obtain ⟨rfl, hB, hK, hz⟩ := hv
  have hM : MC G p s m _ c cJ1_indexOfChar_4cfef w_J1_indexOfChar_4cfef RJ1 := ⟨B.exec, B.bytes, findClass_of_methodNamed B.named, atoms_spec (ws := w_J1_indexOfChar_4cfef) B.pre, hK, hz⟩
  have hW : WB G S s s.heap [] := ⟨hB, va_S.rf⟩
  have hl := lv_entry ([.ref (kAd G 34), .int x1, .int x2, .int x3]) (n := 6) (Nat.le_of_ble_eq_true rfl)
  rw [lg_entry_eq]
  generalize (lg_sl ([.ref (kAd G 34), .int x1, .int x2, .int x3]) ++ List.replicate (6 - (lg_sl ([.ref (kAd G 34), .int x1, .int x2, .int x3])).length) Slot.unset).toArray = ls at hl ⊢
  have hl : lv_has ls 6 [(0, .ref (kAd G 34)), (1, .int x1), (2, .int x2), (3, .int x3)] := hl
  exact t_J1_indexOfChar_4cfef_0 (fu := fu) hM hml B.returns B.notSynchronized hf _ _ hW _ (lv_sub hl [0, 1, 2, 3] rfl)
abbrev RM_J1_indexOf_4cfef : Room := { frames := 1, cells := 0, slots := 0, locals := 25 }
abbrev w_J1_indexOf_4cfef : List Cond := Cond.code yJ1_indexOf_4cfef cJ1_indexOf_4cfef 4 (some .int) :: wsL_law0
noncomputable def f_J1_indexOf_4cfef_0 (fu : Nat)  (x1 : Int32) (x2 : Int32) (x3 : Int32) : Option (Int32) :=
  bd (f_J1_canEncode_9a6ad fu x1) fun r1 =>
  if r1 = 0 then
    (some ((-1 : Int32)))
  else
    (nm ((if x2 < (0 : Int32) then (0 : Int32) else x2)) fun y3 =>
    nm ((if (8 : Int32) < x3 then (8 : Int32) else x3)) fun y4 =>
    if y3 < y4 then
      (bd (f_J1_indexOfChar_4cfef fu x1 y3 y4) fun r6 =>
      some (r6))
    else
      (some ((-1 : Int32))))
set_option maxHeartbeats 4000000 in
set_option maxRecDepth 100000 in
theorem t_J1_indexOf_4cfef_0 {G : GG} {p : Program} {l : Launch} {e : Env} {s : State} {m : MethodId} {args : Array Value} {below : List Frame} {meth : Method} {c : Code} {S : ST} {fu : Nat} {z : Int32}  {x1 : Int32} {x2 : Int32} {x3 : Int32} (hM : MC G p s m args c cJ1_indexOf_4cfef w_J1_indexOf_4cfef RJ1) (hml : c.maxLocals = 4) (hr : meth.sig.returnType = (some .int)) (hlk : meth.locks = false)   (hf : f_J1_indexOf_4cfef_0 fu    x1 x2 x3 = some z) : ∀ (H : Heap) (locs : List Loc), WB G S s H locs → ∀ (ls : Array Slot), lv_has ls 4 [(0, .ref (kAd G 34)), (1, .int x1), (2, .int x2), (3, .int x3)] → W p l e RM_J1_indexOf_4cfef s m args below meth c H locs 0 0 (QR G below args s (some (.int z)) S S) (F0 m 0 ls []) := by
  intro  H locs hW ls hl
  have hx := hM.1
  have hb := hM.2.1
  refine lv_iload_n hx hb dJ1_indexOf_4cfef_0 rfl (lv_at hl 1 rfl) ?_
  obtain ⟨r1, hr1, hf⟩ := bd_elim hf
  refine s_callSi [.int x1] [] hM hml hl.1 hW (c_J1_canEncode_9a6ad l G fu _ _ hr1) (va_cwS 1 hM.2.2.2.1 (gS mk_RJ1_88 sm_J1_canEncode_9a6ad it_RJ1 cd_J1_canEncode_9a6ad) rfl rfl rfl (by decide +kernel) ⟨Nat.le_of_ble_eq_true rfl, Nat.le_of_ble_eq_true rfl⟩) rfl rfl (Nat.le_of_ble_eq_true rfl) ⟨Nat.zero_le _, Nat.zero_le _⟩ dJ1_indexOf_4cfef_1 (fun H locs hW hk => ?_)
  refine lv_if_ne (tgt := 9) hx hb dJ1_indexOf_4cfef_4 (by decide) (fun c2 => ?_) (fun c2 => ?_)
  · have hf := if_f c2 hf
    refine lv_iload_n hx hb dJ1_indexOf_4cfef_9 rfl (lv_at hl 2 rfl) ?_
    refine lv_iconst (v := (0 : Int32)) hx hb dJ1_indexOf_4cfef_10 (by decide) ?_
    refine k_max hM hml hl.1 mk_RJ1_92 (Nat.le_of_ble_eq_true rfl) (Nat.le_of_ble_eq_true rfl) (Nat.zero_le _) (Nat.zero_le _) dJ1_indexOf_4cfef_11 ?_
    refine lv_topi (fun y3 ey3 => ?_)
    have hf := nm_at ey3 hf
    refine lv_istore_n (lv' := [(2, .int y3), (0, .ref (kAd G 34)), (1, .int x1), (3, .int x3)]) hx hb dJ1_indexOf_4cfef_14 rfl hl (by decide) rfl (fun ls hl => ?_)
    refine lv_iload_n hx hb dJ1_indexOf_4cfef_15 rfl (lv_at hl 3 rfl) ?_
    refine lv_aload_n hx hb dJ1_indexOf_4cfef_16 rfl (lv_at hl 1 rfl) ?_
    refine k_blen hM hW dJ1_indexOf_4cfef_17 ?_
    refine k_min hM hml hl.1 mk_RJ1_38 (Nat.le_of_ble_eq_true rfl) (Nat.le_of_ble_eq_true rfl) (Nat.zero_le _) (Nat.zero_le _) dJ1_indexOf_4cfef_18 ?_
    refine lv_topi (fun y4 ey4 => ?_)
    have hf := nm_at ey4 hf
    refine lv_istore_n (lv' := [(3, .int y4), (2, .int y3), (0, .ref (kAd G 34)), (1, .int x1)]) hx hb dJ1_indexOf_4cfef_21 rfl hl (by decide) rfl (fun ls hl => ?_)
    refine lv_iload_n hx hb dJ1_indexOf_4cfef_22 rfl (lv_at hl 1 rfl) ?_
    refine lv_iload_n hx hb dJ1_indexOf_4cfef_23 rfl (lv_at hl 0 rfl) ?_
    refine lv_icmp_lt (tgt := 29) hx hb dJ1_indexOf_4cfef_24 (by decide) (fun c5 => ?_) (fun c5 => ?_)
    · have hf := if_t c5 hf
      refine lv_aload_n hx hb dJ1_indexOf_4cfef_29 rfl (lv_at hl 2 rfl) ?_
      refine lv_iload_n hx hb dJ1_indexOf_4cfef_30 rfl (lv_at hl 3 rfl) ?_
      refine lv_iload_n hx hb dJ1_indexOf_4cfef_31 rfl (lv_at hl 1 rfl) ?_
      refine lv_iload_n hx hb dJ1_indexOf_4cfef_32 rfl (lv_at hl 0 rfl) ?_
      obtain ⟨r6, hr6, hf⟩ := bd_elim hf
      refine s_callSi [.ref (kAd G 34), .int x1, .int y3, .int y4] [] hM hml hl.1 hW (c_J1_indexOfChar_4cfef l G fu _ _ _ _ hr6) (va_cwS 4 hM.2.2.2.1 (gS mk_RJ1_95 sm_J1_indexOfChar_4cfef it_RJ1 cd_J1_indexOfChar_4cfef) rfl rfl rfl (by decide +kernel) ⟨Nat.le_of_ble_eq_true rfl, Nat.le_of_ble_eq_true rfl⟩) rfl rfl (Nat.le_of_ble_eq_true rfl) ⟨Nat.zero_le _, Nat.zero_le _⟩ dJ1_indexOf_4cfef_33 (fun H locs hW hk => ?_)
      cases hf
      exact W.iret hx hb hr (b_ret0 hW (fun _ _ => rfl) _) hW.2.2.2 dJ1_indexOf_4cfef_36 hlk
    · have hf := if_f c5 hf
      refine lv_iconst (v := (-1 : Int32)) hx hb dJ1_indexOf_4cfef_27 (by decide) ?_
      cases hf
      exact W.iret hx hb hr (b_ret0 hW (fun _ _ => rfl) _) hW.2.2.2 dJ1_indexOf_4cfef_28 hlk
  · have hf := if_t c2 hf
    refine lv_iconst (v := (-1 : Int32)) hx hb dJ1_indexOf_4cfef_7 (by decide) ?_
    cases hf
    exact W.iret hx hb hr (b_ret0 hW (fun _ _ => rfl) _) hW.2.2.2 dJ1_indexOf_4cfef_8 hlk
noncomputable def f_J1_indexOf_4cfef (fu : Nat) (x1 : Int32) (x2 : Int32) (x3 : Int32) : Option (Int32) := f_J1_indexOf_4cfef_0 fu x1 x2 x3
set_option maxHeartbeats 4000000 in
set_option maxRecDepth 100000 in
theorem c_J1_indexOf_4cfef (l : Launch) (G : GG) (fu : Nat) (S : ST) (x1 : Int32) (x2 : Int32) (x3 : Int32) {z : Int32} (hf : f_J1_indexOf_4cfef fu x1 x2 x3 = some z) : Ct l yJ1_indexOf_4cfef w_J1_indexOf_4cfef RM_J1_indexOf_4cfef G S [.ref (kAd G 34), .int x1, .int x2, .int x3] (some (.int z)) S 0 0 := by
  refine Met.ofW (cc := cJ1_indexOf_4cfef) (maxL := 4) (ret := (some .int)) (by decide) rfl ?_
  intro p e s m args below meth c s₁ B hml hv
  obtain ⟨rfl, hB, hK, hz⟩ := hv
  have hM : MC G p s m _ c cJ1_indexOf_4cfef w_J1_indexOf_4cfef RJ1 := ⟨B.exec, B.bytes, findClass_of_methodNamed B.named, atoms_spec (ws := w_J1_indexOf_4cfef) B.pre, hK, hz⟩
  have hW : WB G S s s.heap [] := ⟨hB, va_S.rf⟩
  have hl := lv_entry ([.ref (kAd G 34), .int x1, .int x2, .int x3]) (n := 4) (Nat.le_of_ble_eq_true rfl)
  rw [lg_entry_eq]
  generalize (lg_sl ([.ref (kAd G 34), .int x1, .int x2, .int x3]) ++ List.replicate (4 - (lg_sl ([.ref (kAd G 34), .int x1, .int x2, .int x3])).length) Slot.unset).toArray = ls at hl ⊢
  have hl : lv_has ls 4 [(0, .ref (kAd G 34)), (1, .int x1), (2, .int x2), (3, .int x3)] := hl
  exact t_J1_indexOf_4cfef_0 (fu := fu) hM hml B.returns B.notSynchronized hf _ _ hW _ (lv_sub hl [0, 1, 2, 3] rfl)
abbrev RM_J0_indexOf_7cf53 : Room := { frames := 2, cells := 0, slots := 0, locals := 48 }
abbrev w_J0_indexOf_7cf53 : List Cond := Cond.code yJ0_indexOf_7cf53 cJ0_indexOf_7cf53 3 (some .int) :: wsL_law0
noncomputable def f_J0_indexOf_7cf53_0 (fu : Nat)  (x1 : Int32) (x2 : Int32) : Option (Int32) :=
  bd (f_J0_isLatin1_aae02 fu) fun r1 =>
  if r1 = 0 then
    (bd (f_J0_length_8abf5 fu) fun r3 =>
    none)
  else
    (bd (f_J0_length_8abf5 fu) fun r4 =>
    bd (f_J1_indexOf_4cfef fu x1 x2 r4) fun r5 =>
    some (r5))
set_option maxHeartbeats 4000000 in
set_option maxRecDepth 100000 in
theorem t_J0_indexOf_7cf53_0 {G : GG} {p : Program} {l : Launch} {e : Env} {s : State} {m : MethodId} {args : Array Value} {below : List Frame} {meth : Method} {c : Code} {S : ST} {fu : Nat} {z : Int32}  {x1 : Int32} {x2 : Int32} (hM : MC G p s m args c cJ0_indexOf_7cf53 w_J0_indexOf_7cf53 RJ0) (hml : c.maxLocals = 3) (hr : meth.sig.returnType = (some .int)) (hlk : meth.locks = false)   (hf : f_J0_indexOf_7cf53_0 fu    x1 x2 = some z) : ∀ (H : Heap) (locs : List Loc), WB G S s H locs → ∀ (ls : Array Slot), lv_has ls 3 [(0, .ref (kAd G 33)), (1, .int x1), (2, .int x2)] → W p l e RM_J0_indexOf_7cf53 s m args below meth c H locs 0 0 (QR G below args s (some (.int z)) S S) (F0 m 0 ls []) := by
  intro  H locs hW ls hl
  have hx := hM.1
  have hb := hM.2.1
  refine lv_aload_n hx hb dJ0_indexOf_7cf53_0 rfl (lv_at hl 0 rfl) ?_
  obtain ⟨r1, hr1, hf⟩ := bd_elim hf
  refine k_callC [] [] hM hml hl.1 hW (c_J0_isLatin1_aae02 l G fu _ hr1) (cwV 0 hM.2.2.2.1 (gV mk_RJ0_492 im_J0_isLatin1_aae02 se_J0_isLatin1_aae02 it_RJ0 cd_J0_isLatin1_aae02) rfl rfl rfl (by decide +kernel) ⟨Nat.le_of_ble_eq_true rfl, Nat.le_of_ble_eq_true rfl⟩) rfl rfl (Nat.le_of_ble_eq_true rfl) ⟨Nat.zero_le _, Nat.zero_le _⟩ dJ0_indexOf_7cf53_1 (fun H locs hW hk => ?_)
  refine lv_if_eq (tgt := 23) hx hb dJ0_indexOf_7cf53_4 (by decide) (fun c2 => ?_) (fun c2 => ?_)
  · have hf := if_t c2 hf
    refine lv_aload_n hx hb dJ0_indexOf_7cf53_23 rfl (lv_at hl 0 rfl) ?_
    refine k_val hM hW (wgm fk_RJ0_9) dJ0_indexOf_7cf53_24 ?_
    refine lv_iload_n hx hb dJ0_indexOf_7cf53_27 rfl (lv_at hl 1 rfl) ?_
    refine lv_iload_n hx hb dJ0_indexOf_7cf53_28 rfl (lv_at hl 2 rfl) ?_
    refine lv_aload_n hx hb dJ0_indexOf_7cf53_29 rfl (lv_at hl 0 rfl) ?_
    obtain ⟨r3, hr3, hf⟩ := bd_elim hf
    refine k_callC [] [.int x2, .int x1, .ref (kAd G 34)] hM hml hl.1 hW (c_J0_length_8abf5 l G fu _ hr3) (cwV 0 hM.2.2.2.1 (gV mk_RJ0_505 im_J0_length_8abf5 se_J0_length_8abf5 it_RJ0 cd_J0_length_8abf5) rfl rfl rfl (by decide +kernel) ⟨Nat.le_of_ble_eq_true rfl, Nat.le_of_ble_eq_true rfl⟩) rfl rfl (Nat.le_of_ble_eq_true rfl) ⟨Nat.zero_le _, Nat.zero_le _⟩ dJ0_indexOf_7cf53_30 (fun H locs hW hk => ?_)
    cases hf
  · have hf := if_f c2 hf
    refine lv_aload_n hx hb dJ0_indexOf_7cf53_7 rfl (lv_at hl 0 rfl) ?_
    refine k_val hM hW (wgm fk_RJ0_9) dJ0_indexOf_7cf53_8 ?_
    refine lv_iload_n hx hb dJ0_indexOf_7cf53_11 rfl (lv_at hl 1 rfl) ?_
    refine lv_iload_n hx hb dJ0_indexOf_7cf53_12 rfl (lv_at hl 2 rfl) ?_
    refine lv_aload_n hx hb dJ0_indexOf_7cf53_13 rfl (lv_at hl 0 rfl) ?_
    obtain ⟨r4, hr4, hf⟩ := bd_elim hf
    refine k_callC [] [.int x2, .int x1, .ref (kAd G 34)] hM hml hl.1 hW (c_J0_length_8abf5 l G fu _ hr4) (cwV 0 hM.2.2.2.1 (gV mk_RJ0_505 im_J0_length_8abf5 se_J0_length_8abf5 it_RJ0 cd_J0_length_8abf5) rfl rfl rfl (by decide +kernel) ⟨Nat.le_of_ble_eq_true rfl, Nat.le_of_ble_eq_true rfl⟩) rfl rfl (Nat.le_of_ble_eq_true rfl) ⟨Nat.zero_le _, Nat.zero_le _⟩ dJ0_indexOf_7cf53_14 (fun H locs hW hk => ?_)
    obtain ⟨r5, hr5, hf⟩ := bd_elim hf
    refine s_callSi [.ref (kAd G 34), .int x1, .int x2, .int r4] [] hM hml hl.1 hW (c_J1_indexOf_4cfef l G fu _ _ _ _ hr5) (va_cwS 4 hM.2.2.2.1 (gS mk_RJ0_637 sm_J1_indexOf_4cfef it_RJ1 cd_J1_indexOf_4cfef) rfl rfl rfl (by decide +kernel) ⟨Nat.le_of_ble_eq_true rfl, Nat.le_of_ble_eq_true rfl⟩) rfl rfl (Nat.le_of_ble_eq_true rfl) ⟨Nat.zero_le _, Nat.zero_le _⟩ dJ0_indexOf_7cf53_17 (fun H locs hW hk => ?_)
    refine lv_goto (tgt := 36) hx hb dJ0_indexOf_7cf53_20 (by decide) ?_
    cases hf
    exact W.iret hx hb hr (b_ret0 hW (fun _ _ => rfl) _) hW.2.2.2 dJ0_indexOf_7cf53_36 hlk
noncomputable def f_J0_indexOf_7cf53 (fu : Nat) (x1 : Int32) (x2 : Int32) : Option (Int32) := f_J0_indexOf_7cf53_0 fu x1 x2
set_option maxHeartbeats 4000000 in
set_option maxRecDepth 100000 in
theorem c_J0_indexOf_7cf53 (l : Launch) (G : GG) (fu : Nat) (S : ST) (x1 : Int32) (x2 : Int32) {z : Int32} (hf : f_J0_indexOf_7cf53 fu x1 x2 = some z) : Ct l yJ0_indexOf_7cf53 w_J0_indexOf_7cf53 RM_J0_indexOf_7cf53 G S [.ref (kAd G 33), .int x1, .int x2] (some (.int z)) S 0 0 := by
  refine Met.ofW (cc := cJ0_indexOf_7cf53) (maxL := 3) (ret := (some .int)) (by decide) rfl ?_
  intro p e s m args below meth c s₁ B hml hv
  obtain ⟨rfl, hB, hK, hz⟩ := hv
  have hM : MC G p s m _ c cJ0_indexOf_7cf53 w_J0_indexOf_7cf53 RJ0 := ⟨B.exec, B.bytes, findClass_of_methodNamed B.named, atoms_spec (ws := w_J0_indexOf_7cf53) B.pre, hK, hz⟩
  have hW : WB G S s s.heap [] := ⟨hB, va_S.rf⟩
  have hl := lv_entry ([.ref (kAd G 33), .int x1, .int x2]) (n := 3) (Nat.le_of_ble_eq_true rfl)
  rw [lg_entry_eq]
  generalize (lg_sl ([.ref (kAd G 33), .int x1, .int x2]) ++ List.replicate (3 - (lg_sl ([.ref (kAd G 33), .int x1, .int x2])).length) Slot.unset).toArray = ls at hl ⊢
  have hl : lv_has ls 3 [(0, .ref (kAd G 33)), (1, .int x1), (2, .int x2)] := hl
  exact t_J0_indexOf_7cf53_0 (fu := fu) hM hml B.returns B.notSynchronized hf _ _ hW _ (lv_sub hl [0, 1, 2] rfl)
abbrev RM_J0_indexOf_0f7a4 : Room := { frames := 3, cells := 0, slots := 0, locals := 70 }
abbrev w_J0_indexOf_0f7a4 : List Cond := Cond.code yJ0_indexOf_0f7a4 cJ0_indexOf_0f7a4 2 (some .int) :: wsL_law0
noncomputable def f_J0_indexOf_0f7a4_0 (fu : Nat)  (x1 : Int32) : Option (Int32) :=
  bd (f_J0_indexOf_7cf53 fu x1 (0 : Int32)) fun r1 =>
  some (r1)
set_option maxHeartbeats 4000000 in
set_option maxRecDepth 100000 in
theorem t_J0_indexOf_0f7a4_0 {G : GG} {p : Program} {l : Launch} {e : Env} {s : State} {m : MethodId} {args : Array Value} {below : List Frame} {meth : Method} {c : Code} {S : ST} {fu : Nat} {z : Int32}  {x1 : Int32} (hM : MC G p s m args c cJ0_indexOf_0f7a4 w_J0_indexOf_0f7a4 RJ0) (hml : c.maxLocals = 2) (hr : meth.sig.returnType = (some .int)) (hlk : meth.locks = false)   (hf : f_J0_indexOf_0f7a4_0 fu    x1 = some z) : ∀ (H : Heap) (locs : List Loc), WB G S s H locs → ∀ (ls : Array Slot), lv_has ls 2 [(0, .ref (kAd G 33)), (1, .int x1)] → W p l e RM_J0_indexOf_0f7a4 s m args below meth c H locs 0 0 (QR G below args s (some (.int z)) S S) (F0 m 0 ls []) := by
  intro  H locs hW ls hl
  have hx := hM.1
  have hb := hM.2.1
  refine lv_aload_n hx hb dJ0_indexOf_0f7a4_0 rfl (lv_at hl 0 rfl) ?_
  refine lv_iload_n hx hb dJ0_indexOf_0f7a4_1 rfl (lv_at hl 1 rfl) ?_
  refine lv_iconst (v := (0 : Int32)) hx hb dJ0_indexOf_0f7a4_2 (by decide) ?_
  obtain ⟨r1, hr1, hf⟩ := bd_elim hf
  refine k_callC [.int x1, .int (0 : Int32)] [] hM hml hl.1 hW (c_J0_indexOf_7cf53 l G fu _ _ _ hr1) (cwV 2 hM.2.2.2.1 (gV mk_RJ0_633 im_J0_indexOf_7cf53 se_J0_indexOf_7cf53 it_RJ0 cd_J0_indexOf_7cf53) rfl rfl rfl (by decide +kernel) ⟨Nat.le_of_ble_eq_true rfl, Nat.le_of_ble_eq_true rfl⟩) rfl rfl (Nat.le_of_ble_eq_true rfl) ⟨Nat.zero_le _, Nat.zero_le _⟩ dJ0_indexOf_0f7a4_3 (fun H locs hW hk => ?_)
  cases hf
  exact W.iret hx hb hr (b_ret0 hW (fun _ _ => rfl) _) hW.2.2.2 dJ0_indexOf_0f7a4_6 hlk
noncomputable def f_J0_indexOf_0f7a4 (fu : Nat) (x1 : Int32) : Option (Int32) := f_J0_indexOf_0f7a4_0 fu x1
set_option maxHeartbeats 4000000 in
set_option maxRecDepth 100000 in
theorem c_J0_indexOf_0f7a4 (l : Launch) (G : GG) (fu : Nat) (S : ST) (x1 : Int32) {z : Int32} (hf : f_J0_indexOf_0f7a4 fu x1 = some z) : Ct l yJ0_indexOf_0f7a4 w_J0_indexOf_0f7a4 RM_J0_indexOf_0f7a4 G S [.ref (kAd G 33), .int x1] (some (.int z)) S 0 0 := by
  refine Met.ofW (cc := cJ0_indexOf_0f7a4) (maxL := 2) (ret := (some .int)) (by decide) rfl ?_
  intro p e s m args below meth c s₁ B hml hv
  obtain ⟨rfl, hB, hK, hz⟩ := hv
  have hM : MC G p s m _ c cJ0_indexOf_0f7a4 w_J0_indexOf_0f7a4 RJ0 := ⟨B.exec, B.bytes, findClass_of_methodNamed B.named, atoms_spec (ws := w_J0_indexOf_0f7a4) B.pre, hK, hz⟩
  have hW : WB G S s s.heap [] := ⟨hB, va_S.rf⟩
  have hl := lv_entry ([.ref (kAd G 33), .int x1]) (n := 2) (Nat.le_of_ble_eq_true rfl)
  rw [lg_entry_eq]
  generalize (lg_sl ([.ref (kAd G 33), .int x1]) ++ List.replicate (2 - (lg_sl ([.ref (kAd G 33), .int x1])).length) Slot.unset).toArray = ls at hl ⊢
  have hl : lv_has ls 2 [(0, .ref (kAd G 33)), (1, .int x1)] := hl
  exact t_J0_indexOf_0f7a4_0 (fu := fu) hM hml B.returns B.notSynchronized hf _ _ hW _ (lv_sub hl [0, 1] rfl)
abbrev RM_X8_scan : Room := { frames := 4, cells := 0, slots := 0, locals := 91 }
abbrev w_X8_scan : List Cond := Cond.code yX8_scan cX8_scan 3 (some .int) :: wsL_law0
noncomputable def f_X8_scan_48 (fu : Nat)  (v : GV) (x1 : Int32) (x2 : Int32) (t1 : Int32) : Option (Int32 × GV) :=
  bd (f_X8_addToken fu v t1 x1 (x2).toInt64) fun v2 =>
  some ((x1 + (1 : Int32)), v2)
set_option maxHeartbeats 4000000 in
set_option maxRecDepth 100000 in
theorem t_X8_scan_48 {G : GG} {p : Program} {l : Launch} {e : Env} {s : State} {m : MethodId} {args : Array Value} {below : List Frame} {meth : Method} {c : Code} {S : ST} {fu : Nat} {z : Int32 × GV} {a : Nat} {v0 : GV}  {v : GV} {x1 : Int32} {x2 : Int32} {t1 : Int32} (hM : MC G p s m args c cX8_scan w_X8_scan RX8) (hml : c.maxLocals = 3) (hr : meth.sig.returnType = (some .int)) (hlk : meth.locks = false) (hc0 : gC v0 = 8)  (hf : f_X8_scan_48 fu  v  x1 x2 t1 = some z) : (gC v = 8) → ∀ (H : Heap) (locs : List Loc), WB G (st S a v) s H locs → ∀ (ls : Array Slot), lv_has ls 3 [(1, .int x1), (2, .int x2)] → W p l e RM_X8_scan s m args below meth c H locs 0 0 (QR G below args s (some (.int z.1)) (st S a v0) (st S a z.2)) (F0 m 48 ls [.int t1, .ref a]) := by
  intro hc H locs hW ls hl
  have hx := hM.1
  have hb := hM.2.1
  refine lv_iload_n hx hb dX8_scan_48 rfl (lv_at hl 0 rfl) ?_
  refine lv_iload_n hx hb dX8_scan_49 rfl (lv_at hl 1 rfl) ?_
  refine lv_i2l hx hb dX8_scan_50 rfl ?_
  obtain ⟨v2, hr1, hf⟩ := bd_elim hf
  refine b_callVv [.int t1, .int x1, .long (x2).toInt64] [] hM hml hl.1 hW hc rfl (by decide) (c_X8_addToken l G fu _ a v _ _ _ hc hr1) (cwV 3 hM.2.2.2.1 (gV mk_RX8_49 im_X8_addToken se_X8_addToken it_RX8 cd_X8_addToken) rfl rfl rfl (by decide +kernel) ⟨Nat.le_of_ble_eq_true rfl, Nat.le_of_ble_eq_true rfl⟩) rfl rfl (Nat.le_of_ble_eq_true rfl) ⟨Nat.zero_le _, Nat.zero_le _⟩ dX8_scan_51 (fun H locs hW hk => ?_)
  have hc := keep_at hc hk
  refine lv_iload_n hx hb dX8_scan_54 rfl (lv_at hl 0 rfl) ?_
  refine lv_iconst (v := (1 : Int32)) hx hb dX8_scan_55 (by decide) ?_
  refine lv_iadd hx hb dX8_scan_56 ?_
  cases hf
  exact W.iret hx hb hr (b_ret0 hW (keep_s2 hc0 hc) _) hW.2.2.2 dX8_scan_57 hlk
noncomputable def f_X8_scan_0 (fu : Nat)  (v : GV) (x1 : Int32) : Option (Int32 × GV) :=
  ck (inb x1 1000) <|
  nm ((gA v 0 x1.toNatClampNeg)) fun y2 =>
  bd (f_X8_isLetter fu y2) fun r3 =>
  if r3 = 0 then
    (bd (f_X8_isDigit fu y2) fun r5 =>
    if r5 = 0 then
      (bd (f_J0_indexOf_0f7a4 fu y2) fun r7 =>
      if r7 < 0 then
        (f_X8_scan_48 fu v x1 y2 (1 : Int32))
      else
        (f_X8_scan_48 fu v x1 y2 (5 : Int32)))
    else
      (bd2 (f_X8_scanNumber fu v x1) fun r9 v10 =>
      some (r9, v10)))
  else
    (bd2 (f_X8_scanWord fu v x1) fun r11 v12 =>
    some (r11, v12))
set_option maxHeartbeats 4000000 in
set_option maxRecDepth 100000 in
theorem t_X8_scan_0 {G : GG} {p : Program} {l : Launch} {e : Env} {s : State} {m : MethodId} {args : Array Value} {below : List Frame} {meth : Method} {c : Code} {S : ST} {fu : Nat} {z : Int32 × GV} {a : Nat} {v0 : GV}  {v : GV} {x1 : Int32} (hM : MC G p s m args c cX8_scan w_X8_scan RX8) (hml : c.maxLocals = 3) (hr : meth.sig.returnType = (some .int)) (hlk : meth.locks = false) (hc0 : gC v0 = 8)  (hf : f_X8_scan_0 fu  v  x1 = some z) : (gC v = 8) → ∀ (H : Heap) (locs : List Loc), WB G (st S a v) s H locs → ∀ (ls : Array Slot), lv_has ls 3 [(0, .ref a), (1, .int x1)] → W p l e RM_X8_scan s m args below meth c H locs 0 0 (QR G below args s (some (.int z.1)) (st S a v0) (st S a z.2)) (F0 m 0 ls []) := by
  intro hc H locs hW ls hl
  have hx := hM.1
  have hb := hM.2.1
  refine lv_aload_n hx hb dX8_scan_0 rfl (lv_at hl 0 rfl) ?_
  refine b_get hM hW 7 0 hc rfl rfl (by decide) wi_X8 (wgm fk_RX8_9) (x := .ref (a + 1)) rfl dX8_scan_1 ?_
  refine lv_iload_n hx hb dX8_scan_4 rfl (lv_at hl 1 rfl) ?_
  obtain ⟨h1, hf⟩ := ck_elim hf
  refine b_cald (n := 1000) hM hW 7 0 hc (by decide) rfl rfl rfl rfl h1 dX8_scan_5 ?_
  refine lv_topi (fun y2 ey2 => ?_)
  have hf := nm_at ey2 hf
  refine lv_istore_n (lv' := [(2, .int y2), (0, .ref a), (1, .int x1)]) hx hb dX8_scan_6 rfl hl (by decide) rfl (fun ls hl => ?_)
  refine lv_iload_n hx hb dX8_scan_7 rfl (lv_at hl 0 rfl) ?_
  obtain ⟨r3, hr3, hf⟩ := bd_elim hf
  refine s_callSi [.int y2] [] hM hml hl.1 hW (c_X8_isLetter l G fu _ _ hr3) (va_cwS 1 hM.2.2.2.1 (gS mk_RX8_53 sm_X8_isLetter it_RX8 cd_X8_isLetter) rfl rfl rfl (by decide +kernel) ⟨Nat.le_of_ble_eq_true rfl, Nat.le_of_ble_eq_true rfl⟩) rfl rfl (Nat.le_of_ble_eq_true rfl) ⟨Nat.zero_le _, Nat.zero_le _⟩ dX8_scan_8 (fun H locs hW hk => ?_)
  refine lv_if_eq (tgt := 20) hx hb dX8_scan_11 (by decide) (fun c4 => ?_) (fun c4 => ?_)
  · have hf := if_t c4 hf
    refine lv_iload_n hx hb dX8_scan_20 rfl (lv_at hl 0 rfl) ?_
    obtain ⟨r5, hr5, hf⟩ := bd_elim hf
    refine s_callSi [.int y2] [] hM hml hl.1 hW (c_X8_isDigit l G fu _ _ hr5) (va_cwS 1 hM.2.2.2.1 (gS mk_RX8_59 sm_X8_isDigit it_RX8 cd_X8_isDigit) rfl rfl rfl (by decide +kernel) ⟨Nat.le_of_ble_eq_true rfl, Nat.le_of_ble_eq_true rfl⟩) rfl rfl (Nat.le_of_ble_eq_true rfl) ⟨Nat.zero_le _, Nat.zero_le _⟩ dX8_scan_21 (fun H locs hW hk => ?_)
    refine lv_if_eq (tgt := 33) hx hb dX8_scan_24 (by decide) (fun c6 => ?_) (fun c6 => ?_)
    · have hf := if_t c6 hf
      refine lv_aload_n hx hb dX8_scan_33 rfl (lv_at hl 1 rfl) ?_
      refine k_ldcS hM dX8_scan_34 ?_
      refine lv_iload_n hx hb dX8_scan_36 rfl (lv_at hl 0 rfl) ?_
      obtain ⟨r7, hr7, hf⟩ := bd_elim hf
      refine k_callC [.int y2] [.ref a] hM hml hl.1 hW (c_J0_indexOf_0f7a4 l G fu _ _ hr7) (cwV 1 hM.2.2.2.1 (gV mk_RX8_67 im_J0_indexOf_0f7a4 se_J0_indexOf_0f7a4 it_RJ0 cd_J0_indexOf_0f7a4) rfl rfl rfl (by decide +kernel) ⟨Nat.le_of_ble_eq_true rfl, Nat.le_of_ble_eq_true rfl⟩) rfl rfl (Nat.le_of_ble_eq_true rfl) ⟨Nat.zero_le _, Nat.zero_le _⟩ dX8_scan_37 (fun H locs hW hk => ?_)
      refine lv_if_lt (tgt := 47) hx hb dX8_scan_40 (by decide) (fun c8 => ?_) (fun c8 => ?_)
      · have hf := if_t c8 hf
        refine lv_iconst (v := (1 : Int32)) hx hb dX8_scan_47 (by decide) ?_
        exact t_X8_scan_48 (fu := fu) hM hml hr hlk hc0 hf hc _ _ hW _ (lv_sub hl [2, 0] rfl)
      · have hf := if_f c8 hf
        refine lv_iconst (v := (5 : Int32)) hx hb dX8_scan_43 (by decide) ?_
        refine lv_goto (tgt := 48) hx hb dX8_scan_44 (by decide) ?_
        exact t_X8_scan_48 (fu := fu) hM hml hr hlk hc0 hf hc _ _ hW _ (lv_sub hl [2, 0] rfl)
    · have hf := if_f c6 hf
      refine lv_aload_n hx hb dX8_scan_27 rfl (lv_at hl 1 rfl) ?_
      refine lv_iload_n hx hb dX8_scan_28 rfl (lv_at hl 2 rfl) ?_
      obtain ⟨r9, v10, hr9, hf⟩ := bd2_elim hf
      refine b_callVi [.int x1] [] hM hml hl.1 hW hc rfl (by decide) (c_X8_scanNumber l G fu _ a v _ hc hr9) (cwV 1 hM.2.2.2.1 (gV mk_RX8_62 im_X8_scanNumber se_X8_scanNumber it_RX8 cd_X8_scanNumber) rfl rfl rfl (by decide +kernel) ⟨Nat.le_of_ble_eq_true rfl, Nat.le_of_ble_eq_true rfl⟩) rfl rfl (Nat.le_of_ble_eq_true rfl) ⟨Nat.zero_le _, Nat.zero_le _⟩ dX8_scan_29 (fun H locs hW hk => ?_)
      have hc := keep_at hc hk
      cases hf
      exact W.iret hx hb hr (b_ret0 hW (keep_s2 hc0 hc) _) hW.2.2.2 dX8_scan_32 hlk
  · have hf := if_f c4 hf
    refine lv_aload_n hx hb dX8_scan_14 rfl (lv_at hl 1 rfl) ?_
    refine lv_iload_n hx hb dX8_scan_15 rfl (lv_at hl 2 rfl) ?_
    obtain ⟨r11, v12, hr11, hf⟩ := bd2_elim hf
    refine b_callVi [.int x1] [] hM hml hl.1 hW hc rfl (by decide) (c_X8_scanWord l G fu _ a v _ hc hr11) (cwV 1 hM.2.2.2.1 (gV mk_RX8_56 im_X8_scanWord se_X8_scanWord it_RX8 cd_X8_scanWord) rfl rfl rfl (by decide +kernel) ⟨Nat.le_of_ble_eq_true rfl, Nat.le_of_ble_eq_true rfl⟩) rfl rfl (Nat.le_of_ble_eq_true rfl) ⟨Nat.zero_le _, Nat.zero_le _⟩ dX8_scan_16 (fun H locs hW hk => ?_)
    have hc := keep_at hc hk
    cases hf
    exact W.iret hx hb hr (b_ret0 hW (keep_s2 hc0 hc) _) hW.2.2.2 dX8_scan_19 hlk
noncomputable def f_X8_scan (fu : Nat) (v : GV) (x1 : Int32) : Option (Int32 × GV) := f_X8_scan_0 fu v x1
set_option maxHeartbeats 4000000 in
set_option maxRecDepth 100000 in
theorem c_X8_scan (l : Launch) (G : GG) (fu : Nat) (S : ST) (a : Nat) (v : GV) (x1 : Int32) {z : Int32} {w : GV} (hc : gC v = 8) (hf : f_X8_scan fu v x1 = some (z, w)) : Ct l yX8_scan w_X8_scan RM_X8_scan G (st S a v) [.ref a, .int x1] (some (.int z)) (st S a w) 0 0 := by
  refine Met.ofW (cc := cX8_scan) (maxL := 3) (ret := (some .int)) (by decide) rfl ?_
  intro p e s m args below meth c s₁ B hml hv
  obtain ⟨rfl, hB, hK, hz⟩ := hv
  have hM : MC G p s m _ c cX8_scan w_X8_scan RX8 := ⟨B.exec, B.bytes, findClass_of_methodNamed B.named, atoms_spec (ws := w_X8_scan) B.pre, hK, hz⟩
  have hW : WB G (st S a v) s s.heap [] := ⟨hB, va_S.rf⟩
  have hl := lv_entry ([.ref a, .int x1]) (n := 3) (Nat.le_of_ble_eq_true rfl)
  rw [lg_entry_eq]
  generalize (lg_sl ([.ref a, .int x1]) ++ List.replicate (3 - (lg_sl ([.ref a, .int x1])).length) Slot.unset).toArray = ls at hl ⊢
  have hl : lv_has ls 3 [(0, .ref a), (1, .int x1)] := hl
  exact t_X8_scan_0 (fu := fu) hM hml B.returns B.notSynchronized hc hf hc _ _ hW _ (lv_sub hl [0, 1] rfl)
abbrev RM_X8_open : Room := { frames := 5, cells := 0, slots := 0, locals := 113 }
abbrev w_X8_open : List Cond := Cond.code yX8_open cX8_open 3 none :: wsL_law0
noncomputable def f_X8_open_64 (fu : Nat)  (v : GV) : Option (GV) :=
  bd (f_X8_addToken fu v (0 : Int32) (gI v 6) (0 : Int64)) fun v2 =>
  some v2
set_option maxHeartbeats 4000000 in
set_option maxRecDepth 100000 in
theorem t_X8_open_64 {G : GG} {p : Program} {l : Launch} {e : Env} {s : State} {m : MethodId} {args : Array Value} {below : List Frame} {meth : Method} {c : Code} {S : ST} {fu : Nat} {z : GV} {a : Nat} {v0 : GV}  {v : GV} (hM : MC G p s m args c cX8_open w_X8_open RX8) (hml : c.maxLocals = 3) (hr : meth.sig.returnType = none) (hlk : meth.locks = false) (hc0 : gC v0 = 8)  (hf : f_X8_open_64 fu  v   = some z) : (gC v = 8) → ∀ (H : Heap) (locs : List Loc), WB G (st S a v) s H locs → ∀ (ls : Array Slot), lv_has ls 3 [(0, .ref a)] → W p l e RM_X8_open s m args below meth c H locs 0 0 (QR G below args s none (st S a v0) (st S a z)) (F0 m 64 ls []) := by
  intro hc H locs hW ls hl
  have hx := hM.1
  have hb := hM.2.1
  refine lv_aload_n hx hb dX8_open_64 rfl (lv_at hl 0 rfl) ?_
  refine lv_iconst (v := (0 : Int32)) hx hb dX8_open_65 (by decide) ?_
  refine lv_aload_n hx hb dX8_open_66 rfl (lv_at hl 0 rfl) ?_
  refine b_get hM hW 7 6 hc rfl rfl (by decide) wi_X8 (wgm fk_RX8_33) (x := .int (gI v 6)) rfl dX8_open_67 ?_
  refine lv_lconst (v := (0 : Int64)) hx hb dX8_open_70 (by decide) ?_
  obtain ⟨v2, hr1, hf⟩ := bd_elim hf
  refine b_callVv [.int (0 : Int32), .int (gI v 6), .long (0 : Int64)] [] hM hml hl.1 hW hc rfl (by decide) (c_X8_addToken l G fu _ a v _ _ _ hc hr1) (cwV 3 hM.2.2.2.1 (gV mk_RX8_49 im_X8_addToken se_X8_addToken it_RX8 cd_X8_addToken) rfl rfl rfl (by decide +kernel) ⟨Nat.le_of_ble_eq_true rfl, Nat.le_of_ble_eq_true rfl⟩) rfl rfl (Nat.le_of_ble_eq_true rfl) ⟨Nat.zero_le _, Nat.zero_le _⟩ dX8_open_71 (fun H locs hW hk => ?_)
  have hc := keep_at hc hk
  cases hf
  exact W.vret hx hb hr (b_ret0 hW (keep_s2 hc0 hc) _) hW.2.2.2 dX8_open_74 hlk
noncomputable def f_X8_open_57 (fu : Nat) (k19 : Int32 → Int32 → GV → Option (GV)) (v : GV) (x2 : Int32) (t0 : Int32) : Option (GV) :=
  nm (x2 + (1 : Int32)) fun y1 =>
  k19 t0 y1 v
set_option maxHeartbeats 4000000 in
set_option maxRecDepth 100000 in
theorem t_X8_open_57 {G : GG} {p : Program} {l : Launch} {e : Env} {s : State} {m : MethodId} {args : Array Value} {below : List Frame} {meth : Method} {c : Code} {S : ST} {fu : Nat} {z : GV} {a : Nat} {v0 : GV} {k19 : Int32 → Int32 → GV → Option (GV)} {v : GV} {x2 : Int32} {t0 : Int32} (hM : MC G p s m args c cX8_open w_X8_open RX8) (hml : c.maxLocals = 3) (hr : meth.sig.returnType = none) (hlk : meth.locks = false) (hc0 : gC v0 = 8) (hk19 : ∀ (x1 : Int32) (x2 : Int32) (v : GV), k19 x1 x2 v = some z → (gC v = 8) → ∀ (H : Heap) (locs : List Loc), WB G (st S a v) s H locs → ∀ (ls : Array Slot), lv_has ls 3 [(0, .ref a), (1, .int x1), (2, .int x2)] → W p l e RM_X8_open s m args below meth c H locs 0 0 (QR G below args s none (st S a v0) (st S a z)) (F0 m 19 ls [])) (hf : f_X8_open_57 fu k19 v  x2 t0 = some z) : (gC v = 8) → ∀ (H : Heap) (locs : List Loc), WB G (st S a v) s H locs → ∀ (ls : Array Slot), lv_has ls 3 [(0, .ref a), (2, .int x2)] → W p l e RM_X8_open s m args below meth c H locs 0 0 (QR G below args s none (st S a v0) (st S a z)) (F0 m 57 ls [.int t0]) := by
  intro hc H locs hW ls hl
  have hx := hM.1
  have hb := hM.2.1
  refine lv_istore_n (lv' := [(1, .int t0), (0, .ref a), (2, .int x2)]) hx hb dX8_open_57 rfl hl (by decide) rfl (fun ls hl => ?_)
  obtain ⟨y1, ey1⟩ : ∃ y : Int32, y = x2 + (1 : Int32) := ⟨_, rfl⟩
  have hf := nm_at ey1 hf
  refine lv_iinc (v := y1) (lv' := [(2, .int y1), (1, .int t0), (0, .ref a)]) hx hb dX8_open_58 hl (k := 2) rfl (by rw [ey1]; rfl) (by decide) rfl (fun ls hl => ?_)
  refine lv_goto (tgt := 19) hx hb dX8_open_61 (by decide) ?_
  exact hk19 _ _ _ hf hc _ _ hW _ (lv_sub hl [2, 1, 0] rfl)
noncomputable def f_X8_open_19s (fu : Nat)  (k19 : Int32 → Int32 → GV → Option (GV)) (x1 : Int32) (x2 : Int32) (v : GV) : Option (GV) :=
  if (1000 : Int32) ≤ x2 then
    (f_X8_open_64 fu v)
  else
    (if (gI v 6) ≤ x1 then
      (f_X8_open_64 fu v)
    else
      (ck (inb x1 1000) <|
      bd (f_X8_isBlank fu (gA v 0 x1.toNatClampNeg)) fun r4 =>
      if r4 = 0 then
        (bd2 (f_X8_scan fu v x1) fun r6 v7 =>
        f_X8_open_57 fu k19 v7 x2 r6)
      else
        (f_X8_open_57 fu k19 v x2 (x1 + (1 : Int32)))))
noncomputable def f_X8_open_19 (fu n : Nat)  : Int32 → Int32 → GV → Option (GV) :=
  lq_3 (fun k19 => f_X8_open_19s fu  k19  ) n
set_option maxHeartbeats 4000000 in
set_option maxRecDepth 100000 in
theorem t_X8_open_19s {G : GG} {p : Program} {l : Launch} {e : Env} {s : State} {m : MethodId} {args : Array Value} {below : List Frame} {meth : Method} {c : Code} {S : ST} {fu : Nat} {z : GV} {a : Nat} {v0 : GV}  {k19 : Int32 → Int32 → GV → Option (GV)} (hM : MC G p s m args c cX8_open w_X8_open RX8) (hml : c.maxLocals = 3) (hr : meth.sig.returnType = none) (hlk : meth.locks = false) (hc0 : gC v0 = 8)  (hk19 : ∀ (x1 : Int32) (x2 : Int32) (v : GV), k19 x1 x2 v = some z → (gC v = 8) → ∀ (H : Heap) (locs : List Loc), WB G (st S a v) s H locs → ∀ (ls : Array Slot), lv_has ls 3 [(0, .ref a), (1, .int x1), (2, .int x2)] → W p l e RM_X8_open s m args below meth c H locs 0 0 (QR G below args s none (st S a v0) (st S a z)) (F0 m 19 ls [])) : ∀ (x1 : Int32) (x2 : Int32) (v : GV), f_X8_open_19s fu  k19   x1 x2 v = some z → (gC v = 8) → ∀ (H : Heap) (locs : List Loc), WB G (st S a v) s H locs → ∀ (ls : Array Slot), lv_has ls 3 [(0, .ref a), (1, .int x1), (2, .int x2)] → W p l e RM_X8_open s m args below meth c H locs 0 0 (QR G below args s none (st S a v0) (st S a z)) (F0 m 19 ls []) := by
  intro x1 x2 v hf hc H locs hW ls hl
  have hx := hM.1
  have hb := hM.2.1
  refine lv_iload_n hx hb dX8_open_19 rfl (lv_at hl 2 rfl) ?_
  refine lv_sipush (v := (1000 : Int32)) hx hb dX8_open_20 (by decide) ?_
  refine lv_icmp_ge (tgt := 64) hx hb dX8_open_23 (by decide) (fun c1 => ?_) (fun c1 => ?_)
  · have hf := if_t c1 hf
    exact t_X8_open_64 (fu := fu) hM hml hr hlk hc0 hf hc _ _ hW _ (lv_sub hl [0] rfl)
  · have hf := if_f c1 hf
    refine lv_iload_n hx hb dX8_open_26 rfl (lv_at hl 1 rfl) ?_
    refine lv_aload_n hx hb dX8_open_27 rfl (lv_at hl 0 rfl) ?_
    refine b_get hM hW 7 6 hc rfl rfl (by decide) wi_X8 (wgm fk_RX8_33) (x := .int (gI v 6)) rfl dX8_open_28 ?_
    refine lv_icmp_ge (tgt := 64) hx hb dX8_open_31 (by decide) (fun c2 => ?_) (fun c2 => ?_)
    · have hf := if_t c2 hf
      exact t_X8_open_64 (fu := fu) hM hml hr hlk hc0 hf hc _ _ hW _ (lv_sub hl [0] rfl)
    · have hf := if_f c2 hf
      refine lv_aload_n hx hb dX8_open_34 rfl (lv_at hl 0 rfl) ?_
      refine b_get hM hW 7 0 hc rfl rfl (by decide) wi_X8 (wgm fk_RX8_9) (x := .ref (a + 1)) rfl dX8_open_35 ?_
      refine lv_iload_n hx hb dX8_open_38 rfl (lv_at hl 1 rfl) ?_
      obtain ⟨h3, hf⟩ := ck_elim hf
      refine b_cald (n := 1000) hM hW 7 0 hc (by decide) rfl rfl rfl rfl h3 dX8_open_39 ?_
      obtain ⟨r4, hr4, hf⟩ := bd_elim hf
      refine s_callSi [.int (gA v 0 x1.toNatClampNeg)] [] hM hml hl.1 hW (c_X8_isBlank l G fu _ _ hr4) (va_cwS 1 hM.2.2.2.1 (gS mk_RX8_41 sm_X8_isBlank it_RX8 cd_X8_isBlank) rfl rfl rfl (by decide +kernel) ⟨Nat.le_of_ble_eq_true rfl, Nat.le_of_ble_eq_true rfl⟩) rfl rfl (Nat.le_of_ble_eq_true rfl) ⟨Nat.zero_le _, Nat.zero_le _⟩ dX8_open_40 (fun H locs hW hk => ?_)
      refine lv_if_eq (tgt := 52) hx hb dX8_open_43 (by decide) (fun c5 => ?_) (fun c5 => ?_)
      · have hf := if_t c5 hf
        refine lv_aload_n hx hb dX8_open_52 rfl (lv_at hl 0 rfl) ?_
        refine lv_iload_n hx hb dX8_open_53 rfl (lv_at hl 1 rfl) ?_
        obtain ⟨r6, v7, hr6, hf⟩ := bd2_elim hf
        refine b_callVi [.int x1] [] hM hml hl.1 hW hc rfl (by decide) (c_X8_scan l G fu _ a v _ hc hr6) (cwV 1 hM.2.2.2.1 (gV mk_RX8_45 im_X8_scan se_X8_scan it_RX8 cd_X8_scan) rfl rfl rfl (by decide +kernel) ⟨Nat.le_of_ble_eq_true rfl, Nat.le_of_ble_eq_true rfl⟩) rfl rfl (Nat.le_of_ble_eq_true rfl) ⟨Nat.zero_le _, Nat.zero_le _⟩ dX8_open_54 (fun H locs hW hk => ?_)
        have hc := keep_at hc hk
        exact t_X8_open_57 (fu := fu) hM hml hr hlk hc0 hk19 hf hc _ _ hW _ (lv_sub hl [0, 2] rfl)
      · have hf := if_f c5 hf
        refine lv_iload_n hx hb dX8_open_46 rfl (lv_at hl 1 rfl) ?_
        refine lv_iconst (v := (1 : Int32)) hx hb dX8_open_47 (by decide) ?_
        refine lv_iadd hx hb dX8_open_48 ?_
        refine lv_goto (tgt := 57) hx hb dX8_open_49 (by decide) ?_
        exact t_X8_open_57 (fu := fu) hM hml hr hlk hc0 hk19 hf hc _ _ hW _ (lv_sub hl [0, 2] rfl)
theorem t_X8_open_19 {G : GG} {p : Program} {l : Launch} {e : Env} {s : State} {m : MethodId} {args : Array Value} {below : List Frame} {meth : Method} {c : Code} {S : ST} {fu : Nat} {z : GV} {a : Nat} {v0 : GV}  (hM : MC G p s m args c cX8_open w_X8_open RX8) (hml : c.maxLocals = 3) (hr : meth.sig.returnType = none) (hlk : meth.locks = false) (hc0 : gC v0 = 8)  : ∀ {n : Nat} (x1 : Int32) (x2 : Int32) (v : GV), f_X8_open_19 fu n    x1 x2 v = some z → (gC v = 8) → ∀ (H : Heap) (locs : List Loc), WB G (st S a v) s H locs → ∀ (ls : Array Slot), lv_has ls 3 [(0, .ref a), (1, .int x1), (2, .int x2)] → W p l e RM_X8_open s m args below meth c H locs 0 0 (QR G below args s none (st S a v0) (st S a z)) (F0 m 19 ls []) := by
  intro n
  induction n with
  | zero => intro x1 x2 v hf; cases hf
  | succ n ih => intro x1 x2 v hf; exact t_X8_open_19s (fu := fu) hM hml hr hlk hc0 (k19 := f_X8_open_19 fu n   ) ih _ _ _ hf
noncomputable def f_X8_open_0 (fu : Nat)  (v : GV) : Option (GV) :=
  nm (sI v 4 (0 : Int32)) fun v1 =>
  nm (sI v1 5 (0 : Int32)) fun v2 =>
  nm (sI v2 7 (0 : Int32)) fun v3 =>
  f_X8_open_19 fu fu (0 : Int32) (0 : Int32) v3
set_option maxHeartbeats 4000000 in
set_option maxRecDepth 100000 in
theorem t_X8_open_0 {G : GG} {p : Program} {l : Launch} {e : Env} {s : State} {m : MethodId} {args : Array Value} {below : List Frame} {meth : Method} {c : Code} {S : ST} {fu : Nat} {z : GV} {a : Nat} {v0 : GV}  {v : GV} (hM : MC G p s m args c cX8_open w_X8_open RX8) (hml : c.maxLocals = 3) (hr : meth.sig.returnType = none) (hlk : meth.locks = false) (hc0 : gC v0 = 8)  (hf : f_X8_open_0 fu  v   = some z) : (gC v = 8) → ∀ (H : Heap) (locs : List Loc), WB G (st S a v) s H locs → ∀ (ls : Array Slot), lv_has ls 3 [(0, .ref a)] → W p l e RM_X8_open s m args below meth c H locs 0 0 (QR G below args s none (st S a v0) (st S a z)) (F0 m 0 ls []) := by
  intro hc H locs hW ls hl
  have hx := hM.1
  have hb := hM.2.1
  refine lv_aload_n hx hb dX8_open_0 rfl (lv_at hl 0 rfl) ?_
  refine lv_iconst (v := (0 : Int32)) hx hb dX8_open_1 (by decide) ?_
  refine b_putI hM hW 7 4 hc rfl rfl (by decide) wi_X8 tyX8 tyX8_ok nmX8 (wgm fk_RX8_26) rfl rfl rfl dX8_open_2 (fun v1 ev1 hc H locs hW => ?_)
  have hf := nm_at ev1 hf
  refine lv_aload_n hx hb dX8_open_5 rfl (lv_at hl 0 rfl) ?_
  refine lv_iconst (v := (0 : Int32)) hx hb dX8_open_6 (by decide) ?_
  refine b_putI hM hW 7 5 hc rfl rfl (by decide) wi_X8 tyX8 tyX8_ok nmX8 (wgm fk_RX8_30) rfl rfl rfl dX8_open_7 (fun v2 ev2 hc H locs hW => ?_)
  have hf := nm_at ev2 hf
  refine lv_aload_n hx hb dX8_open_10 rfl (lv_at hl 0 rfl) ?_
  refine lv_iconst (v := (0 : Int32)) hx hb dX8_open_11 (by decide) ?_
  refine b_putI hM hW 7 7 hc rfl rfl (by decide) wi_X8 tyX8 tyX8_ok nmX8 (wgm fk_RX8_36) rfl rfl rfl dX8_open_12 (fun v3 ev3 hc H locs hW => ?_)
  have hf := nm_at ev3 hf
  refine lv_iconst (v := (0 : Int32)) hx hb dX8_open_15 (by decide) ?_
  refine lv_istore_n (lv' := [(1, .int (0 : Int32)), (0, .ref a)]) hx hb dX8_open_16 rfl hl (by decide) rfl (fun ls hl => ?_)
  refine lv_iconst (v := (0 : Int32)) hx hb dX8_open_17 (by decide) ?_
  refine lv_istore_n (lv' := [(2, .int (0 : Int32)), (1, .int (0 : Int32)), (0, .ref a)]) hx hb dX8_open_18 rfl hl (by decide) rfl (fun ls hl => ?_)
  exact t_X8_open_19 (fu := fu) hM hml hr hlk hc0 _ _ _ hf hc _ _ hW _ (lv_sub hl [2, 1, 0] rfl)
noncomputable def f_X8_open (fu : Nat) (v : GV) : Option (GV) := f_X8_open_0 fu v
set_option maxHeartbeats 4000000 in
set_option maxRecDepth 100000 in
theorem c_X8_open (l : Launch) (G : GG) (fu : Nat) (S : ST) (a : Nat) (v : GV) {z : GV} (hc : gC v = 8) (hf : f_X8_open fu v = some z) : Ct l yX8_open w_X8_open RM_X8_open G (st S a v) [.ref a] none (st S a z) 0 0 := by
  refine Met.ofW (cc := cX8_open) (maxL := 3) (ret := none) (by decide) rfl ?_
  intro p e s m args below meth c s₁ B hml hv
  obtain ⟨rfl, hB, hK, hz⟩ := hv
  have hM : MC G p s m _ c cX8_open w_X8_open RX8 := ⟨B.exec, B.bytes, findClass_of_methodNamed B.named, atoms_spec (ws := w_X8_open) B.pre, hK, hz⟩
  have hW : WB G (st S a v) s s.heap [] := ⟨hB, va_S.rf⟩
  have hl := lv_entry ([.ref a]) (n := 3) (Nat.le_of_ble_eq_true rfl)
  rw [lg_entry_eq]
  generalize (lg_sl ([.ref a]) ++ List.replicate (3 - (lg_sl ([.ref a])).length) Slot.unset).toArray = ls at hl ⊢
  have hl : lv_has ls 3 [(0, .ref a)] := hl
  exact t_X8_open_0 (fu := fu) hM hml B.returns B.notSynchronized hc hf hc _ _ hW _ (lv_sub hl [0] rfl)
abbrev RM_X8_goesOn : Room := { frames := 0, cells := 0, slots := 0, locals := 0 }
abbrev w_X8_goesOn : List Cond := Cond.code yX8_goesOn cX8_goesOn 1 (some .boolean) :: wsL_law0
noncomputable def f_X8_goesOn_23 (fu : Nat)  (v : GV) : Option (Int32) :=
  some ((0 : Int32))
set_option maxHeartbeats 4000000 in
set_option maxRecDepth 100000 in
theorem t_X8_goesOn_23 {G : GG} {p : Program} {l : Launch} {e : Env} {s : State} {m : MethodId} {args : Array Value} {below : List Frame} {meth : Method} {c : Code} {S : ST} {fu : Nat} {z : Int32} {a : Nat} {v : GV}  (hM : MC G p s m args c cX8_goesOn w_X8_goesOn RX8) (hml : c.maxLocals = 1) (hr : meth.sig.returnType = (some .boolean)) (hlk : meth.locks = false) (hc0 : gC v = 8)  (hf : f_X8_goesOn_23 fu  v   = some z) : ∀ (H : Heap) (locs : List Loc), WB G (st S a v) s H locs → ∀ (ls : Array Slot), lv_has ls 1 [] → W p l e RM_X8_goesOn s m args below meth c H locs 0 0 (QR G below args s (some (.int z)) (st S a v) (st S a v)) (F0 m 23 ls []) := by
  intro  H locs hW ls hl
  have hx := hM.1
  have hb := hM.2.1
  have hc := hc0
  refine lv_iconst (v := (0 : Int32)) hx hb dX8_goesOn_23 (by decide) ?_
  cases hf
  exact W.zret (v := (0 : Int32)) hx hb hr (by decide) (b_ret0 hW (fun _ _ => rfl) _) hW.2.2.2 dX8_goesOn_24 hlk
noncomputable def f_X8_goesOn_0 (fu : Nat)  (v : GV) : Option (Int32) :=
  if (gI v 7) = 0 then
    (nm ((gI v 5)) fun y2 =>
    ck (inb y2 1001) <|
    if (gA v 1 y2.toNatClampNeg) = 0 then
      (f_X8_goesOn_23 fu v)
    else
      (some ((1 : Int32))))
  else
    (f_X8_goesOn_23 fu v)
set_option maxHeartbeats 4000000 in
set_option maxRecDepth 100000 in
theorem t_X8_goesOn_0 {G : GG} {p : Program} {l : Launch} {e : Env} {s : State} {m : MethodId} {args : Array Value} {below : List Frame} {meth : Method} {c : Code} {S : ST} {fu : Nat} {z : Int32} {a : Nat} {v : GV}  (hM : MC G p s m args c cX8_goesOn w_X8_goesOn RX8) (hml : c.maxLocals = 1) (hr : meth.sig.returnType = (some .boolean)) (hlk : meth.locks = false) (hc0 : gC v = 8)  (hf : f_X8_goesOn_0 fu  v   = some z) : ∀ (H : Heap) (locs : List Loc), WB G (st S a v) s H locs → ∀ (ls : Array Slot), lv_has ls 1 [(0, .ref a)] → W p l e RM_X8_goesOn s m args below meth c H locs 0 0 (QR G below args s (some (.int z)) (st S a v) (st S a v)) (F0 m 0 ls []) := by
  intro  H locs hW ls hl
  have hx := hM.1
  have hb := hM.2.1
  have hc := hc0
  refine lv_aload_n hx hb dX8_goesOn_0 rfl (lv_at hl 0 rfl) ?_
  refine b_get hM hW 7 7 hc rfl rfl (by decide) wi_X8 (wgm fk_RX8_36) (x := .int (gI v 7)) rfl dX8_goesOn_1 ?_
  refine lv_if_ne (tgt := 23) hx hb dX8_goesOn_4 (by decide) (fun c1 => ?_) (fun c1 => ?_)
  · have hf := if_f c1 hf
    exact t_X8_goesOn_23 (fu := fu) hM hml hr hlk hc0 hf _ _ hW _ (lv_sub hl [] rfl)
  · have hf := if_t c1 hf
    refine lv_aload_n hx hb dX8_goesOn_7 rfl (lv_at hl 0 rfl) ?_
    refine b_get hM hW 7 1 hc rfl rfl (by decide) wi_X8 (wgm fk_RX8_15) (x := .ref (a + 2)) rfl dX8_goesOn_8 ?_
    refine lv_aload_n hx hb dX8_goesOn_11 rfl (lv_at hl 0 rfl) ?_
    refine b_get hM hW 7 5 hc rfl rfl (by decide) wi_X8 (wgm fk_RX8_30) (x := .int (gI v 5)) rfl dX8_goesOn_12 ?_
    refine lv_topi (fun y2 ey2 => ?_)
    have hf := nm_at ey2 hf
    obtain ⟨h3, hf⟩ := ck_elim hf
    refine b_iald (n := 1001) hM hW 7 1 hc (by decide) rfl rfl rfl rfl h3 dX8_goesOn_15 ?_
    refine lv_if_eq (tgt := 23) hx hb dX8_goesOn_16 (by decide) (fun c4 => ?_) (fun c4 => ?_)
    · have hf := if_t c4 hf
      exact t_X8_goesOn_23 (fu := fu) hM hml hr hlk hc0 hf _ _ hW _ (lv_sub hl [] rfl)
    · have hf := if_f c4 hf
      refine lv_iconst (v := (1 : Int32)) hx hb dX8_goesOn_19 (by decide) ?_
      refine lv_goto (tgt := 24) hx hb dX8_goesOn_20 (by decide) ?_
      cases hf
      exact W.zret (v := (1 : Int32)) hx hb hr (by decide) (b_ret0 hW (fun _ _ => rfl) _) hW.2.2.2 dX8_goesOn_24 hlk
noncomputable def f_X8_goesOn (fu : Nat) (v : GV) : Option (Int32) := f_X8_goesOn_0 fu v
set_option maxHeartbeats 4000000 in
set_option maxRecDepth 100000 in
theorem c_X8_goesOn (l : Launch) (G : GG) (fu : Nat) (S : ST) (a : Nat) (v : GV) {z : Int32} (hc : gC v = 8) (hf : f_X8_goesOn fu v = some z) : Ct l yX8_goesOn w_X8_goesOn RM_X8_goesOn G (st S a v) [.ref a] (some (.int z)) (st S a v) 0 0 := by
  refine Met.ofW (cc := cX8_goesOn) (maxL := 1) (ret := (some .boolean)) (by decide) rfl ?_
  intro p e s m args below meth c s₁ B hml hv
  obtain ⟨rfl, hB, hK, hz⟩ := hv
  have hM : MC G p s m _ c cX8_goesOn w_X8_goesOn RX8 := ⟨B.exec, B.bytes, findClass_of_methodNamed B.named, atoms_spec (ws := w_X8_goesOn) B.pre, hK, hz⟩
  have hW : WB G (st S a v) s s.heap [] := ⟨hB, va_S.rf⟩
  have hl := lv_entry ([.ref a]) (n := 1) (Nat.le_of_ble_eq_true rfl)
  rw [lg_entry_eq]
  generalize (lg_sl ([.ref a]) ++ List.replicate (1 - (lg_sl ([.ref a])).length) Slot.unset).toArray = ls at hl ⊢
  have hl : lv_has ls 1 [(0, .ref a)] := hl
  exact t_X8_goesOn_0 (fu := fu) hM hml B.returns B.notSynchronized hc hf _ _ hW _ (lv_sub hl [0] rfl)
abbrev RM_X6_verbOf : Room := { frames := 1, cells := 0, slots := 0, locals := 20 }
abbrev w_X6_verbOf : List Cond := Cond.code yX6_verbOf cX6_verbOf 1 (some .int) :: wsL_law0
noncomputable def f_X6_verbOf_0 (fu : Nat)  (e0 : Nat) : Option (Int32) :=
  nm ((nI e0)) fun y1 =>
  ck (inb y1 30) <|
  nm ((smp.getD y1.toNatClampNeg 0)) fun y3 =>
  if y3 = (11 : Int32) then
    (some ((0 : Int32)))
  else
  if y3 = (12 : Int32) then
    (some ((1 : Int32)))
  else
  if y3 = (13 : Int32) then
    (some ((2 : Int32)))
  else
  if y3 = (14 : Int32) then
    (some ((3 : Int32)))
  else
  if y3 = (15 : Int32) then
    (some ((4 : Int32)))
  else
  (some ((-1 : Int32)))
set_option maxHeartbeats 4000000 in
set_option maxRecDepth 100000 in
theorem t_X6_verbOf_0 {G : GG} {p : Program} {l : Launch} {e : Env} {s : State} {m : MethodId} {args : Array Value} {below : List Frame} {meth : Method} {c : Code} {S : ST} {fu : Nat} {z : Int32} {e0 : Nat}  (hM : MC G p s m args c cX6_verbOf w_X6_verbOf RX6) (hml : c.maxLocals = 1) (hr : meth.sig.returnType = (some .int)) (hlk : meth.locks = false) (he0 : e0 < 30)  (hf : f_X6_verbOf_0 fu   e0  = some z) : ∀ (H : Heap) (locs : List Loc), WB G S s H locs → ∀ (ls : Array Slot), lv_has ls 1 [(0, .ref (kAd G e0))] → W p l e RM_X6_verbOf s m args below meth c H locs 0 0 (QR G below args s (some (.int z)) S S) (F0 m 0 ls []) := by
  intro  H locs hW ls hl
  have hx := hM.1
  have hb := hM.2.1
  refine k_smap hM hW (wgm fk_RX6_68) dX6_verbOf_0 ?_
  refine lv_aload_n hx hb dX6_verbOf_3 rfl (lv_at hl 0 rfl) ?_
  refine k_ord [.ref (kAd G 31)] hM hml hl.1 hW he0 mk_RX6_73 ⟨Nat.le_of_ble_eq_true rfl, Nat.le_of_ble_eq_true rfl⟩ (Nat.le_of_ble_eq_true rfl) ⟨Nat.zero_le _, Nat.zero_le _⟩ dX6_verbOf_4 (fun H locs hW _ => ?_)
  refine lv_topi (fun y1 ey1 => ?_)
  have hf := nm_at ey1 hf
  obtain ⟨h2, hf⟩ := ck_elim hf
  refine k_ism hM hW h2 dX6_verbOf_7 ?_
  refine lv_topi (fun y3 ey3 => ?_)
  have hf := nm_at ey3 hf
  by_cases c4 : y3 = (11 : Int32)
  · have hf := if_t c4 hf
    refine lv_tableIn (off := 36) (tgt := 44) hx hb dX6_verbOf_8 (by rw [c4]; decide) (by rw [c4]; decide) (by rw [c4]; rfl) (by decide) ?_
    refine lv_iconst (v := (0 : Int32)) hx hb dX6_verbOf_44 (by decide) ?_
    cases hf
    exact W.iret hx hb hr (b_ret0 hW (fun _ _ => rfl) _) hW.2.2.2 dX6_verbOf_45 hlk
  have hf := if_f c4 hf
  by_cases c5 : y3 = (12 : Int32)
  · have hf := if_t c5 hf
    refine lv_tableIn (off := 38) (tgt := 46) hx hb dX6_verbOf_8 (by rw [c5]; decide) (by rw [c5]; decide) (by rw [c5]; rfl) (by decide) ?_
    refine lv_iconst (v := (1 : Int32)) hx hb dX6_verbOf_46 (by decide) ?_
    cases hf
    exact W.iret hx hb hr (b_ret0 hW (fun _ _ => rfl) _) hW.2.2.2 dX6_verbOf_47 hlk
  have hf := if_f c5 hf
  by_cases c6 : y3 = (13 : Int32)
  · have hf := if_t c6 hf
    refine lv_tableIn (off := 40) (tgt := 48) hx hb dX6_verbOf_8 (by rw [c6]; decide) (by rw [c6]; decide) (by rw [c6]; rfl) (by decide) ?_
    refine lv_iconst (v := (2 : Int32)) hx hb dX6_verbOf_48 (by decide) ?_
    cases hf
    exact W.iret hx hb hr (b_ret0 hW (fun _ _ => rfl) _) hW.2.2.2 dX6_verbOf_49 hlk
  have hf := if_f c6 hf
  by_cases c7 : y3 = (14 : Int32)
  · have hf := if_t c7 hf
    refine lv_tableIn (off := 42) (tgt := 50) hx hb dX6_verbOf_8 (by rw [c7]; decide) (by rw [c7]; decide) (by rw [c7]; rfl) (by decide) ?_
    refine lv_iconst (v := (3 : Int32)) hx hb dX6_verbOf_50 (by decide) ?_
    cases hf
    exact W.iret hx hb hr (b_ret0 hW (fun _ _ => rfl) _) hW.2.2.2 dX6_verbOf_51 hlk
  have hf := if_f c7 hf
  by_cases c8 : y3 = (15 : Int32)
  · have hf := if_t c8 hf
    refine lv_tableIn (off := 44) (tgt := 52) hx hb dX6_verbOf_8 (by rw [c8]; decide) (by rw [c8]; decide) (by rw [c8]; rfl) (by decide) ?_
    refine lv_iconst (v := (4 : Int32)) hx hb dX6_verbOf_52 (by decide) ?_
    cases hf
    exact W.iret hx hb hr (b_ret0 hW (fun _ _ => rfl) _) hW.2.2.2 dX6_verbOf_53 hlk
  have hf := if_f c8 hf
  refine lv_tableOut (tgt := 54) hx hb dX6_verbOf_8 (sw_out (fun j h1 h2 hj => ?_)) (by decide) ?_
  · have hcases : j = 11 ∨ j = 12 ∨ j = 13 ∨ j = 14 ∨ j = 15 := by omega
    rcases hcases with rfl | rfl | rfl | rfl | rfl
    · exact c4 (Int32.toInt_inj.mp (hj.trans (by decide)))
    · exact c5 (Int32.toInt_inj.mp (hj.trans (by decide)))
    · exact c6 (Int32.toInt_inj.mp (hj.trans (by decide)))
    · exact c7 (Int32.toInt_inj.mp (hj.trans (by decide)))
    · exact c8 (Int32.toInt_inj.mp (hj.trans (by decide)))
  · refine lv_iconst (v := (-1 : Int32)) hx hb dX6_verbOf_54 (by decide) ?_
    cases hf
    exact W.iret hx hb hr (b_ret0 hW (fun _ _ => rfl) _) hW.2.2.2 dX6_verbOf_55 hlk
noncomputable def f_X6_verbOf (fu : Nat) (e0 : Nat) : Option (Int32) := f_X6_verbOf_0 fu e0
set_option maxHeartbeats 4000000 in
set_option maxRecDepth 100000 in
theorem c_X6_verbOf (l : Launch) (G : GG) (fu : Nat) (S : ST) (e0 : Nat) {z : Int32} (he0 : e0 < 30) (hf : f_X6_verbOf fu e0 = some z) : Ct l yX6_verbOf w_X6_verbOf RM_X6_verbOf G S [.ref (kAd G e0)] (some (.int z)) S 0 0 := by
  refine Met.ofW (cc := cX6_verbOf) (maxL := 1) (ret := (some .int)) (by decide) rfl ?_
  intro p e s m args below meth c s₁ B hml hv
  obtain ⟨rfl, hB, hK, hz⟩ := hv
  have hM : MC G p s m _ c cX6_verbOf w_X6_verbOf RX6 := ⟨B.exec, B.bytes, findClass_of_methodNamed B.named, atoms_spec (ws := w_X6_verbOf) B.pre, hK, hz⟩
  have hW : WB G S s s.heap [] := ⟨hB, va_S.rf⟩
  have hl := lv_entry ([.ref (kAd G e0)]) (n := 1) (Nat.le_of_ble_eq_true rfl)
  rw [lg_entry_eq]
  generalize (lg_sl ([.ref (kAd G e0)]) ++ List.replicate (1 - (lg_sl ([.ref (kAd G e0)])).length) Slot.unset).toArray = ls at hl ⊢
  have hl : lv_has ls 1 [(0, .ref (kAd G e0))] := hl
  exact t_X6_verbOf_0 (fu := fu) hM hml B.returns B.notSynchronized he0 hf _ _ hW _ (lv_sub hl [0] rfl)
