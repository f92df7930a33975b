abbrev w_X13_takeWord : List Cond := Cond.code yX13_takeWord cX13_takeWord 2 none :: wsL_law0
abbrev RM_X13_takeWord : Room := { frames := 2, cells := 0, slots := 0, locals := 43 }
noncomputable def f_X13_takeWord_0 (fu : Nat)  (v : GV) (x1 : Int32) : Option (GV) :=
  bd2 (f_X13_hasWord fu v x1) fun r1 v2 =>
  if r1 = 0 then
    (bd (f_X13_wrong fu v2 (1 : Int32)) fun v5 =>
    some v5)
  else
    (some v2)
set_option maxHeartbeats 4000000 in
set_option maxRecDepth 100000 in
theorem t_X13_takeWord_0 {G : GG} {p : Program} {l : Launch} {e : Env} {s : State} {m : MethodId} {args : Array Value} {below : List Frame} {meth : Method} {c : Code} {S : ST} {fu : Nat} {z : GV} {a : Nat} {v0 : GV}  {v : GV} {x1 : Int32} (hM : MC G p s m args c cX13_takeWord w_X13_takeWord RX13) (hml : c.maxLocals = 2) (hr : meth.sig.returnType = none) (hlk : meth.locks = false) (hc0 : gC v0 = 12)  (hf : f_X13_takeWord_0 fu  v x1 = some z) : gC v = 12 → ∀ (H : Heap) (locs : List Loc), WB G (st S a v) s H locs → ∀ (ls : Array Slot), lv_has ls 2 [(0, .ref a), (1, .int x1)] → W p l e RM_X13_takeWord s m args below meth c H locs 0 0 (QR G below args s none (st S a v0) (st S a z)) (F0 m 0 ls []) := by
  intro hc H locs hW ls hl
  have hx := hM.1
  have hb := hM.2.1
  refine lv_aload_n hx hb dX13_takeWord_0 rfl (lv_at hl 0 rfl) ?_
  refine lv_iload_n hx hb dX13_takeWord_1 rfl (lv_at hl 1 rfl) ?_
  obtain ⟨r1, v2, hr1, hf⟩ := bd2_elim hf
  refine b_callVi [.int x1] [] hM hml hl.1 hW hc rfl (by decide) (c_X13_hasWord l G fu _ a v _ hc hr1) (cwV 1 hM.2.2.2.1 (gV mk_RX13_204 im_X13_hasWord se_X13_hasWord it_RX13 cd_X13_hasWord) rfl rfl rfl (by decide +kernel) ⟨Nat.le_of_ble_eq_true rfl, Nat.le_of_ble_eq_true rfl⟩) rfl rfl (Nat.le_of_ble_eq_true rfl) ⟨Nat.zero_le _, Nat.zero_le _⟩ dX13_takeWord_2 (fun H locs hW hk => ?_)
  have hc := keep_at hc hk
  refine lv_if_ne (tgt := 13) hx hb dX13_takeWord_5 (by decide) (fun c3 => ?_) (fun c3 => ?_)
  · have hf := if_f c3 hf
    cases hf
    exact W.vret hx hb hr (b_ret0 hW (keep_s2 hc0 hc) _) hW.2.2.2 dX13_takeWord_13 hlk
  · have hf := if_t c3 hf
    refine lv_aload_n hx hb dX13_takeWord_8 rfl (lv_at hl 0 rfl) ?_
    refine lv_iconst (v := (1 : Int32)) hx hb dX13_takeWord_9 (by decide) ?_
    obtain ⟨v5, hr4, hf⟩ := bd_elim hf
    refine b_callVv [.int (1 : Int32)] [] hM hml hl.1 hW hc rfl (by decide) (c_X13_wrong l G fu _ a v2 _ hc hr4) (cwV 1 hM.2.2.2.1 (gV mk_RX13_198 im_X13_wrong se_X13_wrong it_RX13 cd_X13_wrong) rfl rfl rfl (by decide +kernel) ⟨Nat.le_of_ble_eq_true rfl, Nat.le_of_ble_eq_true rfl⟩) rfl rfl (Nat.le_of_ble_eq_true rfl) ⟨Nat.zero_le _, Nat.zero_le _⟩ dX13_takeWord_10 (fun H locs hW hk => ?_)
    have hc := keep_at hc hk
    cases hf
    exact W.vret hx hb hr (b_ret0 hW (keep_s2 hc0 hc) _) hW.2.2.2 dX13_takeWord_13 hlk
noncomputable def f_X13_takeWord (fu : Nat) (v : GV) (x1 : Int32) : Option (GV) := f_X13_takeWord_0 fu v x1
set_option maxHeartbeats 4000000 in
set_option maxRecDepth 100000 in
theorem c_X13_takeWord (l : Launch) (G : GG) (fu : Nat) (S : ST) (a : Nat) (v : GV) (x1 : Int32) {z : GV} (hc : gC v = 12) (hf : f_X13_takeWord fu v x1 = some z) : Ct l yX13_takeWord w_X13_takeWord RM_X13_takeWord G (st S a v) [.ref a, .int x1] none (st S a z) 0 0 := by
  refine Met.ofW (cc := cX13_takeWord) (maxL := 2) (ret := none) (by decide) rfl ?_
  intro p e s m args below meth c s₁ B hml hv
  obtain ⟨rfl, hB, hK, hz⟩ := hv
  have hM : MC G p s m _ c cX13_takeWord w_X13_takeWord RX13 := ⟨B.exec, B.bytes, findClass_of_methodNamed B.named, atoms_spec (ws := w_X13_takeWord) B.pre, hK, hz⟩
  have hW : WB G (st S a v) s s.heap [] := ⟨hB, va_S.rf⟩
  have hl := lv_entry ([.ref a, .int x1]) (n := 2) (Nat.le_of_ble_eq_true rfl)
  rw [lg_entry_eq]
  generalize (lg_sl ([.ref a, .int x1]) ++ List.replicate (2 - (lg_sl ([.ref a, .int x1])).length) Slot.unset).toArray = ls at hl ⊢
  have hl : lv_has ls 2 [(0, .ref a), (1, .int x1)] := hl
  exact t_X13_takeWord_0 hM hml B.returns B.notSynchronized hc hf hc _ _ hW _ (lv_sub hl [0, 1] rfl)
abbrev w_X13_within : List Cond := Cond.code yX13_within cX13_within 3 (some .boolean) :: wsL_law0
abbrev RM_X13_within : Room := { frames := 0, cells := 0, slots := 0, locals := 0 }
noncomputable def f_X13_within_14 (fu : Nat)  : Option (Int32) :=
  some (0 : Int32)
set_option maxHeartbeats 4000000 in
set_option maxRecDepth 100000 in
theorem t_X13_within_14 {G : GG} {p : Program} {l : Launch} {e : Env} {s : State} {m : MethodId} {args : Array Value} {below : List Frame} {meth : Method} {c : Code} {S : ST} {fu : Nat} {z : Int32}  (hM : MC G p s m args c cX13_within w_X13_within RX13) (hml : c.maxLocals = 3) (hr : meth.sig.returnType = (some .boolean)) (hlk : meth.locks = false)  (hf : f_X13_within_14 fu    = some z) : ∀ (H : Heap) (locs : List Loc), WB G S s H locs → ∀ (ls : Array Slot), lv_has ls 3 [] → W p l e RM_X13_within s m args below meth c H locs 0 0 (QR G below args s (some (.int z)) S S) (F0 m 14 ls []) := by
  intro H locs hW ls hl
  have hx := hM.1
  have hb := hM.2.1
  refine lv_iconst (v := (0 : Int32)) hx hb dX13_within_14 (by decide) ?_
  cases hf
  exact W.zret (v := (0 : Int32)) hx hb hr (by decide) (b_ret0 hW (fun _ _ => rfl) _) hW.2.2.2 dX13_within_15 hlk
noncomputable def f_X13_within_0 (fu : Nat)  (x0 : Int32) (x1 : Int32) (x2 : Int32) : Option (Int32) :=
  if x0 < x1 then
    (f_X13_within_14 fu)
  else
    (if x2 < x0 then
      (f_X13_within_14 fu)
    else
      (some (1 : Int32)))
set_option maxHeartbeats 4000000 in
set_option maxRecDepth 100000 in
theorem t_X13_within_0 {G : GG} {p : Program} {l : Launch} {e : Env} {s : State} {m : MethodId} {args : Array Value} {below : List Frame} {meth : Method} {c : Code} {S : ST} {fu : Nat} {z : Int32}  {x0 : Int32} {x1 : Int32} {x2 : Int32} (hM : MC G p s m args c cX13_within w_X13_within RX13) (hml : c.maxLocals = 3) (hr : meth.sig.returnType = (some .boolean)) (hlk : meth.locks = false)  (hf : f_X13_within_0 fu   x0 x1 x2 = some z) : ∀ (H : Heap) (locs : List Loc), WB G S s H locs → ∀ (ls : Array Slot), lv_has ls 3 [(0, .int x0), (1, .int x1), (2, .int x2)] → W p l e RM_X13_within s m args below meth c H locs 0 0 (QR G below args s (some (.int z)) S S) (F0 m 0 ls []) := by
  intro H locs hW ls hl
  have hx := hM.1
  have hb := hM.2.1
  refine lv_iload_n hx hb dX13_within_0 rfl (lv_at hl 0 rfl) ?_
  refine lv_iload_n hx hb dX13_within_1 rfl (lv_at hl 1 rfl) ?_
  refine lv_icmp_lt (tgt := 14) hx hb dX13_within_2 (by decide) (fun c1 => ?_) (fun c1 => ?_)
  · have hf := if_t c1 hf
    exact t_X13_within_14 (fu := fu) hM hml hr hlk hf _ _ hW _ (lv_sub hl [] rfl)
  · have hf := if_f c1 hf
    refine lv_iload_n hx hb dX13_within_5 rfl (lv_at hl 0 rfl) ?_
    refine lv_iload_n hx hb dX13_within_6 rfl (lv_at hl 2 rfl) ?_
    refine lv_icmp_gt (tgt := 14) hx hb dX13_within_7 (by decide) (fun c2 => ?_) (fun c2 => ?_)
    · have hf := if_t c2 hf
      exact t_X13_within_14 (fu := fu) hM hml hr hlk hf _ _ hW _ (lv_sub hl [] rfl)
    · have hf := if_f c2 hf
      refine lv_iconst (v := (1 : Int32)) hx hb dX13_within_10 (by decide) ?_
      refine lv_goto (tgt := 15) hx hb dX13_within_11 (by decide) ?_
      cases hf
      exact W.zret (v := (1 : Int32)) hx hb hr (by decide) (b_ret0 hW (fun _ _ => rfl) _) hW.2.2.2 dX13_within_15 hlk
noncomputable def f_X13_within (fu : Nat) (x0 : Int32) (x1 : Int32) (x2 : Int32) : Option (Int32) := f_X13_within_0 fu x0 x1 x2
set_option maxHeartbeats 4000000 in
set_option maxRecDepth 100000 in
theorem c_X13_within (l : Launch) (G : GG) (fu : Nat) (S : ST) (x0 : Int32) (x1 : Int32) (x2 : Int32) {z : Int32} (hf : f_X13_within fu x0 x1 x2 = some z) : Ct l yX13_within w_X13_within RM_X13_within G S [.int x0, .int x1, .int x2] (some (.int z)) S 0 0 := by
  refine Met.ofW (cc := cX13_within) (maxL := 3) (ret := (some .boolean)) (by decide) rfl ?_
  intro p e s m args below meth c s₁ B hml hv
  obtain ⟨rfl, hB, hK, hz⟩ := hv
  have hM : MC G p s m _ c cX13_within w_X13_within RX13 := ⟨B.exec, B.bytes, findClass_of_methodNamed B.named, atoms_spec (ws := w_X13_within) B.pre, hK, hz⟩
  have hW : WB G S s s.heap [] := ⟨hB, va_S.rf⟩
  have hl := lv_entry ([.int x0, .int x1, .int x2]) (n := 3) (Nat.le_of_ble_eq_true rfl)
  rw [lg_entry_eq]
  generalize (lg_sl ([.int x0, .int x1, .int x2]) ++ List.replicate (3 - (lg_sl ([.int x0, .int x1, .int x2])).length) Slot.unset).toArray = ls at hl ⊢
  have hl : lv_has ls 3 [(0, .int x0), (1, .int x1), (2, .int x2)] := hl
  exact t_X13_within_0 hM hml B.returns B.notSynchronized hf _ _ hW _ (lv_sub hl [0, 1, 2] rfl)
abbrev w_X13_takeNumber : List Cond := Cond.code yX13_takeNumber cX13_takeNumber 3 (some .int) :: wsL_law0
abbrev RM_X13_takeNumber : Room := { frames := 1, cells := 0, slots := 0, locals := 21 }
noncomputable def f_X13_takeNumber_70 (fu : Nat)  (v : GV) : Option (Int32 × GV) :=
  if (gI v 8) ≤ 0 then
    (nm (sI v 7 ((gI v 7) + (1 : Int32))) fun v2 =>
    nm (((gI v2 7) - (1 : Int32))) fun y3 =>
    ck (inb y3 1002) <|
    some (((gL v2 6 y3.toNatClampNeg)).toInt32, v2))
  else
    (some ((0 : Int32), v))
set_option maxHeartbeats 4000000 in
set_option maxRecDepth 100000 in
theorem t_X13_takeNumber_70 {G : GG} {p : Program} {l : Launch} {e : Env} {s : State} {m : MethodId} {args : Array Value} {below : List Frame} {meth : Method} {c : Code} {S : ST} {fu : Nat} {z : Int32 × GV} {a : Nat} {v0 : GV}  {v : GV} (hM : MC G p s m args c cX13_takeNumber w_X13_takeNumber RX13) (hml : c.maxLocals = 3) (hr : meth.sig.returnType = (some .int)) (hlk : meth.locks = false) (hc0 : gC v0 = 12)  (hf : f_X13_takeNumber_70 fu  v  = some z) : gC v = 12 → ∀ (H : Heap) (locs : List Loc), WB G (st S a v) s H locs → ∀ (ls : Array Slot), lv_has ls 3 [(0, .ref a)] → W p l e RM_X13_takeNumber s m args below meth c H locs 0 0 (QR G below args s (some (.int z.1)) (st S a v0) (st S a z.2)) (F0 m 70 ls []) := by
  intro hc H locs hW ls hl
  have hx := hM.1
  have hb := hM.2.1
  refine lv_aload_n hx hb dX13_takeNumber_70 rfl (lv_at hl 0 rfl) ?_
  refine b_get hM hW 11 8 hc rfl rfl (by decide) wi_X13 (wgm fk_RX13_192) (x := .int (gI v 8)) rfl dX13_takeNumber_71 ?_
  refine lv_if_le (tgt := 79) hx hb dX13_takeNumber_74 (by decide) (fun c1 => ?_) (fun c1 => ?_)
  · have hf := if_t c1 hf
    refine lv_aload_n hx hb dX13_takeNumber_79 rfl (lv_at hl 0 rfl) ?_
    refine lv_dup hx hb dX13_takeNumber_80 rfl ?_
    refine b_get hM hW 11 7 hc rfl rfl (by decide) wi_X13 (wgm fk_RX13_189) (x := .int (gI v 7)) rfl dX13_takeNumber_81 ?_
    refine lv_iconst (v := (1 : Int32)) hx hb dX13_takeNumber_84 (by decide) ?_
    refine lv_iadd hx hb dX13_takeNumber_85 ?_
    refine b_putI hM hW 11 7 hc rfl rfl (by decide) wi_X13 tyX13 tyX13_ok nmX13 (wgm fk_RX13_189) rfl rfl rfl dX13_takeNumber_86 (fun v2 ev2 hc H locs hW => ?_)
    have hf := nm_at ev2 hf
    refine lv_aload_n hx hb dX13_takeNumber_89 rfl (lv_at hl 0 rfl) ?_
    refine b_get hM hW 11 6 hc rfl rfl (by decide) wi_X13 (wgm fk_RX13_30) (x := .ref (a + 4)) rfl dX13_takeNumber_90 ?_
    refine lv_aload_n hx hb dX13_takeNumber_93 rfl (lv_at hl 0 rfl) ?_
    refine b_get hM hW 11 7 hc rfl rfl (by decide) wi_X13 (wgm fk_RX13_189) (x := .int (gI v2 7)) rfl dX13_takeNumber_94 ?_
    refine lv_iconst (v := (1 : Int32)) hx hb dX13_takeNumber_97 (by decide) ?_
    refine lv_isub hx hb dX13_takeNumber_98 ?_
    refine lv_topi (fun y3 ey3 => ?_)
    have hf := nm_at ey3 hf
    obtain ⟨h4, hf⟩ := ck_elim hf
    refine b_lald (n := 1002) hM hW 11 6 hc (by decide) rfl rfl rfl rfl h4 dX13_takeNumber_99 ?_
    refine lv_l2i hx hb dX13_takeNumber_100 rfl ?_
    cases hf
    exact W.iret hx hb hr (b_ret0 hW (keep_s2 hc0 hc) _) hW.2.2.2 dX13_takeNumber_101 hlk
  · have hf := if_f c1 hf
    refine lv_iconst (v := (0 : Int32)) hx hb dX13_takeNumber_77 (by decide) ?_
    cases hf
    exact W.iret hx hb hr (b_ret0 hW (keep_s2 hc0 hc) _) hW.2.2.2 dX13_takeNumber_78 hlk
noncomputable def f_X13_takeNumber_65 (fu : Nat)  (v : GV) : Option (Int32 × GV) :=
  bd (f_X13_wrong fu v (4 : Int32)) fun v2 =>
  f_X13_takeNumber_70 fu v2
set_option maxHeartbeats 4000000 in
set_option maxRecDepth 100000 in
theorem t_X13_takeNumber_65 {G : GG} {p : Program} {l : Launch} {e : Env} {s : State} {m : MethodId} {args : Array Value} {below : List Frame} {meth : Method} {c : Code} {S : ST} {fu : Nat} {z : Int32 × GV} {a : Nat} {v0 : GV}  {v : GV} (hM : MC G p s m args c cX13_takeNumber w_X13_takeNumber RX13) (hml : c.maxLocals = 3) (hr : meth.sig.returnType = (some .int)) (hlk : meth.locks = false) (hc0 : gC v0 = 12)  (hf : f_X13_takeNumber_65 fu  v  = some z) : gC v = 12 → ∀ (H : Heap) (locs : List Loc), WB G (st S a v) s H locs → ∀ (ls : Array Slot), lv_has ls 3 [(0, .ref a)] → W p l e RM_X13_takeNumber s m args below meth c H locs 0 0 (QR G below args s (some (.int z.1)) (st S a v0) (st S a z.2)) (F0 m 65 ls []) := by
  intro hc H locs hW ls hl
  have hx := hM.1
  have hb := hM.2.1
  refine lv_aload_n hx hb dX13_takeNumber_65 rfl (lv_at hl 0 rfl) ?_
  refine lv_iconst (v := (4 : Int32)) hx hb dX13_takeNumber_66 (by decide) ?_
  obtain ⟨v2, hr1, hf⟩ := bd_elim hf
  refine b_callVv [.int (4 : Int32)] [] hM hml hl.1 hW hc rfl (by decide) (c_X13_wrong l G fu _ a v _ hc hr1) (cwV 1 hM.2.2.2.1 (gV mk_RX13_198 im_X13_wrong se_X13_wrong it_RX13 cd_X13_wrong) rfl rfl rfl (by decide +kernel) ⟨Nat.le_of_ble_eq_true rfl, Nat.le_of_ble_eq_true rfl⟩) rfl rfl (Nat.le_of_ble_eq_true rfl) ⟨Nat.zero_le _, Nat.zero_le _⟩ dX13_takeNumber_67 (fun H locs hW hk => ?_)
  have hc := keep_at hc hk
  exact t_X13_takeNumber_70 (fu := fu) hM hml hr hlk hc0 hf hc _ _ hW _ (lv_sub hl [0] rfl)
noncomputable def f_X13_takeNumber_28 (fu : Nat)  (v : GV) (x1 : Int32) (x2 : Int32) : Option (Int32 × GV) :=
  if (gI v 8) = 0 then
    (nm ((gI v 7)) fun y2 =>
    ck (inb y2 1002) <|
    if (lg_cmp (gL v 6 y2.toNatClampNeg) (x1).toInt64) < 0 then
      (f_X13_takeNumber_65 fu v)
    else
      (nm ((gI v 7)) fun y5 =>
      ck (inb y5 1002) <|
      if (lg_cmp (gL v 6 y5.toNatClampNeg) (x2).toInt64) ≤ 0 then
        (f_X13_takeNumber_70 fu v)
      else
        (f_X13_takeNumber_65 fu v)))
  else
    (f_X13_takeNumber_70 fu v)
set_option maxHeartbeats 4000000 in
set_option maxRecDepth 100000 in
theorem t_X13_takeNumber_28 {G : GG} {p : Program} {l : Launch} {e : Env} {s : State} {m : MethodId} {args : Array Value} {below : List Frame} {meth : Method} {c : Code} {S : ST} {fu : Nat} {z : Int32 × GV} {a : Nat} {v0 : GV}  {v : GV} {x1 : Int32} {x2 : Int32} (hM : MC G p s m args c cX13_takeNumber w_X13_takeNumber RX13) (hml : c.maxLocals = 3) (hr : meth.sig.returnType = (some .int)) (hlk : meth.locks = false) (hc0 : gC v0 = 12)  (hf : f_X13_takeNumber_28 fu  v x1 x2 = some z) : gC v = 12 → ∀ (H : Heap) (locs : List Loc), WB G (st S a v) s H locs → ∀ (ls : Array Slot), lv_has ls 3 [(0, .ref a), (1, .int x1), (2, .int x2)] → W p l e RM_X13_takeNumber s m args below meth c H locs 0 0 (QR G below args s (some (.int z.1)) (st S a v0) (st S a z.2)) (F0 m 28 ls []) := by
  intro hc H locs hW ls hl
  have hx := hM.1
  have hb := hM.2.1
  refine lv_aload_n hx hb dX13_takeNumber_28 rfl (lv_at hl 0 rfl) ?_
  refine b_get hM hW 11 8 hc rfl rfl (by decide) wi_X13 (wgm fk_RX13_192) (x := .int (gI v 8)) rfl dX13_takeNumber_29 ?_
  refine lv_if_ne (tgt := 70) hx hb dX13_takeNumber_32 (by decide) (fun c1 => ?_) (fun c1 => ?_)
  · have hf := if_f c1 hf
    exact t_X13_takeNumber_70 (fu := fu) hM hml hr hlk hc0 hf hc _ _ hW _ (lv_sub hl [0] rfl)
  · have hf := if_t c1 hf
    refine lv_aload_n hx hb dX13_takeNumber_35 rfl (lv_at hl 0 rfl) ?_
    refine b_get hM hW 11 6 hc rfl rfl (by decide) wi_X13 (wgm fk_RX13_30) (x := .ref (a + 4)) rfl dX13_takeNumber_36 ?_
    refine lv_aload_n hx hb dX13_takeNumber_39 rfl (lv_at hl 0 rfl) ?_
    refine b_get hM hW 11 7 hc rfl rfl (by decide) wi_X13 (wgm fk_RX13_189) (x := .int (gI v 7)) rfl dX13_takeNumber_40 ?_
    refine lv_topi (fun y2 ey2 => ?_)
    have hf := nm_at ey2 hf
    obtain ⟨h3, hf⟩ := ck_elim hf
    refine b_lald (n := 1002) hM hW 11 6 hc (by decide) rfl rfl rfl rfl h3 dX13_takeNumber_43 ?_
    refine lv_iload_n hx hb dX13_takeNumber_44 rfl (lv_at hl 1 rfl) ?_
    refine lv_i2l hx hb dX13_takeNumber_45 rfl ?_
    refine W.lcmp hx hb dX13_takeNumber_46 ?_
    refine lv_if_lt (tgt := 65) hx hb dX13_takeNumber_47 (by decide) (fun c4 => ?_) (fun c4 => ?_)
    · have hf := if_t c4 hf
      exact t_X13_takeNumber_65 (fu := fu) hM hml hr hlk hc0 hf hc _ _ hW _ (lv_sub hl [0] rfl)
    · have hf := if_f c4 hf
      refine lv_aload_n hx hb dX13_takeNumber_50 rfl (lv_at hl 0 rfl) ?_
      refine b_get hM hW 11 6 hc rfl rfl (by decide) wi_X13 (wgm fk_RX13_30) (x := .ref (a + 4)) rfl dX13_takeNumber_51 ?_
      refine lv_aload_n hx hb dX13_takeNumber_54 rfl (lv_at hl 0 rfl) ?_
      refine b_get hM hW 11 7 hc rfl rfl (by decide) wi_X13 (wgm fk_RX13_189) (x := .int (gI v 7)) rfl dX13_takeNumber_55 ?_
      refine lv_topi (fun y5 ey5 => ?_)
      have hf := nm_at ey5 hf
      obtain ⟨h6, hf⟩ := ck_elim hf
      refine b_lald (n := 1002) hM hW 11 6 hc (by decide) rfl rfl rfl rfl h6 dX13_takeNumber_58 ?_
      refine lv_iload_n hx hb dX13_takeNumber_59 rfl (lv_at hl 2 rfl) ?_
      refine lv_i2l hx hb dX13_takeNumber_60 rfl ?_
      refine W.lcmp hx hb dX13_takeNumber_61 ?_
      refine lv_if_le (tgt := 70) hx hb dX13_takeNumber_62 (by decide) (fun c7 => ?_) (fun c7 => ?_)
      · have hf := if_t c7 hf
        exact t_X13_takeNumber_70 (fu := fu) hM hml hr hlk hc0 hf hc _ _ hW _ (lv_sub hl [0] rfl)
      · have hf := if_f c7 hf
        exact t_X13_takeNumber_65 (fu := fu) hM hml hr hlk hc0 hf hc _ _ hW _ (lv_sub hl [0] rfl)
noncomputable def f_X13_takeNumber_0 (fu : Nat)  (v : GV) (x1 : Int32) (x2 : Int32) : Option (Int32 × GV) :=
  if (gI v 8) = 0 then
    (nm ((gI v 7)) fun y2 =>
    ck (inb y2 1002) <|
    if (gA v 4 y2.toNatClampNeg) = (2 : Int32) then
      (f_X13_takeNumber_28 fu v x1 x2)
    else
      (bd (f_X13_wrong fu v (1 : Int32)) fun v6 =>
      f_X13_takeNumber_70 fu v6))
  else
    (f_X13_takeNumber_28 fu v x1 x2)
set_option maxHeartbeats 4000000 in
set_option maxRecDepth 100000 in
theorem t_X13_takeNumber_0 {G : GG} {p : Program} {l : Launch} {e : Env} {s : State} {m : MethodId} {args : Array Value} {below : List Frame} {meth : Method} {c : Code} {S : ST} {fu : Nat} {z : Int32 × GV} {a : Nat} {v0 : GV}  {v : GV} {x1 : Int32} {x2 : Int32} (hM : MC G p s m args c cX13_takeNumber w_X13_takeNumber RX13) (hml : c.maxLocals = 3) (hr : meth.sig.returnType = (some .int)) (hlk : meth.locks = false) (hc0 : gC v0 = 12)  (hf : f_X13_takeNumber_0 fu  v x1 x2 = some z) : gC v = 12 → ∀ (H : Heap) (locs : List Loc), WB G (st S a v) s H locs → ∀ (ls : Array Slot), lv_has ls 3 [(0, .ref a), (1, .int x1), (2, .int x2)] → W p l e RM_X13_takeNumber s m args below meth c H locs 0 0 (QR G below args s (some (.int z.1)) (st S a v0) (st S a z.2)) (F0 m 0 ls []) := by
  intro hc H locs hW ls hl
  have hx := hM.1
  have hb := hM.2.1
  refine lv_aload_n hx hb dX13_takeNumber_0 rfl (lv_at hl 0 rfl) ?_
  refine b_get hM hW 11 8 hc rfl rfl (by decide) wi_X13 (wgm fk_RX13_192) (x := .int (gI v 8)) rfl dX13_takeNumber_1 ?_
  refine lv_if_ne (tgt := 28) hx hb dX13_takeNumber_4 (by decide) (fun c1 => ?_) (fun c1 => ?_)
  · have hf := if_f c1 hf
    exact t_X13_takeNumber_28 (fu := fu) hM hml hr hlk hc0 hf hc _ _ hW _ (lv_sub hl [0, 1, 2] rfl)
  · have hf := if_t c1 hf
    refine lv_aload_n hx hb dX13_takeNumber_7 rfl (lv_at hl 0 rfl) ?_
    refine b_get hM hW 11 4 hc rfl rfl (by decide) wi_X13 (wgm fk_RX13_24) (x := .ref (a + 2)) rfl dX13_takeNumber_8 ?_
    refine lv_aload_n hx hb dX13_takeNumber_11 rfl (lv_at hl 0 rfl) ?_
    refine b_get hM hW 11 7 hc rfl rfl (by decide) wi_X13 (wgm fk_RX13_189) (x := .int (gI v 7)) rfl dX13_takeNumber_12 ?_
    refine lv_topi (fun y2 ey2 => ?_)
    have hf := nm_at ey2 hf
    obtain ⟨h3, hf⟩ := ck_elim hf
    refine b_iald (n := 1002) hM hW 11 4 hc (by decide) rfl rfl rfl rfl h3 dX13_takeNumber_15 ?_
    refine lv_iconst (v := (2 : Int32)) hx hb dX13_takeNumber_16 (by decide) ?_
    refine lv_icmp_eq (tgt := 28) hx hb dX13_takeNumber_17 (by decide) (fun c4 => ?_) (fun c4 => ?_)
    · have hf := if_t c4 hf
      exact t_X13_takeNumber_28 (fu := fu) hM hml hr hlk hc0 hf hc _ _ hW _ (lv_sub hl [0, 1, 2] rfl)
    · have hf := if_f c4 hf
      refine lv_aload_n hx hb dX13_takeNumber_20 rfl (lv_at hl 0 rfl) ?_
      refine lv_iconst (v := (1 : Int32)) hx hb dX13_takeNumber_21 (by decide) ?_
      obtain ⟨v6, hr5, hf⟩ := bd_elim hf
      refine b_callVv [.int (1 : Int32)] [] hM hml hl.1 hW hc rfl (by decide) (c_X13_wrong l G fu _ a v _ hc hr5) (cwV 1 hM.2.2.2.1 (gV mk_RX13_198 im_X13_wrong se_X13_wrong it_RX13 cd_X13_wrong) rfl rfl rfl (by decide +kernel) ⟨Nat.le_of_ble_eq_true rfl, Nat.le_of_ble_eq_true rfl⟩) rfl rfl (Nat.le_of_ble_eq_true rfl) ⟨Nat.zero_le _, Nat.zero_le _⟩ dX13_takeNumber_22 (fun H locs hW hk => ?_)
      have hc := keep_at hc hk
      refine lv_goto (tgt := 70) hx hb dX13_takeNumber_25 (by decide) ?_
      exact t_X13_takeNumber_70 (fu := fu) hM hml hr hlk hc0 hf hc _ _ hW _ (lv_sub hl [0] rfl)
noncomputable def f_X13_takeNumber (fu : Nat) (v : GV) (x1 : Int32) (x2 : Int32) : Option (Int32 × GV) := f_X13_takeNumber_0 fu v x1 x2
set_option maxHeartbeats 4000000 in
set_option maxRecDepth 100000 in
theorem c_X13_takeNumber (l : Launch) (G : GG) (fu : Nat) (S : ST) (a : Nat) (v : GV) (x1 : Int32) (x2 : Int32) {z : Int32} {w : GV} (hc : gC v = 12) (hf : f_X13_takeNumber fu v x1 x2 = some (z, w)) : Ct l yX13_takeNumber w_X13_takeNumber RM_X13_takeNumber G (st S a v) [.ref a, .int x1, .int x2] (some (.int z)) (st S a w) 0 0 := by
  refine Met.ofW (cc := cX13_takeNumber) (maxL := 3) (ret := (some .int)) (by decide) rfl ?_
  intro p e s m args below meth c s₁ B hml hv
  obtain ⟨rfl, hB, hK, hz⟩ := hv
  have hM : MC G p s m _ c cX13_takeNumber w_X13_takeNumber RX13 := ⟨B.exec, B.bytes, findClass_of_methodNamed B.named, atoms_spec (ws := w_X13_takeNumber) B.pre, hK, hz⟩
  have hW : WB G (st S a v) s s.heap [] := ⟨hB, va_S.rf⟩
  have hl := lv_entry ([.ref a, .int x1, .int x2]) (n := 3) (Nat.le_of_ble_eq_true rfl)
  rw [lg_entry_eq]
  generalize (lg_sl ([.ref a, .int x1, .int x2]) ++ List.replicate (3 - (lg_sl ([.ref a, .int x1, .int x2])).length) Slot.unset).toArray = ls at hl ⊢
  have hl : lv_has ls 3 [(0, .ref a), (1, .int x1), (2, .int x2)] := hl
  exact t_X13_takeNumber_0 hM hml B.returns B.notSynchronized hc hf hc _ _ hW _ (lv_sub hl [0, 1, 2] rfl)
abbrev w_X13_takeAfter : List Cond := Cond.code yX13_takeAfter cX13_takeAfter 4 (some .int) :: wsL_law0
abbrev RM_X13_takeAfter : Room := { frames := 3, cells := 0, slots := 0, locals := 64 }
noncomputable def f_X13_takeAfter_0 (fu : Nat)  (v : GV) (x1 : Int32) (x2 : Int32) (x3 : Int32) : Option (Int32 × GV) :=
  bd (f_X13_takeWord fu v x1) fun v2 =>
  bd2 (f_X13_takeNumber fu v2 x2 x3) fun r3 v4 =>
  some (r3, v4)
set_option maxHeartbeats 4000000 in
set_option maxRecDepth 100000 in
theorem t_X13_takeAfter_0 {G : GG} {p : Program} {l : Launch} {e : Env} {s : State} {m : MethodId} {args : Array Value} {below : List Frame} {meth : Method} {c : Code} {S : ST} {fu : Nat} {z : Int32 × GV} {a : Nat} {v0 : GV}  {v : GV} {x1 : Int32} {x2 : Int32} {x3 : Int32} (hM : MC G p s m args c cX13_takeAfter w_X13_takeAfter RX13) (hml : c.maxLocals = 4) (hr : meth.sig.returnType = (some .int)) (hlk : meth.locks = false) (hc0 : gC v0 = 12)  (hf : f_X13_takeAfter_0 fu  v x1 x2 x3 = some z) : gC v = 12 → ∀ (H : Heap) (locs : List Loc), WB G (st S a v) s H locs → ∀ (ls : Array Slot), lv_has ls 4 [(0, .ref a), (1, .int x1), (2, .int x2), (3, .int x3)] → W p l e RM_X13_takeAfter s m args below meth c H locs 0 0 (QR G below args s (some (.int z.1)) (st S a v0) (st S a z.2)) (F0 m 0 ls []) := by
  intro hc H locs hW ls hl
  have hx := hM.1
  have hb := hM.2.1
  refine lv_aload_n hx hb dX13_takeAfter_0 rfl (lv_at hl 0 rfl) ?_
  refine lv_iload_n hx hb dX13_takeAfter_1 rfl (lv_at hl 1 rfl) ?_
  obtain ⟨v2, hr1, hf⟩ := bd_elim hf
  refine b_callVv [.int x1] [] hM hml hl.1 hW hc rfl (by decide) (c_X13_takeWord l G fu _ a v _ hc hr1) (cwV 1 hM.2.2.2.1 (gV mk_RX13_207 im_X13_takeWord se_X13_takeWord it_RX13 cd_X13_takeWord) rfl rfl rfl (by decide +kernel) ⟨Nat.le_of_ble_eq_true rfl, Nat.le_of_ble_eq_true rfl⟩) rfl rfl (Nat.le_of_ble_eq_true rfl) ⟨Nat.zero_le _, Nat.zero_le _⟩ dX13_takeAfter_2 (fun H locs hW hk => ?_)
  have hc := keep_at hc hk
  refine lv_aload_n hx hb dX13_takeAfter_5 rfl (lv_at hl 0 rfl) ?_
  refine lv_iload_n hx hb dX13_takeAfter_6 rfl (lv_at hl 2 rfl) ?_
  refine lv_iload_n hx hb dX13_takeAfter_7 rfl (lv_at hl 3 rfl) ?_
  obtain ⟨r3, v4, hr3, hf⟩ := bd2_elim hf
  refine b_callVi [.int x2, .int x3] [] hM hml hl.1 hW hc rfl (by decide) (c_X13_takeNumber l G fu _ a v2 _ _ hc hr3) (cwV 2 hM.2.2.2.1 (gV mk_RX13_210 im_X13_takeNumber se_X13_takeNumber it_RX13 cd_X13_takeNumber) rfl rfl rfl (by decide +kernel) ⟨Nat.le_of_ble_eq_true rfl, Nat.le_of_ble_eq_true rfl⟩) rfl rfl (Nat.le_of_ble_eq_true rfl) ⟨Nat.zero_le _, Nat.zero_le _⟩ dX13_takeAfter_8 (fun H locs hW hk => ?_)
  have hc := keep_at hc hk
  cases hf
  exact W.iret hx hb hr (b_ret0 hW (keep_s2 hc0 hc) _) hW.2.2.2 dX13_takeAfter_11 hlk
noncomputable def f_X13_takeAfter (fu : Nat) (v : GV) (x1 : Int32) (x2 : Int32) (x3 : Int32) : Option (Int32 × GV) := f_X13_takeAfter_0 fu v x1 x2 x3
set_option maxHeartbeats 4000000 in
set_option maxRecDepth 100000 in
theorem c_X13_takeAfter (l : Launch) (G : GG) (fu : Nat) (S : ST) (a : Nat) (v : GV) (x1 : Int32) (x2 : Int32) (x3 : Int32) {z : Int32} {w : GV} (hc : gC v = 12) (hf : f_X13_takeAfter fu v x1 x2 x3 = some (z, w)) : Ct l yX13_takeAfter w_X13_takeAfter RM_X13_takeAfter G (st S a v) [.ref a, .int x1, .int x2, .int x3] (some (.int z)) (st S a w) 0 0 := by
  refine Met.ofW (cc := cX13_takeAfter) (maxL := 4) (ret := (some .int)) (by decide) rfl ?_
  intro p e s m args below meth c s₁ B hml hv
  obtain ⟨rfl, hB, hK, hz⟩ := hv
  have hM : MC G p s m _ c cX13_takeAfter w_X13_takeAfter RX13 := ⟨B.exec, B.bytes, findClass_of_methodNamed B.named, atoms_spec (ws := w_X13_takeAfter) B.pre, hK, hz⟩
  have hW : WB G (st S a v) s s.heap [] := ⟨hB, va_S.rf⟩
  have hl := lv_entry ([.ref a, .int x1, .int x2, .int x3]) (n := 4) (Nat.le_of_ble_eq_true rfl)
  rw [lg_entry_eq]
  generalize (lg_sl ([.ref a, .int x1, .int x2, .int x3]) ++ List.replicate (4 - (lg_sl ([.ref a, .int x1, .int x2, .int x3])).length) Slot.unset).toArray = ls at hl ⊢
  have hl : lv_has ls 4 [(0, .ref a), (1, .int x1), (2, .int x2), (3, .int x3)] := hl
  exact t_X13_takeAfter_0 hM hml B.returns B.notSynchronized hc hf hc _ _ hW _ (lv_sub hl [0, 1, 2, 3] rfl)
abbrev w_X13_wordHere : List Cond := Cond.code yX13_wordHere cX13_wordHere 5 (some .int) :: wsL_law0
abbrev RM_X13_wordHere : Room := { frames := 1, cells := 0, slots := 0, locals := 21 }
noncomputable def f_X13_wordHere_28 (fu : Nat) (k5 : Int32 → Int32 → Option (Int32)) (v : GV) (x1 : Int32) (x2 : Int32) (x4 : Int32) (t0 : Int32) : Option (Int32) :=
  nm (x4 + (1 : Int32)) fun y1 =>
  k5 t0 y1
set_option maxHeartbeats 4000000 in
set_option maxRecDepth 100000 in
theorem t_X13_wordHere_28 {G : GG} {p : Program} {l : Launch} {e : Env} {s : State} {m : MethodId} {args : Array Value} {below : List Frame} {meth : Method} {c : Code} {S : ST} {fu : Nat} {z : Int32} {a : Nat} {v : GV} {k5 : Int32 → Int32 → Option (Int32)} {x1 : Int32} {x2 : Int32} {x4 : Int32} {t0 : Int32} (hM : MC G p s m args c cX13_wordHere w_X13_wordHere RX13) (hml : c.maxLocals = 5) (hr : meth.sig.returnType = (some .int)) (hlk : meth.locks = false) (hc0 : gC v = 12) (hk5 : ∀ (x3 : Int32) (x4 : Int32), k5 x3 x4 = some z → ∀ (H : Heap) (locs : List Loc), WB G (st S a v) s H locs → ∀ (ls : Array Slot), lv_has ls 5 [(0, .ref a), (1, .int x1), (2, .int x2), (3, .int x3), (4, .int x4)] → W p l e RM_X13_wordHere s m args below meth c H locs 0 0 (QR G below args s (some (.int z)) (st S a v) (st S a v)) (F0 m 5 ls [])) (hf : f_X13_wordHere_28 fu k5 v x1 x2 x4 t0 = some z) : ∀ (H : Heap) (locs : List Loc), WB G (st S a v) s H locs → ∀ (ls : Array Slot), lv_has ls 5 [(0, .ref a), (1, .int x1), (2, .int x2), (4, .int x4)] → W p l e RM_X13_wordHere s m args below meth c H locs 0 0 (QR G below args s (some (.int z)) (st S a v) (st S a v)) (F0 m 28 ls [.int t0]) := by
  intro H locs hW ls hl
  have hx := hM.1
  have hb := hM.2.1
  have hc := hc0
  refine lv_istore_n (lv' := [(3, .int t0), (0, .ref a), (1, .int x1), (2, .int x2), (4, .int x4)]) hx hb dX13_wordHere_28 rfl hl (by decide) rfl (fun ls hl => ?_)
  obtain ⟨y1, ey1⟩ : ∃ y : Int32, y = x4 + (1 : Int32) := ⟨_, rfl⟩
  have hf := nm_at ey1 hf
  refine lv_iinc (v := y1) (lv' := [(4, .int y1), (3, .int t0), (0, .ref a), (1, .int x1), (2, .int x2)]) hx hb dX13_wordHere_29 hl (k := 4) rfl (by rw [ey1]; rfl) (by decide) rfl (fun ls hl => ?_)
  refine lv_goto (tgt := 5) hx hb dX13_wordHere_32 (by decide) ?_
  exact hk5 _ _ hf _ _ hW _ (lv_sub hl [2, 3, 4, 1, 0] rfl)
noncomputable def f_X13_wordHere_5s (fu : Nat)  (k5 : Int32 → Int32 → Option (Int32)) (v : GV) (x1 : Int32) (x2 : Int32) (x3 : Int32) (x4 : Int32) : Option (Int32) :=
  if x2 ≤ x4 then
    (some x3)
  else
    (bd (f_X13_isWord fu v (x1 + x4)) fun r2 =>
    if r2 = 0 then
      (f_X13_wordHere_28 fu k5 v x1 x2 x4 x3)
    else
      (f_X13_wordHere_28 fu k5 v x1 x2 x4 x4))
noncomputable def f_X13_wordHere_5 (fu n : Nat)  (v : GV) (x1 : Int32) (x2 : Int32) : Int32 → Int32 → Option (Int32) :=
  lq_2 (fun k5 => f_X13_wordHere_5s fu  k5 v x1 x2) n
set_option maxHeartbeats 4000000 in
set_option maxRecDepth 100000 in
theorem t_X13_wordHere_5s {G : GG} {p : Program} {l : Launch} {e : Env} {s : State} {m : MethodId} {args : Array Value} {below : List Frame} {meth : Method} {c : Code} {S : ST} {fu : Nat} {z : Int32} {a : Nat} {v : GV}  (hM : MC G p s m args c cX13_wordHere w_X13_wordHere RX13) (hml : c.maxLocals = 5) (hr : meth.sig.returnType = (some .int)) (hlk : meth.locks = false) (hc0 : gC v = 12) {k5 : Int32 → Int32 → Option (Int32)} {x1 : Int32} {x2 : Int32}  (hk5 : ∀ (x3 : Int32) (x4 : Int32), k5 x3 x4 = some z → ∀ (H : Heap) (locs : List Loc), WB G (st S a v) s H locs → ∀ (ls : Array Slot), lv_has ls 5 [(0, .ref a), (1, .int x1), (2, .int x2), (3, .int x3), (4, .int x4)] → W p l e RM_X13_wordHere s m args below meth c H locs 0 0 (QR G below args s (some (.int z)) (st S a v) (st S a v)) (F0 m 5 ls [])) : ∀ (x3 : Int32) (x4 : Int32), f_X13_wordHere_5s fu  k5 v x1 x2 x3 x4 = some z → ∀ (H : Heap) (locs : List Loc), WB G (st S a v) s H locs → ∀ (ls : Array Slot), lv_has ls 5 [(0, .ref a), (1, .int x1), (2, .int x2), (3, .int x3), (4, .int x4)] → W p l e RM_X13_wordHere s m args below meth c H locs 0 0 (QR G below args s (some (.int z)) (st S a v) (st S a v)) (F0 m 5 ls []) := by
  intro x3 x4 hf H locs hW ls hl
  have hx := hM.1
  have hb := hM.2.1
  have hc := hc0
  refine lv_iload hx hb dX13_wordHere_5 (lv_at hl 4 rfl) ?_
  refine lv_iload_n hx hb dX13_wordHere_7 rfl (lv_at hl 2 rfl) ?_
  refine lv_icmp_ge (tgt := 35) hx hb dX13_wordHere_8 (by decide) (fun c1 => ?_) (fun c1 => ?_)
  · have hf := if_t c1 hf
    refine lv_iload_n hx hb dX13_wordHere_35 rfl (lv_at hl 3 rfl) ?_
    cases hf
    exact W.iret hx hb hr (b_ret0 hW (fun _ _ => rfl) _) hW.2.2.2 dX13_wordHere_36 hlk
  · have hf := if_f c1 hf
    refine lv_aload_n hx hb dX13_wordHere_11 rfl (lv_at hl 0 rfl) ?_
    refine lv_iload_n hx hb dX13_wordHere_12 rfl (lv_at hl 1 rfl) ?_
    refine lv_iload hx hb dX13_wordHere_13 (lv_at hl 4 rfl) ?_
    refine lv_iadd hx hb dX13_wordHere_15 ?_
    obtain ⟨r2, hr2, hf⟩ := bd_elim hf
    refine b_callVi [.int (x1 + x4)] [] hM hml hl.1 hW hc rfl (by decide) (c_X13_isWord l G fu _ a v _ hc hr2) (cwV 1 hM.2.2.2.1 (gV mk_RX13_201 im_X13_isWord se_X13_isWord it_RX13 cd_X13_isWord) rfl rfl rfl (by decide +kernel) ⟨Nat.le_of_ble_eq_true rfl, Nat.le_of_ble_eq_true rfl⟩) rfl rfl (Nat.le_of_ble_eq_true rfl) ⟨Nat.zero_le _, Nat.zero_le _⟩ dX13_wordHere_16 (fun H locs hW hk => ?_)
    refine lv_if_eq (tgt := 27) hx hb dX13_wordHere_19 (by decide) (fun c3 => ?_) (fun c3 => ?_)
    · have hf := if_t c3 hf
      refine lv_iload_n hx hb dX13_wordHere_27 rfl (lv_at hl 3 rfl) ?_
      exact t_X13_wordHere_28 (fu := fu) hM hml hr hlk hc0 hk5 hf _ _ hW _ (lv_sub hl [0, 1, 2, 4] rfl)
    · have hf := if_f c3 hf
      refine lv_iload hx hb dX13_wordHere_22 (lv_at hl 4 rfl) ?_
      refine lv_goto (tgt := 28) hx hb dX13_wordHere_24 (by decide) ?_
      exact t_X13_wordHere_28 (fu := fu) hM hml hr hlk hc0 hk5 hf _ _ hW _ (lv_sub hl [0, 1, 2, 4] rfl)
theorem t_X13_wordHere_5 {G : GG} {p : Program} {l : Launch} {e : Env} {s : State} {m : MethodId} {args : Array Value} {below : List Frame} {meth : Method} {c : Code} {S : ST} {fu : Nat} {z : Int32} {a : Nat} {v : GV}  {x1 : Int32} {x2 : Int32} (hM : MC G p s m args c cX13_wordHere w_X13_wordHere RX13) (hml : c.maxLocals = 5) (hr : meth.sig.returnType = (some .int)) (hlk : meth.locks = false) (hc0 : gC v = 12)  : ∀ {n : Nat} (x3 : Int32) (x4 : Int32), f_X13_wordHere_5 fu n  v x1 x2 x3 x4 = some z → ∀ (H : Heap) (locs : List Loc), WB G (st S a v) s H locs → ∀ (ls : Array Slot), lv_has ls 5 [(0, .ref a), (1, .int x1), (2, .int x2), (3, .int x3), (4, .int x4)] → W p l e RM_X13_wordHere s m args below meth c H locs 0 0 (QR G below args s (some (.int z)) (st S a v) (st S a v)) (F0 m 5 ls []) := by
  intro n
  induction n with
  | zero => intro x3 x4 hf; cases hf
  | succ n ih => intro x3 x4 hf; exact t_X13_wordHere_5s (fu := fu) hM hml hr hlk hc0  (k5 := f_X13_wordHere_5 fu n  v x1 x2) ih _ _ hf
noncomputable def f_X13_wordHere_0 (fu : Nat)  (v : GV) (x1 : Int32) (x2 : Int32) : Option (Int32) :=
  f_X13_wordHere_5 fu fu v x1 x2 (-1 : Int32) (0 : Int32)
set_option maxHeartbeats 4000000 in
set_option maxRecDepth 100000 in
theorem t_X13_wordHere_0 {G : GG} {p : Program} {l : Launch} {e : Env} {s : State} {m : MethodId} {args : Array Value} {below : List Frame} {meth : Method} {c : Code} {S : ST} {fu : Nat} {z : Int32} {a : Nat} {v : GV}  {x1 : Int32} {x2 : Int32} (hM : MC G p s m args c cX13_wordHere w_X13_wordHere RX13) (hml : c.maxLocals = 5) (hr : meth.sig.returnType = (some .int)) (hlk : meth.locks = false) (hc0 : gC v = 12)  (hf : f_X13_wordHere_0 fu  v x1 x2 = some z) : ∀ (H : Heap) (locs : List Loc), WB G (st S a v) s H locs → ∀ (ls : Array Slot), lv_has ls 5 [(0, .ref a), (1, .int x1), (2, .int x2)] → W p l e RM_X13_wordHere s m args below meth c H locs 0 0 (QR G below args s (some (.int z)) (st S a v) (st S a v)) (F0 m 0 ls []) := by
  intro H locs hW ls hl
  have hx := hM.1
  have hb := hM.2.1
  have hc := hc0
  refine lv_iconst (v := (-1 : Int32)) hx hb dX13_wordHere_0 (by decide) ?_
  refine lv_istore_n (lv' := [(3, .int (-1 : Int32)), (0, .ref a), (1, .int x1), (2, .int x2)]) hx hb dX13_wordHere_1 rfl hl (by decide) rfl (fun ls hl => ?_)
  refine lv_iconst (v := (0 : Int32)) hx hb dX13_wordHere_2 (by decide) ?_
  refine lv_istore (lv' := [(4, .int (0 : Int32)), (3, .int (-1 : Int32)), (0, .ref a), (1, .int x1), (2, .int x2)]) hx hb dX13_wordHere_3 hl (by decide) rfl (fun ls hl => ?_)
  exact t_X13_wordHere_5 (fu := fu) hM hml hr hlk hc0 _ _ hf _ _ hW _ (lv_sub hl [2, 3, 4, 1, 0] rfl)
noncomputable def f_X13_wordHere (fu : Nat) (v : GV) (x1 : Int32) (x2 : Int32) : Option (Int32) := f_X13_wordHere_0 fu v x1 x2
set_option maxHeartbeats 4000000 in
set_option maxRecDepth 100000 in
theorem c_X13_wordHere (l : Launch) (G : GG) (fu : Nat) (S : ST) (a : Nat) (v : GV) (x1 : Int32) (x2 : Int32) {z : Int32} (hc : gC v = 12) (hf : f_X13_wordHere fu v x1 x2 = some z) : Ct l yX13_wordHere w_X13_wordHere RM_X13_wordHere G (st S a v) [.ref a, .int x1, .int x2] (some (.int z)) (st S a v) 0 0 := by
  refine Met.ofW (cc := cX13_wordHere) (maxL := 5) (ret := (some .int)) (by decide) rfl ?_
  intro p e s m args below meth c s₁ B hml hv
  obtain ⟨rfl, hB, hK, hz⟩ := hv
  have hM : MC G p s m _ c cX13_wordHere w_X13_wordHere RX13 := ⟨B.exec, B.bytes, findClass_of_methodNamed B.named, atoms_spec (ws := w_X13_wordHere) B.pre, hK, hz⟩
  have hW : WB G (st S a v) s s.heap [] := ⟨hB, va_S.rf⟩
  have hl := lv_entry ([.ref a, .int x1, .int x2]) (n := 5) (Nat.le_of_ble_eq_true rfl)
  rw [lg_entry_eq]
  generalize (lg_sl ([.ref a, .int x1, .int x2]) ++ List.replicate (5 - (lg_sl ([.ref a, .int x1, .int x2])).length) Slot.unset).toArray = ls at hl ⊢
  have hl : lv_has ls 5 [(0, .ref a), (1, .int x1), (2, .int x2)] := hl
  exact t_X13_wordHere_0 hM hml B.returns B.notSynchronized hc hf _ _ hW _ (lv_sub hl [0, 1, 2] rfl)
abbrev w_X13_takeOne : List Cond := Cond.code yX13_takeOne cX13_takeOne 4 (some .int) :: wsL_law0
abbrev RM_X13_takeOne : Room := { frames := 2, cells := 0, slots := 0, locals := 45 }
noncomputable def f_X13_takeOne_51 (fu : Nat)  (v : GV) (x3 : Int32) (t1 : Int32) (t2 : Int32) : Option (Int32 × GV) :=
  nm (sI v 7 (t1 + t2)) fun v1 =>
  if (gI v1 8) ≤ 0 then
    (some (x3, v1))
  else
    (some ((0 : Int32), v1))
set_option maxHeartbeats 4000000 in
set_option maxRecDepth 100000 in
theorem t_X13_takeOne_51 {G : GG} {p : Program} {l : Launch} {e : Env} {s : State} {m : MethodId} {args : Array Value} {below : List Frame} {meth : Method} {c : Code} {S : ST} {fu : Nat} {z : Int32 × GV} {a : Nat} {v0 : GV}  {v : GV} {x3 : Int32} {t1 : Int32} {t2 : Int32} (hM : MC G p s m args c cX13_takeOne w_X13_takeOne RX13) (hml : c.maxLocals = 4) (hr : meth.sig.returnType = (some .int)) (hlk : meth.locks = false) (hc0 : gC v0 = 12)  (hf : f_X13_takeOne_51 fu  v x3 t1 t2 = some z) : gC v = 12 → ∀ (H : Heap) (locs : List Loc), WB G (st S a v) s H locs → ∀ (ls : Array Slot), lv_has ls 4 [(0, .ref a), (3, .int x3)] → W p l e RM_X13_takeOne s m args below meth c H locs 0 0 (QR G below args s (some (.int z.1)) (st S a v0) (st S a z.2)) (F0 m 51 ls [.int t2, .int t1, .ref a]) := by
  intro hc H locs hW ls hl
  have hx := hM.1
  have hb := hM.2.1
  refine lv_iadd hx hb dX13_takeOne_51 ?_
  refine b_putI hM hW 11 7 hc rfl rfl (by decide) wi_X13 tyX13 tyX13_ok nmX13 (wgm fk_RX13_189) rfl rfl rfl dX13_takeOne_52 (fun v1 ev1 hc H locs hW => ?_)
  have hf := nm_at ev1 hf
  refine lv_aload_n hx hb dX13_takeOne_55 rfl (lv_at hl 0 rfl) ?_
  refine b_get hM hW 11 8 hc rfl rfl (by decide) wi_X13 (wgm fk_RX13_192) (x := .int (gI v1 8)) rfl dX13_takeOne_56 ?_
  refine lv_if_le (tgt := 66) hx hb dX13_takeOne_59 (by decide) (fun c2 => ?_) (fun c2 => ?_)
  · have hf := if_t c2 hf
    refine lv_iload_n hx hb dX13_takeOne_66 rfl (lv_at hl 1 rfl) ?_
    cases hf
    exact W.iret hx hb hr (b_ret0 hW (keep_s2 hc0 hc) _) hW.2.2.2 dX13_takeOne_67 hlk
  · have hf := if_f c2 hf
    refine lv_iconst (v := (0 : Int32)) hx hb dX13_takeOne_62 (by decide) ?_
    refine lv_goto (tgt := 67) hx hb dX13_takeOne_63 (by decide) ?_
    cases hf
    exact W.iret hx hb hr (b_ret0 hW (keep_s2 hc0 hc) _) hW.2.2.2 dX13_takeOne_67 hlk
noncomputable def f_X13_takeOne_34 (fu : Nat)  (v : GV) (x3 : Int32) : Option (Int32 × GV) :=
  if (gI v 8) ≤ 0 then
    (f_X13_takeOne_51 fu v x3 (gI v 7) (1 : Int32))
  else
    (f_X13_takeOne_51 fu v x3 (gI v 7) (0 : Int32))
set_option maxHeartbeats 4000000 in
set_option maxRecDepth 100000 in
theorem t_X13_takeOne_34 {G : GG} {p : Program} {l : Launch} {e : Env} {s : State} {m : MethodId} {args : Array Value} {below : List Frame} {meth : Method} {c : Code} {S : ST} {fu : Nat} {z : Int32 × GV} {a : Nat} {v0 : GV}  {v : GV} {x3 : Int32} (hM : MC G p s m args c cX13_takeOne w_X13_takeOne RX13) (hml : c.maxLocals = 4) (hr : meth.sig.returnType = (some .int)) (hlk : meth.locks = false) (hc0 : gC v0 = 12)  (hf : f_X13_takeOne_34 fu  v x3 = some z) : gC v = 12 → ∀ (H : Heap) (locs : List Loc), WB G (st S a v) s H locs → ∀ (ls : Array Slot), lv_has ls 4 [(0, .ref a), (3, .int x3)] → W p l e RM_X13_takeOne s m args below meth c H locs 0 0 (QR G below args s (some (.int z.1)) (st S a v0) (st S a z.2)) (F0 m 34 ls []) := by
  intro hc H locs hW ls hl
  have hx := hM.1
  have hb := hM.2.1
  refine lv_aload_n hx hb dX13_takeOne_34 rfl (lv_at hl 0 rfl) ?_
  refine lv_dup hx hb dX13_takeOne_35 rfl ?_
  refine b_get hM hW 11 7 hc rfl rfl (by decide) wi_X13 (wgm fk_RX13_189) (x := .int (gI v 7)) rfl dX13_takeOne_36 ?_
  refine lv_aload_n hx hb dX13_takeOne_39 rfl (lv_at hl 0 rfl) ?_
  refine b_get hM hW 11 8 hc rfl rfl (by decide) wi_X13 (wgm fk_RX13_192) (x := .int (gI v 8)) rfl dX13_takeOne_40 ?_
  refine lv_if_le (tgt := 50) hx hb dX13_takeOne_43 (by decide) (fun c1 => ?_) (fun c1 => ?_)
  · have hf := if_t c1 hf
    refine lv_iconst (v := (1 : Int32)) hx hb dX13_takeOne_50 (by decide) ?_
    exact t_X13_takeOne_51 (fu := fu) hM hml hr hlk hc0 hf hc _ _ hW _ (lv_sub hl [0, 1] rfl)
  · have hf := if_f c1 hf
    refine lv_iconst (v := (0 : Int32)) hx hb dX13_takeOne_46 (by decide) ?_
    refine lv_goto (tgt := 51) hx hb dX13_takeOne_47 (by decide) ?_
    exact t_X13_takeOne_51 (fu := fu) hM hml hr hlk hc0 hf hc _ _ hW _ (lv_sub hl [0, 1] rfl)
noncomputable def f_X13_takeOne_17 (fu : Nat)  (v : GV) (t0 : Int32) : Option (Int32 × GV) :=
  if (gI v 8) = 0 then
    (if 0 ≤ t0 then
      (f_X13_takeOne_34 fu v t0)
    else
      (bd (f_X13_wrong fu v (1 : Int32)) fun v4 =>
      f_X13_takeOne_34 fu v4 t0))
  else
    (f_X13_takeOne_34 fu v t0)
set_option maxHeartbeats 4000000 in
set_option maxRecDepth 100000 in
theorem t_X13_takeOne_17 {G : GG} {p : Program} {l : Launch} {e : Env} {s : State} {m : MethodId} {args : Array Value} {below : List Frame} {meth : Method} {c : Code} {S : ST} {fu : Nat} {z : Int32 × GV} {a : Nat} {v0 : GV}  {v : GV} {t0 : Int32} (hM : MC G p s m args c cX13_takeOne w_X13_takeOne RX13) (hml : c.maxLocals = 4) (hr : meth.sig.returnType = (some .int)) (hlk : meth.locks = false) (hc0 : gC v0 = 12)  (hf : f_X13_takeOne_17 fu  v t0 = some z) : gC v = 12 → ∀ (H : Heap) (locs : List Loc), WB G (st S a v) s H locs → ∀ (ls : Array Slot), lv_has ls 4 [(0, .ref a)] → W p l e RM_X13_takeOne s m args below meth c H locs 0 0 (QR G below args s (some (.int z.1)) (st S a v0) (st S a z.2)) (F0 m 17 ls [.int t0]) := by
  intro hc H locs hW ls hl
  have hx := hM.1
  have hb := hM.2.1
  refine lv_istore_n (lv' := [(3, .int t0), (0, .ref a)]) hx hb dX13_takeOne_17 rfl hl (by decide) rfl (fun ls hl => ?_)
  refine lv_aload_n hx hb dX13_takeOne_18 rfl (lv_at hl 1 rfl) ?_
  refine b_get hM hW 11 8 hc rfl rfl (by decide) wi_X13 (wgm fk_RX13_192) (x := .int (gI v 8)) rfl dX13_takeOne_19 ?_
  refine lv_if_ne (tgt := 34) hx hb dX13_takeOne_22 (by decide) (fun c1 => ?_) (fun c1 => ?_)
  · have hf := if_f c1 hf
    exact t_X13_takeOne_34 (fu := fu) hM hml hr hlk hc0 hf hc _ _ hW _ (lv_sub hl [1, 0] rfl)
  · have hf := if_t c1 hf
    refine lv_iload_n hx hb dX13_takeOne_25 rfl (lv_at hl 0 rfl) ?_
    refine lv_if_ge (tgt := 34) hx hb dX13_takeOne_26 (by decide) (fun c2 => ?_) (fun c2 => ?_)
    · have hf := if_t c2 hf
      exact t_X13_takeOne_34 (fu := fu) hM hml hr hlk hc0 hf hc _ _ hW _ (lv_sub hl [1, 0] rfl)
    · have hf := if_f c2 hf
      refine lv_aload_n hx hb dX13_takeOne_29 rfl (lv_at hl 1 rfl) ?_
      refine lv_iconst (v := (1 : Int32)) hx hb dX13_takeOne_30 (by decide) ?_
      obtain ⟨v4, hr3, hf⟩ := bd_elim hf
      refine b_callVv [.int (1 : Int32)] [] hM hml hl.1 hW hc rfl (by decide) (c_X13_wrong l G fu _ a v _ hc hr3) (cwV 1 hM.2.2.2.1 (gV mk_RX13_198 im_X13_wrong se_X13_wrong it_RX13 cd_X13_wrong) rfl rfl rfl (by decide +kernel) ⟨Nat.le_of_ble_eq_true rfl, Nat.le_of_ble_eq_true rfl⟩) rfl rfl (Nat.le_of_ble_eq_true rfl) ⟨Nat.zero_le _, Nat.zero_le _⟩ dX13_takeOne_31 (fun H locs hW hk => ?_)
      have hc := keep_at hc hk
      exact t_X13_takeOne_34 (fu := fu) hM hml hr hlk hc0 hf hc _ _ hW _ (lv_sub hl [1, 0] rfl)
noncomputable def f_X13_takeOne_0 (fu : Nat)  (v : GV) (x1 : Int32) (x2 : Int32) : Option (Int32 × GV) :=
  if (gI v 8) ≤ 0 then
    (bd (f_X13_wordHere fu v x1 x2) fun r2 =>
    f_X13_takeOne_17 fu v r2)
  else
    (f_X13_takeOne_17 fu v (-1 : Int32))
set_option maxHeartbeats 4000000 in
set_option maxRecDepth 100000 in
theorem t_X13_takeOne_0 {G : GG} {p : Program} {l : Launch} {e : Env} {s : State} {m : MethodId} {args : Array Value} {below : List Frame} {meth : Method} {c : Code} {S : ST} {fu : Nat} {z : Int32 × GV} {a : Nat} {v0 : GV}  {v : GV} {x1 : Int32} {x2 : Int32} (hM : MC G p s m args c cX13_takeOne w_X13_takeOne RX13) (hml : c.maxLocals = 4) (hr : meth.sig.returnType = (some .int)) (hlk : meth.locks = false) (hc0 : gC v0 = 12)  (hf : f_X13_takeOne_0 fu  v x1 x2 = some z) : gC v = 12 → ∀ (H : Heap) (locs : List Loc), WB G (st S a v) s H locs → ∀ (ls : Array Slot), lv_has ls 4 [(0, .ref a), (1, .int x1), (2, .int x2)] → W p l e RM_X13_takeOne s m args below meth c H locs 0 0 (QR G below args s (some (.int z.1)) (st S a v0) (st S a z.2)) (F0 m 0 ls []) := by
  intro hc H locs hW ls hl
  have hx := hM.1
  have hb := hM.2.1
  refine lv_aload_n hx hb dX13_takeOne_0 rfl (lv_at hl 0 rfl) ?_
  refine b_get hM hW 11 8 hc rfl rfl (by decide) wi_X13 (wgm fk_RX13_192) (x := .int (gI v 8)) rfl dX13_takeOne_1 ?_
  refine lv_if_le (tgt := 11) hx hb dX13_takeOne_4 (by decide) (fun c1 => ?_) (fun c1 => ?_)
  · have hf := if_t c1 hf
    refine lv_aload_n hx hb dX13_takeOne_11 rfl (lv_at hl 0 rfl) ?_
    refine lv_iload_n hx hb dX13_takeOne_12 rfl (lv_at hl 1 rfl) ?_
    refine lv_iload_n hx hb dX13_takeOne_13 rfl (lv_at hl 2 rfl) ?_
    obtain ⟨r2, hr2, hf⟩ := bd_elim hf
    refine b_callVi [.int x1, .int x2] [] hM hml hl.1 hW hc rfl (by decide) (c_X13_wordHere l G fu _ a v _ _ hc hr2) (cwV 2 hM.2.2.2.1 (gV mk_RX13_214 im_X13_wordHere se_X13_wordHere it_RX13 cd_X13_wordHere) rfl rfl rfl (by decide +kernel) ⟨Nat.le_of_ble_eq_true rfl, Nat.le_of_ble_eq_true rfl⟩) rfl rfl (Nat.le_of_ble_eq_true rfl) ⟨Nat.zero_le _, Nat.zero_le _⟩ dX13_takeOne_14 (fun H locs hW hk => ?_)
    exact t_X13_takeOne_17 (fu := fu) hM hml hr hlk hc0 hf hc _ _ hW _ (lv_sub hl [0] rfl)
  · have hf := if_f c1 hf
    refine lv_iconst (v := (-1 : Int32)) hx hb dX13_takeOne_7 (by decide) ?_
    refine lv_goto (tgt := 17) hx hb dX13_takeOne_8 (by decide) ?_
    exact t_X13_takeOne_17 (fu := fu) hM hml hr hlk hc0 hf hc _ _ hW _ (lv_sub hl [0] rfl)
noncomputable def f_X13_takeOne (fu : Nat) (v : GV) (x1 : Int32) (x2 : Int32) : Option (Int32 × GV) := f_X13_takeOne_0 fu v x1 x2
set_option maxHeartbeats 4000000 in
set_option maxRecDepth 100000 in
theorem c_X13_takeOne (l : Launch) (G : GG) (fu : Nat) (S : ST) (a : Nat) (v : GV) (x1 : Int32) (x2 : Int32) {z : Int32} {w : GV} (hc : gC v = 12) (hf : f_X13_takeOne fu v x1 x2 = some (z, w)) : Ct l yX13_takeOne w_X13_takeOne RM_X13_takeOne G (st S a v) [.ref a, .int x1, .int x2] (some (.int z)) (st S a w) 0 0 := by
  refine Met.ofW (cc := cX13_takeOne) (maxL := 4) (ret := (some .int)) (by decide) rfl ?_
  intro p e s m args below meth c s₁ B hml hv
  obtain ⟨rfl, hB, hK, hz⟩ := hv
  have hM : MC G p s m _ c cX13_takeOne w_X13_takeOne RX13 := ⟨B.exec, B.bytes, findClass_of_methodNamed B.named, atoms_spec (ws := w_X13_takeOne) B.pre, hK, hz⟩
  have hW : WB G (st S a v) s s.heap [] := ⟨hB, va_S.rf⟩
  have hl := lv_entry ([.ref a, .int x1, .int x2]) (n := 4) (Nat.le_of_ble_eq_true rfl)
  rw [lg_entry_eq]
  generalize (lg_sl ([.ref a, .int x1, .int x2]) ++ List.replicate (4 - (lg_sl ([.ref a, .int x1, .int x2])).length) Slot.unset).toArray = ls at hl ⊢
  have hl : lv_has ls 4 [(0, .ref a), (1, .int x1), (2, .int x2)] := hl
  exact t_X13_takeOne_0 hM hml B.returns B.notSynchronized hc hf hc _ _ hW _ (lv_sub hl [0, 1, 2] rfl)
abbrev w_X13_isName : List Cond := Cond.code yX13_isName cX13_isName 1 (some .boolean) :: wsL_law0
abbrev RM_X13_isName : Room := { frames := 2, cells := 0, slots := 0, locals := 45 }
noncomputable def f_X13_isName_34 (fu : Nat)  (v : GV) : Option (Int32) :=
  some (0 : Int32)
set_option maxHeartbeats 4000000 in
set_option maxRecDepth 100000 in
theorem t_X13_isName_34 {G : GG} {p : Program} {l : Launch} {e : Env} {s : State} {m : MethodId} {args : Array Value} {below : List Frame} {meth : Method} {c : Code} {S : ST} {fu : Nat} {z : Int32} {a : Nat} {v : GV}  (hM : MC G p s m args c cX13_isName w_X13_isName RX13) (hml : c.maxLocals = 1) (hr : meth.sig.returnType = (some .boolean)) (hlk : meth.locks = false) (hc0 : gC v = 12)  (hf : f_X13_isName_34 fu  v  = some z) : ∀ (H : Heap) (locs : List Loc), WB G (st S a v) s H locs → ∀ (ls : Array Slot), lv_has ls 1 [] → W p l e RM_X13_isName s m args below meth c H locs 0 0 (QR G below args s (some (.int z)) (st S a v) (st S a v)) (F0 m 34 ls []) := by
  intro H locs hW ls hl
  have hx := hM.1
  have hb := hM.2.1
  have hc := hc0
  refine lv_iconst (v := (0 : Int32)) hx hb dX13_isName_34 (by decide) ?_
  cases hf
  exact W.zret (v := (0 : Int32)) hx hb hr (by decide) (b_ret0 hW (fun _ _ => rfl) _) hW.2.2.2 dX13_isName_35 hlk
noncomputable def f_X13_isName_0 (fu : Nat)  (v : GV) : Option (Int32) :=
  if (gI v 8) = 0 then
    (nm ((gI v 7)) fun y2 =>
    ck (inb y2 1002) <|
    if (gA v 4 y2.toNatClampNeg) = (1 : Int32) then
      (bd (f_X13_wordHere fu v (0 : Int32) (25 : Int32)) fun r5 =>
      if 0 ≤ r5 then
        (f_X13_isName_34 fu v)
      else
        (some (1 : Int32)))
    else
      (f_X13_isName_34 fu v))
  else
    (f_X13_isName_34 fu v)
set_option maxHeartbeats 4000000 in
set_option maxRecDepth 100000 in
theorem t_X13_isName_0 {G : GG} {p : Program} {l : Launch} {e : Env} {s : State} {m : MethodId} {args : Array Value} {below : List Frame} {meth : Method} {c : Code} {S : ST} {fu : Nat} {z : Int32} {a : Nat} {v : GV}  (hM : MC G p s m args c cX13_isName w_X13_isName RX13) (hml : c.maxLocals = 1) (hr : meth.sig.returnType = (some .boolean)) (hlk : meth.locks = false) (hc0 : gC v = 12)  (hf : f_X13_isName_0 fu  v  = some z) : ∀ (H : Heap) (locs : List Loc), WB G (st S a v) s H locs → ∀ (ls : Array Slot), lv_has ls 1 [(0, .ref a)] → W p l e RM_X13_isName s m args below meth c H locs 0 0 (QR G below args s (some (.int z)) (st S a v) (st S a v)) (F0 m 0 ls []) := by
  intro H locs hW ls hl
  have hx := hM.1
  have hb := hM.2.1
  have hc := hc0
  refine lv_aload_n hx hb dX13_isName_0 rfl (lv_at hl 0 rfl) ?_
  refine b_get hM hW 11 8 hc rfl rfl (by decide) wi_X13 (wgm fk_RX13_192) (x := .int (gI v 8)) rfl dX13_isName_1 ?_
  refine lv_if_ne (tgt := 34) hx hb dX13_isName_4 (by decide) (fun c1 => ?_) (fun c1 => ?_)
  · have hf := if_f c1 hf
    exact t_X13_isName_34 (fu := fu) hM hml hr hlk hc0 hf _ _ hW _ (lv_sub hl [] rfl)
  · have hf := if_t c1 hf
    refine lv_aload_n hx hb dX13_isName_7 rfl (lv_at hl 0 rfl) ?_
    refine b_get hM hW 11 4 hc rfl rfl (by decide) wi_X13 (wgm fk_RX13_24) (x := .ref (a + 2)) rfl dX13_isName_8 ?_
    refine lv_aload_n hx hb dX13_isName_11 rfl (lv_at hl 0 rfl) ?_
    refine b_get hM hW 11 7 hc rfl rfl (by decide) wi_X13 (wgm fk_RX13_189) (x := .int (gI v 7)) rfl dX13_isName_12 ?_
    refine lv_topi (fun y2 ey2 => ?_)
    have hf := nm_at ey2 hf
    obtain ⟨h3, hf⟩ := ck_elim hf
    refine b_iald (n := 1002) hM hW 11 4 hc (by decide) rfl rfl rfl rfl h3 dX13_isName_15 ?_
    refine lv_iconst (v := (1 : Int32)) hx hb dX13_isName_16 (by decide) ?_
    refine lv_icmp_ne (tgt := 34) hx hb dX13_isName_17 (by decide) (fun c4 => ?_) (fun c4 => ?_)
    · have hf := if_f c4 hf
      exact t_X13_isName_34 (fu := fu) hM hml hr hlk hc0 hf _ _ hW _ (lv_sub hl [] rfl)
    · have hf := if_t c4 hf
      refine lv_aload_n hx hb dX13_isName_20 rfl (lv_at hl 0 rfl) ?_
      refine lv_iconst (v := (0 : Int32)) hx hb dX13_isName_21 (by decide) ?_
      refine lv_bipush (v := (25 : Int32)) hx hb dX13_isName_22 (by decide) ?_
      obtain ⟨r5, hr5, hf⟩ := bd_elim hf
      refine b_callVi [.int (0 : Int32), .int (25 : Int32)] [] hM hml hl.1 hW hc rfl (by decide) (c_X13_wordHere l G fu _ a v _ _ hc hr5) (cwV 2 hM.2.2.2.1 (gV mk_RX13_214 im_X13_wordHere se_X13_wordHere it_RX13 cd_X13_wordHere) rfl rfl rfl (by decide +kernel) ⟨Nat.le_of_ble_eq_true rfl, Nat.le_of_ble_eq_true rfl⟩) rfl rfl (Nat.le_of_ble_eq_true rfl) ⟨Nat.zero_le _, Nat.zero_le _⟩ dX13_isName_24 (fun H locs hW hk => ?_)
      refine lv_if_ge (tgt := 34) hx hb dX13_isName_27 (by decide) (fun c6 => ?_) (fun c6 => ?_)
      · have hf := if_t c6 hf
        exact t_X13_isName_34 (fu := fu) hM hml hr hlk hc0 hf _ _ hW _ (lv_sub hl [] rfl)
      · have hf := if_f c6 hf
        refine lv_iconst (v := (1 : Int32)) hx hb dX13_isName_30 (by decide) ?_
        refine lv_goto (tgt := 35) hx hb dX13_isName_31 (by decide) ?_
        cases hf
        exact W.zret (v := (1 : Int32)) hx hb hr (by decide) (b_ret0 hW (fun _ _ => rfl) _) hW.2.2.2 dX13_isName_35 hlk
noncomputable def f_X13_isName (fu : Nat) (v : GV) : Option (Int32) := f_X13_isName_0 fu v
set_option maxHeartbeats 4000000 in
set_option maxRecDepth 100000 in
theorem c_X13_isName (l : Launch) (G : GG) (fu : Nat) (S : ST) (a : Nat) (v : GV) {z : Int32} (hc : gC v = 12) (hf : f_X13_isName fu v = some z) : Ct l yX13_isName w_X13_isName RM_X13_isName G (st S a v) [.ref a] (some (.int z)) (st S a v) 0 0 := by
  refine Met.ofW (cc := cX13_isName) (maxL := 1) (ret := (some .boolean)) (by decide) rfl ?_
  intro p e s m args below meth c s₁ B hml hv
  obtain ⟨rfl, hB, hK, hz⟩ := hv
  have hM : MC G p s m _ c cX13_isName w_X13_isName RX13 := ⟨B.exec, B.bytes, findClass_of_methodNamed B.named, atoms_spec (ws := w_X13_isName) B.pre, hK, hz⟩
  have hW : WB G (st S a v) s s.heap [] := ⟨hB, va_S.rf⟩
  have hl := lv_entry ([.ref a]) (n := 1) (Nat.le_of_ble_eq_true rfl)
  rw [lg_entry_eq]
  generalize (lg_sl ([.ref a]) ++ List.replicate (1 - (lg_sl ([.ref a])).length) Slot.unset).toArray = ls at hl ⊢
  have hl : lv_has ls 1 [(0, .ref a)] := hl
  exact t_X13_isName_0 hM hml B.returns B.notSynchronized hc hf _ _ hW _ (lv_sub hl [0] rfl)
abbrev w_X13_find : List Cond := Cond.code yX13_find cX13_find 3 (some .int) :: wsL_law0
abbrev RM_X13_find : Room := { frames := 0, cells := 0, slots := 0, locals := 0 }
noncomputable def f_X13_find_40 (fu : Nat) (k2 : Int32 → Option (Int32)) (v : GV) (x1 : Int32) (x2 : Int32) (t0 : Int64) : Option (Int32) :=
  nm ((gI v 7)) fun y1 =>
  ck (inb y1 1002) <|
  if (lg_cmp t0 (gL v 6 y1.toNatClampNeg)) = 0 then
    (if x1 = 0 then
      (ck (inb x2 18) <|
      some (gA v 16 x2.toNatClampNeg))
    else
      (ck (inb x2 18) <|
      some (gA v 17 x2.toNatClampNeg)))
  else
    (nm (x2 + (1 : Int32)) fun y4 =>
    k2 y4)
set_option maxHeartbeats 4000000 in
set_option maxRecDepth 100000 in
theorem t_X13_find_40 {G : GG} {p : Program} {l : Launch} {e : Env} {s : State} {m : MethodId} {args : Array Value} {below : List Frame} {meth : Method} {c : Code} {S : ST} {fu : Nat} {z : Int32} {a : Nat} {v : GV} {k2 : Int32 → Option (Int32)} {x1 : Int32} {x2 : Int32} {t0 : Int64} (hM : MC G p s m args c cX13_find w_X13_find RX13) (hml : c.maxLocals = 3) (hr : meth.sig.returnType = (some .int)) (hlk : meth.locks = false) (hc0 : gC v = 12) (hk2 : ∀ (x2 : Int32), k2 x2 = some z → ∀ (H : Heap) (locs : List Loc), WB G (st S a v) s H locs → ∀ (ls : Array Slot), lv_has ls 3 [(0, .ref a), (1, .int x1), (2, .int x2)] → W p l e RM_X13_find s m args below meth c H locs 0 0 (QR G below args s (some (.int z)) (st S a v) (st S a v)) (F0 m 2 ls [])) (hf : f_X13_find_40 fu k2 v x1 x2 t0 = some z) : ∀ (H : Heap) (locs : List Loc), WB G (st S a v) s H locs → ∀ (ls : Array Slot), lv_has ls 3 [(0, .ref a), (1, .int x1), (2, .int x2)] → W p l e RM_X13_find s m args below meth c H locs 0 0 (QR G below args s (some (.int z)) (st S a v) (st S a v)) (F0 m 40 ls [.long t0]) := by
  intro H locs hW ls hl
  have hx := hM.1
  have hb := hM.2.1
  have hc := hc0
  refine lv_aload_n hx hb dX13_find_40 rfl (lv_at hl 0 rfl) ?_
  refine b_get hM hW 11 6 hc rfl rfl (by decide) wi_X13 (wgm fk_RX13_30) (x := .ref (a + 4)) rfl dX13_find_41 ?_
  refine lv_aload_n hx hb dX13_find_44 rfl (lv_at hl 0 rfl) ?_
  refine b_get hM hW 11 7 hc rfl rfl (by decide) wi_X13 (wgm fk_RX13_189) (x := .int (gI v 7)) rfl dX13_find_45 ?_
  refine lv_topi (fun y1 ey1 => ?_)
  have hf := nm_at ey1 hf
  obtain ⟨h2, hf⟩ := ck_elim hf
  refine b_lald (n := 1002) hM hW 11 6 hc (by decide) rfl rfl rfl rfl h2 dX13_find_48 ?_
  refine W.lcmp hx hb dX13_find_49 ?_
  refine lv_if_ne (tgt := 73) hx hb dX13_find_50 (by decide) (fun c3 => ?_) (fun c3 => ?_)
  · have hf := if_f c3 hf
    obtain ⟨y4, ey4⟩ : ∃ y : Int32, y = x2 + (1 : Int32) := ⟨_, rfl⟩
    have hf := nm_at ey4 hf
    refine lv_iinc (v := y4) (lv' := [(2, .int y4), (0, .ref a), (1, .int x1)]) hx hb dX13_find_73 hl (k := 2) rfl (by rw [ey4]; rfl) (by decide) rfl (fun ls hl => ?_)
    refine lv_goto (tgt := 2) hx hb dX13_find_76 (by decide) ?_
    exact hk2 _ hf _ _ hW _ (lv_sub hl [1, 2, 0] rfl)
  · have hf := if_t c3 hf
    refine lv_iload_n hx hb dX13_find_53 rfl (lv_at hl 1 rfl) ?_
    refine lv_if_eq (tgt := 66) hx hb dX13_find_54 (by decide) (fun c5 => ?_) (fun c5 => ?_)
    · have hf := if_t c5 hf
      refine lv_aload_n hx hb dX13_find_66 rfl (lv_at hl 0 rfl) ?_
      refine b_get hM hW 11 16 hc rfl rfl (by decide) wi_X13 (wgm fk_RX13_110) (x := .ref (a + 11)) rfl dX13_find_67 ?_
      refine lv_iload_n hx hb dX13_find_70 rfl (lv_at hl 2 rfl) ?_
      obtain ⟨h6, hf⟩ := ck_elim hf
      refine b_iald (n := 18) hM hW 11 16 hc (by decide) rfl rfl rfl rfl h6 dX13_find_71 ?_
      cases hf
      exact W.iret hx hb hr (b_ret0 hW (fun _ _ => rfl) _) hW.2.2.2 dX13_find_72 hlk
    · have hf := if_f c5 hf
      refine lv_aload_n hx hb dX13_find_57 rfl (lv_at hl 0 rfl) ?_
      refine b_get hM hW 11 17 hc rfl rfl (by decide) wi_X13 (wgm fk_RX13_113) (x := .ref (a + 12)) rfl dX13_find_58 ?_
      refine lv_iload_n hx hb dX13_find_61 rfl (lv_at hl 2 rfl) ?_
      obtain ⟨h7, hf⟩ := ck_elim hf
      refine b_iald (n := 18) hM hW 11 17 hc (by decide) rfl rfl rfl rfl h7 dX13_find_62 ?_
      refine lv_goto (tgt := 72) hx hb dX13_find_63 (by decide) ?_
      cases hf
      exact W.iret hx hb hr (b_ret0 hW (fun _ _ => rfl) _) hW.2.2.2 dX13_find_72 hlk
noncomputable def f_X13_find_18 (fu : Nat) (k2 : Int32 → Option (Int32)) (v : GV) (x1 : Int32) (x2 : Int32) (t0 : Int32) (t1 : Int32) : Option (Int32) :=
  if t1 ≤ t0 then
    (some (-1 : Int32))
  else
    (if x1 = 0 then
      (ck (inb x2 18) <|
      f_X13_find_40 fu k2 v x1 x2 (gL v 14 x2.toNatClampNeg))
    else
      (ck (inb x2 18) <|
      f_X13_find_40 fu k2 v x1 x2 (gL v 15 x2.toNatClampNeg)))
set_option maxHeartbeats 4000000 in
set_option maxRecDepth 100000 in
theorem t_X13_find_18 {G : GG} {p : Program} {l : Launch} {e : Env} {s : State} {m : MethodId} {args : Array Value} {below : List Frame} {meth : Method} {c : Code} {S : ST} {fu : Nat} {z : Int32} {a : Nat} {v : GV} {k2 : Int32 → Option (Int32)} {x1 : Int32} {x2 : Int32} {t0 : Int32} {t1 : Int32} (hM : MC G p s m args c cX13_find w_X13_find RX13) (hml : c.maxLocals = 3) (hr : meth.sig.returnType = (some .int)) (hlk : meth.locks = false) (hc0 : gC v = 12) (hk2 : ∀ (x2 : Int32), k2 x2 = some z → ∀ (H : Heap) (locs : List Loc), WB G (st S a v) s H locs → ∀ (ls : Array Slot), lv_has ls 3 [(0, .ref a), (1, .int x1), (2, .int x2)] → W p l e RM_X13_find s m args below meth c H locs 0 0 (QR G below args s (some (.int z)) (st S a v) (st S a v)) (F0 m 2 ls [])) (hf : f_X13_find_18 fu k2 v x1 x2 t0 t1 = some z) : ∀ (H : Heap) (locs : List Loc), WB G (st S a v) s H locs → ∀ (ls : Array Slot), lv_has ls 3 [(0, .ref a), (1, .int x1), (2, .int x2)] → W p l e RM_X13_find s m args below meth c H locs 0 0 (QR G below args s (some (.int z)) (st S a v) (st S a v)) (F0 m 18 ls [.int t1, .int t0]) := by
  intro H locs hW ls hl
  have hx := hM.1
  have hb := hM.2.1
  have hc := hc0
  refine lv_icmp_ge (tgt := 79) hx hb dX13_find_18 (by decide) (fun c1 => ?_) (fun c1 => ?_)
  · have hf := if_t c1 hf
    refine lv_iconst (v := (-1 : Int32)) hx hb dX13_find_79 (by decide) ?_
    cases hf
    exact W.iret hx hb hr (b_ret0 hW (fun _ _ => rfl) _) hW.2.2.2 dX13_find_80 hlk
  · have hf := if_f c1 hf
    refine lv_iload_n hx hb dX13_find_21 rfl (lv_at hl 1 rfl) ?_
    refine lv_if_eq (tgt := 34) hx hb dX13_find_22 (by decide) (fun c2 => ?_) (fun c2 => ?_)
    · have hf := if_t c2 hf
      refine lv_aload_n hx hb dX13_find_34 rfl (lv_at hl 0 rfl) ?_
      refine b_get hM hW 11 14 hc rfl rfl (by decide) wi_X13 (wgm fk_RX13_104) (x := .ref (a + 9)) rfl dX13_find_35 ?_
      refine lv_iload_n hx hb dX13_find_38 rfl (lv_at hl 2 rfl) ?_
      obtain ⟨h3, hf⟩ := ck_elim hf
      refine b_lald (n := 18) hM hW 11 14 hc (by decide) rfl rfl rfl rfl h3 dX13_find_39 ?_
      exact t_X13_find_40 (fu := fu) hM hml hr hlk hc0 hk2 hf _ _ hW _ (lv_sub hl [0, 1, 2] rfl)
    · have hf := if_f c2 hf
      refine lv_aload_n hx hb dX13_find_25 rfl (lv_at hl 0 rfl) ?_
      refine b_get hM hW 11 15 hc rfl rfl (by decide) wi_X13 (wgm fk_RX13_107) (x := .ref (a + 10)) rfl dX13_find_26 ?_
      refine lv_iload_n hx hb dX13_find_29 rfl (lv_at hl 2 rfl) ?_
      obtain ⟨h4, hf⟩ := ck_elim hf
      refine b_lald (n := 18) hM hW 11 15 hc (by decide) rfl rfl rfl rfl h4 dX13_find_30 ?_
      refine lv_goto (tgt := 40) hx hb dX13_find_31 (by decide) ?_
      exact t_X13_find_40 (fu := fu) hM hml hr hlk hc0 hk2 hf _ _ hW _ (lv_sub hl [0, 1, 2] rfl)
noncomputable def f_X13_find_2s (fu : Nat)  (k2 : Int32 → Option (Int32)) (v : GV) (x1 : Int32) (x2 : Int32) : Option (Int32) :=
  if x1 = 0 then
    (f_X13_find_18 fu k2 v x1 x2 x2 (gI v 18))
  else
    (f_X13_find_18 fu k2 v x1 x2 x2 (gI v 19))
noncomputable def f_X13_find_2 (fu n : Nat)  (v : GV) (x1 : Int32) : Int32 → Option (Int32) :=
  lq_1 (fun k2 => f_X13_find_2s fu  k2 v x1) n
set_option maxHeartbeats 4000000 in
set_option maxRecDepth 100000 in
theorem t_X13_find_2s {G : GG} {p : Program} {l : Launch} {e : Env} {s : State} {m : MethodId} {args : Array Value} {below : List Frame} {meth : Method} {c : Code} {S : ST} {fu : Nat} {z : Int32} {a : Nat} {v : GV}  (hM : MC G p s m args c cX13_find w_X13_find RX13) (hml : c.maxLocals = 3) (hr : meth.sig.returnType = (some .int)) (hlk : meth.locks = false) (hc0 : gC v = 12) {k2 : Int32 → Option (Int32)} {x1 : Int32}  (hk2 : ∀ (x2 : Int32), k2 x2 = some z → ∀ (H : Heap) (locs : List Loc), WB G (st S a v) s H locs → ∀ (ls : Array Slot), lv_has ls 3 [(0, .ref a), (1, .int x1), (2, .int x2)] → W p l e RM_X13_find s m args below meth c H locs 0 0 (QR G below args s (some (.int z)) (st S a v) (st S a v)) (F0 m 2 ls [])) : ∀ (x2 : Int32), f_X13_find_2s fu  k2 v x1 x2 = some z → ∀ (H : Heap) (locs : List Loc), WB G (st S a v) s H locs → ∀ (ls : Array Slot), lv_has ls 3 [(0, .ref a), (1, .int x1), (2, .int x2)] → W p l e RM_X13_find s m args below meth c H locs 0 0 (QR G below args s (some (.int z)) (st S a v) (st S a v)) (F0 m 2 ls []) := by
  intro x2 hf H locs hW ls hl
  have hx := hM.1
  have hb := hM.2.1
  have hc := hc0
  refine lv_iload_n hx hb dX13_find_2 rfl (lv_at hl 2 rfl) ?_
  refine lv_iload_n hx hb dX13_find_3 rfl (lv_at hl 1 rfl) ?_
  refine lv_if_eq (tgt := 14) hx hb dX13_find_4 (by decide) (fun c1 => ?_) (fun c1 => ?_)
  · have hf := if_t c1 hf
    refine lv_aload_n hx hb dX13_find_14 rfl (lv_at hl 0 rfl) ?_
    refine b_get hM hW 11 18 hc rfl rfl (by decide) wi_X13 (wgm fk_RX13_220) (x := .int (gI v 18)) rfl dX13_find_15 ?_
    exact t_X13_find_18 (fu := fu) hM hml hr hlk hc0 hk2 hf _ _ hW _ (lv_sub hl [0, 1, 2] rfl)
  · have hf := if_f c1 hf
    refine lv_aload_n hx hb dX13_find_7 rfl (lv_at hl 0 rfl) ?_
    refine b_get hM hW 11 19 hc rfl rfl (by decide) wi_X13 (wgm fk_RX13_217) (x := .int (gI v 19)) rfl dX13_find_8 ?_
    refine lv_goto (tgt := 18) hx hb dX13_find_11 (by decide) ?_
    exact t_X13_find_18 (fu := fu) hM hml hr hlk hc0 hk2 hf _ _ hW _ (lv_sub hl [0, 1, 2] rfl)
theorem t_X13_find_2 {G : GG} {p : Program} {l : Launch} {e : Env} {s : State} {m : MethodId} {args : Array Value} {below : List Frame} {meth : Method} {c : Code} {S : ST} {fu : Nat} {z : Int32} {a : Nat} {v : GV}  {x1 : Int32} (hM : MC G p s m args c cX13_find w_X13_find RX13) (hml : c.maxLocals = 3) (hr : meth.sig.returnType = (some .int)) (hlk : meth.locks = false) (hc0 : gC v = 12)  : ∀ {n : Nat} (x2 : Int32), f_X13_find_2 fu n  v x1 x2 = some z → ∀ (H : Heap) (locs : List Loc), WB G (st S a v) s H locs → ∀ (ls : Array Slot), lv_has ls 3 [(0, .ref a), (1, .int x1), (2, .int x2)] → W p l e RM_X13_find s m args below meth c H locs 0 0 (QR G below args s (some (.int z)) (st S a v) (st S a v)) (F0 m 2 ls []) := by
  intro n
  induction n with
  | zero => intro x2 hf; cases hf
  | succ n ih => intro x2 hf; exact t_X13_find_2s (fu := fu) hM hml hr hlk hc0  (k2 := f_X13_find_2 fu n  v x1) ih _ hf
noncomputable def f_X13_find_0 (fu : Nat)  (v : GV) (x1 : Int32) : Option (Int32) :=
  f_X13_find_2 fu fu v x1 (0 : Int32)
set_option maxHeartbeats 4000000 in
set_option maxRecDepth 100000 in
theorem t_X13_find_0 {G : GG} {p : Program} {l : Launch} {e : Env} {s : State} {m : MethodId} {args : Array Value} {below : List Frame} {meth : Method} {c : Code} {S : ST} {fu : Nat} {z : Int32} {a : Nat} {v : GV}  {x1 : Int32} (hM : MC G p s m args c cX13_find w_X13_find RX13) (hml : c.maxLocals = 3) (hr : meth.sig.returnType = (some .int)) (hlk : meth.locks = false) (hc0 : gC v = 12)  (hf : f_X13_find_0 fu  v x1 = some z) : ∀ (H : Heap) (locs : List Loc), WB G (st S a v) s H locs → ∀ (ls : Array Slot), lv_has ls 3 [(0, .ref a), (1, .int x1)] → W p l e RM_X13_find s m args below meth c H locs 0 0 (QR G below args s (some (.int z)) (st S a v) (st S a v)) (F0 m 0 ls []) := by
  intro H locs hW ls hl
  have hx := hM.1
  have hb := hM.2.1
  have hc := hc0
  refine lv_iconst (v := (0 : Int32)) hx hb dX13_find_0 (by decide) ?_
  refine lv_istore_n (lv' := [(2, .int (0 : Int32)), (0, .ref a), (1, .int x1)]) hx hb dX13_find_1 rfl hl (by decide) rfl (fun ls hl => ?_)
  exact t_X13_find_2 (fu := fu) hM hml hr hlk hc0 _ hf _ _ hW _ (lv_sub hl [1, 2, 0] rfl)
noncomputable def f_X13_find (fu : Nat) (v : GV) (x1 : Int32) : Option (Int32) := f_X13_find_0 fu v x1
set_option maxHeartbeats 4000000 in
set_option maxRecDepth 100000 in
theorem c_X13_find (l : Launch) (G : GG) (fu : Nat) (S : ST) (a : Nat) (v : GV) (x1 : Int32) {z : Int32} (hc : gC v = 12) (hf : f_X13_find fu v x1 = some z) : Ct l yX13_find w_X13_find RM_X13_find G (st S a v) [.ref a, .int x1] (some (.int z)) (st S a v) 0 0 := by
  refine Met.ofW (cc := cX13_find) (maxL := 3) (ret := (some .int)) (by decide) rfl ?_
  intro p e s m args below meth c s₁ B hml hv
  obtain ⟨rfl, hB, hK, hz⟩ := hv
  have hM : MC G p s m _ c cX13_find w_X13_find RX13 := ⟨B.exec, B.bytes, findClass_of_methodNamed B.named, atoms_spec (ws := w_X13_find) B.pre, hK, hz⟩
  have hW : WB G (st S a v) s s.heap [] := ⟨hB, va_S.rf⟩
  have hl := lv_entry ([.ref a, .int x1]) (n := 3) (Nat.le_of_ble_eq_true rfl)
  rw [lg_entry_eq]
  generalize (lg_sl ([.ref a, .int x1]) ++ List.replicate (3 - (lg_sl ([.ref a, .int x1])).length) Slot.unset).toArray = ls at hl ⊢
  have hl : lv_has ls 3 [(0, .ref a), (1, .int x1)] := hl
  exact t_X13_find_0 hM hml B.returns B.notSynchronized hc hf _ _ hW _ (lv_sub hl [0, 1] rfl)
abbrev w_X13_toldHere : List Cond := Cond.code yX13_toldHere cX13_toldHere 4 (some .int) :: wsL_law0
abbrev RM_X13_toldHere : Room := { frames := 3, cells := 0, slots := 0, locals := 65 }
noncomputable def f_X13_toldHere_60 (fu : Nat)  (v : GV) (x3 : Int32) : Option (Int32 × GV) :=
  if (gI v 8) ≤ 0 then
    (some (x3, v))
  else
    (some ((0 : Int32), v))
set_option maxHeartbeats 4000000 in
set_option maxRecDepth 100000 in
theorem t_X13_toldHere_60 {G : GG} {p : Program} {l : Launch} {e : Env} {s : State} {m : MethodId} {args : Array Value} {below : List Frame} {meth : Method} {c : Code} {S : ST} {fu : Nat} {z : Int32 × GV} {a : Nat} {v0 : GV}  {v : GV} {x3 : Int32} (hM : MC G p s m args c cX13_toldHere w_X13_toldHere RX13) (hml : c.maxLocals = 4) (hr : meth.sig.returnType = (some .int)) (hlk : meth.locks = false) (hc0 : gC v0 = 12)  (hf : f_X13_toldHere_60 fu  v x3 = some z) : gC v = 12 → ∀ (H : Heap) (locs : List Loc), WB G (st S a v) s H locs → ∀ (ls : Array Slot), lv_has ls 4 [(0, .ref a), (3, .int x3)] → W p l e RM_X13_toldHere s m args below meth c H locs 0 0 (QR G below args s (some (.int z.1)) (st S a v0) (st S a z.2)) (F0 m 60 ls []) := by
  intro hc H locs hW ls hl
  have hx := hM.1
  have hb := hM.2.1
  refine lv_aload_n hx hb dX13_toldHere_60 rfl (lv_at hl 0 rfl) ?_
  refine b_get hM hW 11 8 hc rfl rfl (by decide) wi_X13 (wgm fk_RX13_192) (x := .int (gI v 8)) rfl dX13_toldHere_61 ?_
  refine lv_if_le (tgt := 71) hx hb dX13_toldHere_64 (by decide) (fun c1 => ?_) (fun c1 => ?_)
  · have hf := if_t c1 hf
    refine lv_iload_n hx hb dX13_toldHere_71 rfl (lv_at hl 1 rfl) ?_
    cases hf
    exact W.iret hx hb hr (b_ret0 hW (keep_s2 hc0 hc) _) hW.2.2.2 dX13_toldHere_72 hlk
  · have hf := if_f c1 hf
    refine lv_iconst (v := (0 : Int32)) hx hb dX13_toldHere_67 (by decide) ?_
    refine lv_goto (tgt := 72) hx hb dX13_toldHere_68 (by decide) ?_
    cases hf
    exact W.iret hx hb hr (b_ret0 hW (keep_s2 hc0 hc) _) hW.2.2.2 dX13_toldHere_72 hlk
noncomputable def f_X13_toldHere_37 (fu : Nat)  (v : GV) (t0 : Int32) : Option (Int32 × GV) :=
  if (gI v 8) = 0 then
    (bd (f_X13_within fu t0 (0 : Int32) (7 : Int32)) fun r2 =>
    if r2 = 0 then
      (bd (f_X13_wrong fu v (2 : Int32)) fun v5 =>
      f_X13_toldHere_60 fu v5 t0)
    else
      (f_X13_toldHere_60 fu v t0))
  else
    (f_X13_toldHere_60 fu v t0)
set_option maxHeartbeats 4000000 in
set_option maxRecDepth 100000 in
theorem t_X13_toldHere_37 {G : GG} {p : Program} {l : Launch} {e : Env} {s : State} {m : MethodId} {args : Array Value} {below : List Frame} {meth : Method} {c : Code} {S : ST} {fu : Nat} {z : Int32 × GV} {a : Nat} {v0 : GV}  {v : GV} {t0 : Int32} (hM : MC G p s m args c cX13_toldHere w_X13_toldHere RX13) (hml : c.maxLocals = 4) (hr : meth.sig.returnType = (some .int)) (hlk : meth.locks = false) (hc0 : gC v0 = 12)  (hf : f_X13_toldHere_37 fu  v t0 = some z) : gC v = 12 → ∀ (H : Heap) (locs : List Loc), WB G (st S a v) s H locs → ∀ (ls : Array Slot), lv_has ls 4 [(0, .ref a)] → W p l e RM_X13_toldHere s m args below meth c H locs 0 0 (QR G below args s (some (.int z.1)) (st S a v0) (st S a z.2)) (F0 m 37 ls [.int t0]) := by
  intro hc H locs hW ls hl
  have hx := hM.1
  have hb := hM.2.1
  refine lv_istore_n (lv' := [(3, .int t0), (0, .ref a)]) hx hb dX13_toldHere_37 rfl hl (by decide) rfl (fun ls hl => ?_)
  refine lv_aload_n hx hb dX13_toldHere_38 rfl (lv_at hl 1 rfl) ?_
  refine b_get hM hW 11 8 hc rfl rfl (by decide) wi_X13 (wgm fk_RX13_192) (x := .int (gI v 8)) rfl dX13_toldHere_39 ?_
  refine lv_if_ne (tgt := 60) hx hb dX13_toldHere_42 (by decide) (fun c1 => ?_) (fun c1 => ?_)
  · have hf := if_f c1 hf
    exact t_X13_toldHere_60 (fu := fu) hM hml hr hlk hc0 hf hc _ _ hW _ (lv_sub hl [1, 0] rfl)
  · have hf := if_t c1 hf
    refine lv_iload_n hx hb dX13_toldHere_45 rfl (lv_at hl 0 rfl) ?_
    refine lv_iconst (v := (0 : Int32)) hx hb dX13_toldHere_46 (by decide) ?_
    refine lv_bipush (v := (7 : Int32)) hx hb dX13_toldHere_47 (by decide) ?_
    obtain ⟨r2, hr2, hf⟩ := bd_elim hf
    refine b_callSi [.int t0, .int (0 : Int32), .int (7 : Int32)] [] hM hml hl.1 hW (c_X13_within l G fu _ _ _ _ hr2) (va_cwS 3 hM.2.2.2.1 (gS mk_RX13_231 sm_X13_within it_RX13 cd_X13_within) rfl rfl rfl (by decide +kernel) ⟨Nat.le_of_ble_eq_true rfl, Nat.le_of_ble_eq_true rfl⟩) rfl rfl (Nat.le_of_ble_eq_true rfl) ⟨Nat.zero_le _, Nat.zero_le _⟩ dX13_toldHere_49 (fun H locs hW hk => ?_)
    refine lv_if_ne (tgt := 60) hx hb dX13_toldHere_52 (by decide) (fun c3 => ?_) (fun c3 => ?_)
    · have hf := if_f c3 hf
      exact t_X13_toldHere_60 (fu := fu) hM hml hr hlk hc0 hf hc _ _ hW _ (lv_sub hl [1, 0] rfl)
    · have hf := if_t c3 hf
      refine lv_aload_n hx hb dX13_toldHere_55 rfl (lv_at hl 1 rfl) ?_
      refine lv_iconst (v := (2 : Int32)) hx hb dX13_toldHere_56 (by decide) ?_
      obtain ⟨v5, hr4, hf⟩ := bd_elim hf
      refine b_callVv [.int (2 : Int32)] [] hM hml hl.1 hW hc rfl (by decide) (c_X13_wrong l G fu _ a v _ hc hr4) (cwV 1 hM.2.2.2.1 (gV mk_RX13_198 im_X13_wrong se_X13_wrong it_RX13 cd_X13_wrong) rfl rfl rfl (by decide +kernel) ⟨Nat.le_of_ble_eq_true rfl, Nat.le_of_ble_eq_true rfl⟩) rfl rfl (Nat.le_of_ble_eq_true rfl) ⟨Nat.zero_le _, Nat.zero_le _⟩ dX13_toldHere_57 (fun H locs hW hk => ?_)
      have hc := keep_at hc hk
      exact t_X13_toldHere_60 (fu := fu) hM hml hr hlk hc0 hf hc _ _ hW _ (lv_sub hl [1, 0] rfl)
noncomputable def f_X13_toldHere_19 (fu : Nat)  (v : GV) (x1 : Int32) (x2 : Int32) : Option (Int32 × GV) :=
  if (gI v 8) ≤ 0 then
    (bd (f_X13_find fu v x1) fun r2 =>
    f_X13_toldHere_37 fu v (r2 - x2))
  else
    (f_X13_toldHere_37 fu v (-1 : Int32))
set_option maxHeartbeats 4000000 in
set_option maxRecDepth 100000 in
theorem t_X13_toldHere_19 {G : GG} {p : Program} {l : Launch} {e : Env} {s : State} {m : MethodId} {args : Array Value} {below : List Frame} {meth : Method} {c : Code} {S : ST} {fu : Nat} {z : Int32 × GV} {a : Nat} {v0 : GV}  {v : GV} {x1 : Int32} {x2 : Int32} (hM : MC G p s m args c cX13_toldHere w_X13_toldHere RX13) (hml : c.maxLocals = 4) (hr : meth.sig.returnType = (some .int)) (hlk : meth.locks = false) (hc0 : gC v0 = 12)  (hf : f_X13_toldHere_19 fu  v x1 x2 = some z) : gC v = 12 → ∀ (H : Heap) (locs : List Loc), WB G (st S a v) s H locs → ∀ (ls : Array Slot), lv_has ls 4 [(0, .ref a), (1, .int x1), (2, .int x2)] → W p l e RM_X13_toldHere s m args below meth c H locs 0 0 (QR G below args s (some (.int z.1)) (st S a v0) (st S a z.2)) (F0 m 19 ls []) := by
  intro hc H locs hW ls hl
  have hx := hM.1
  have hb := hM.2.1
  refine lv_aload_n hx hb dX13_toldHere_19 rfl (lv_at hl 0 rfl) ?_
  refine b_get hM hW 11 8 hc rfl rfl (by decide) wi_X13 (wgm fk_RX13_192) (x := .int (gI v 8)) rfl dX13_toldHere_20 ?_
  refine lv_if_le (tgt := 30) hx hb dX13_toldHere_23 (by decide) (fun c1 => ?_) (fun c1 => ?_)
  · have hf := if_t c1 hf
    refine lv_aload_n hx hb dX13_toldHere_30 rfl (lv_at hl 0 rfl) ?_
    refine lv_iload_n hx hb dX13_toldHere_31 rfl (lv_at hl 1 rfl) ?_
    obtain ⟨r2, hr2, hf⟩ := bd_elim hf
    refine b_callVi [.int x1] [] hM hml hl.1 hW hc rfl (by decide) (c_X13_find l G fu _ a v _ hc hr2) (cwV 1 hM.2.2.2.1 (gV mk_RX13_227 im_X13_find se_X13_find it_RX13 cd_X13_find) rfl rfl rfl (by decide +kernel) ⟨Nat.le_of_ble_eq_true rfl, Nat.le_of_ble_eq_true rfl⟩) rfl rfl (Nat.le_of_ble_eq_true rfl) ⟨Nat.zero_le _, Nat.zero_le _⟩ dX13_toldHere_32 (fun H locs hW hk => ?_)
    refine lv_iload_n hx hb dX13_toldHere_35 rfl (lv_at hl 2 rfl) ?_
    refine lv_isub hx hb dX13_toldHere_36 ?_
    exact t_X13_toldHere_37 (fu := fu) hM hml hr hlk hc0 hf hc _ _ hW _ (lv_sub hl [0] rfl)
  · have hf := if_f c1 hf
    refine lv_iconst (v := (-1 : Int32)) hx hb dX13_toldHere_26 (by decide) ?_
    refine lv_goto (tgt := 37) hx hb dX13_toldHere_27 (by decide) ?_
    exact t_X13_toldHere_37 (fu := fu) hM hml hr hlk hc0 hf hc _ _ hW _ (lv_sub hl [0] rfl)
noncomputable def f_X13_toldHere_0 (fu : Nat)  (v : GV) (x1 : Int32) (x2 : Int32) : Option (Int32 × GV) :=
  if (gI v 8) = 0 then
    (bd (f_X13_isName fu v) fun r2 =>
    if r2 = 0 then
      (bd (f_X13_wrong fu v (1 : Int32)) fun v5 =>
      f_X13_toldHere_19 fu v5 x1 x2)
    else
      (f_X13_toldHere_19 fu v x1 x2))
  else
    (f_X13_toldHere_19 fu v x1 x2)
set_option maxHeartbeats 4000000 in
set_option maxRecDepth 100000 in
theorem t_X13_toldHere_0 {G : GG} {p : Program} {l : Launch} {e : Env} {s : State} {m : MethodId} {args : Array Value} {below : List Frame} {meth : Method} {c : Code} {S : ST} {fu : Nat} {z : Int32 × GV} {a : Nat} {v0 : GV}  {v : GV} {x1 : Int32} {x2 : Int32} (hM : MC G p s m args c cX13_toldHere w_X13_toldHere RX13) (hml : c.maxLocals = 4) (hr : meth.sig.returnType = (some .int)) (hlk : meth.locks = false) (hc0 : gC v0 = 12)  (hf : f_X13_toldHere_0 fu  v x1 x2 = some z) : gC v = 12 → ∀ (H : Heap) (locs : List Loc), WB G (st S a v) s H locs → ∀ (ls : Array Slot), lv_has ls 4 [(0, .ref a), (1, .int x1), (2, .int x2)] → W p l e RM_X13_toldHere s m args below meth c H locs 0 0 (QR G below args s (some (.int z.1)) (st S a v0) (st S a z.2)) (F0 m 0 ls []) := by
  intro hc H locs hW ls hl
  have hx := hM.1
  have hb := hM.2.1
  refine lv_aload_n hx hb dX13_toldHere_0 rfl (lv_at hl 0 rfl) ?_
  refine b_get hM hW 11 8 hc rfl rfl (by decide) wi_X13 (wgm fk_RX13_192) (x := .int (gI v 8)) rfl dX13_toldHere_1 ?_
  refine lv_if_ne (tgt := 19) hx hb dX13_toldHere_4 (by decide) (fun c1 => ?_) (fun c1 => ?_)
  · have hf := if_f c1 hf
    exact t_X13_toldHere_19 (fu := fu) hM hml hr hlk hc0 hf hc _ _ hW _ (lv_sub hl [0, 1, 2] rfl)
  · have hf := if_t c1 hf
    refine lv_aload_n hx hb dX13_toldHere_7 rfl (lv_at hl 0 rfl) ?_
    obtain ⟨r2, hr2, hf⟩ := bd_elim hf
    refine b_callVi [] [] hM hml hl.1 hW hc rfl (by decide) (c_X13_isName l G fu _ a v hc hr2) (cwV 0 hM.2.2.2.1 (gV mk_RX13_223 im_X13_isName se_X13_isName it_RX13 cd_X13_isName) rfl rfl rfl (by decide +kernel) ⟨Nat.le_of_ble_eq_true rfl, Nat.le_of_ble_eq_true rfl⟩) rfl rfl (Nat.le_of_ble_eq_true rfl) ⟨Nat.zero_le _, Nat.zero_le _⟩ dX13_toldHere_8 (fun H locs hW hk => ?_)
    refine lv_if_ne (tgt := 19) hx hb dX13_toldHere_11 (by decide) (fun c3 => ?_) (fun c3 => ?_)
    · have hf := if_f c3 hf
      exact t_X13_toldHere_19 (fu := fu) hM hml hr hlk hc0 hf hc _ _ hW _ (lv_sub hl [0, 1, 2] rfl)
    · have hf := if_t c3 hf
      refine lv_aload_n hx hb dX13_toldHere_14 rfl (lv_at hl 0 rfl) ?_
      refine lv_iconst (v := (1 : Int32)) hx hb dX13_toldHere_15 (by decide) ?_
      obtain ⟨v5, hr4, hf⟩ := bd_elim hf
      refine b_callVv [.int (1 : Int32)] [] hM hml hl.1 hW hc rfl (by decide) (c_X13_wrong l G fu _ a v _ hc hr4) (cwV 1 hM.2.2.2.1 (gV mk_RX13_198 im_X13_wrong se_X13_wrong it_RX13 cd_X13_wrong) rfl rfl rfl (by decide +kernel) ⟨Nat.le_of_ble_eq_true rfl, Nat.le_of_ble_eq_true rfl⟩) rfl rfl (Nat.le_of_ble_eq_true rfl) ⟨Nat.zero_le _, Nat.zero_le _⟩ dX13_toldHere_16 (fun H locs hW hk => ?_)
      have hc := keep_at hc hk
      exact t_X13_toldHere_19 (fu := fu) hM hml hr hlk hc0 hf hc _ _ hW _ (lv_sub hl [0, 1, 2] rfl)
noncomputable def f_X13_toldHere (fu : Nat) (v : GV) (x1 : Int32) (x2 : Int32) : Option (Int32 × GV) := f_X13_toldHere_0 fu v x1 x2
set_option maxHeartbeats 4000000 in
set_option maxRecDepth 100000 in
theorem c_X13_toldHere (l : Launch) (G : GG) (fu : Nat) (S : ST) (a : Nat) (v : GV) (x1 : Int32) (x2 : Int32) {z : Int32} {w : GV} (hc : gC v = 12) (hf : f_X13_toldHere fu v x1 x2 = some (z, w)) : Ct l yX13_toldHere w_X13_toldHere RM_X13_toldHere G (st S a v) [.ref a, .int x1, .int x2] (some (.int z)) (st S a w) 0 0 := by
  refine Met.ofW (cc := cX13_toldHere) (maxL := 4) (ret := (some .int)) (by decide) rfl ?_
  intro p e s m args below meth c s₁ B hml hv
  obtain ⟨rfl, hB, hK, hz⟩ := hv
  have hM : MC G p s m _ c cX13_toldHere w_X13_toldHere RX13 := ⟨B.exec, B.bytes, findClass_of_methodNamed B.named, atoms_spec (ws := w_X13_toldHere) B.pre, hK, hz⟩
  have hW : WB G (st S a v) s s.heap [] := ⟨hB, va_S.rf⟩
  have hl := lv_entry ([.ref a, .int x1, .int x2]) (n := 4) (Nat.le_of_ble_eq_true rfl)
  rw [lg_entry_eq]
  generalize (lg_sl ([.ref a, .int x1, .int x2]) ++ List.replicate (4 - (lg_sl ([.ref a, .int x1, .int x2])).length) Slot.unset).toArray = ls at hl ⊢
  have hl : lv_has ls 4 [(0, .ref a), (1, .int x1), (2, .int x2)] := hl
  exact t_X13_toldHere_0 hM hml B.returns B.notSynchronized hc hf hc _ _ hW _ (lv_sub hl [0, 1, 2] rfl)
abbrev w_X13_takeTold : List Cond := Cond.code yX13_takeTold cX13_takeTold 4 (some .int) :: wsL_law0
abbrev RM_X13_takeTold : Room := { frames := 4, cells := 0, slots := 0, locals := 88 }
noncomputable def f_X13_takeTold_24 (fu : Nat)  (v : GV) (x3 : Int32) (t1 : Int32) (t2 : Int32) : Option (Int32 × GV) :=
  nm (sI v 7 (t1 + t2)) fun v1 =>
  some (x3, v1)
set_option maxHeartbeats 4000000 in
set_option maxRecDepth 100000 in
theorem t_X13_takeTold_24 {G : GG} {p : Program} {l : Launch} {e : Env} {s : State} {m : MethodId} {args : Array Value} {below : List Frame} {meth : Method} {c : Code} {S : ST} {fu : Nat} {z : Int32 × GV} {a : Nat} {v0 : GV}  {v : GV} {x3 : Int32} {t1 : Int32} {t2 : Int32} (hM : MC G p s m args c cX13_takeTold w_X13_takeTold RX13) (hml : c.maxLocals = 4) (hr : meth.sig.returnType = (some .int)) (hlk : meth.locks = false) (hc0 : gC v0 = 12)  (hf : f_X13_takeTold_24 fu  v x3 t1 t2 = some z) : gC v = 12 → ∀ (H : Heap) (locs : List Loc), WB G (st S a v) s H locs → ∀ (ls : Array Slot), lv_has ls 4 [(3, .int x3)] → W p l e RM_X13_takeTold s m args below meth c H locs 0 0 (QR G below args s (some (.int z.1)) (st S a v0) (st S a z.2)) (F0 m 24 ls [.int t2, .int t1, .ref a]) := by
  intro hc H locs hW ls hl
  have hx := hM.1
  have hb := hM.2.1
  refine lv_iadd hx hb dX13_takeTold_24 ?_
  refine b_putI hM hW 11 7 hc rfl rfl (by decide) wi_X13 tyX13 tyX13_ok nmX13 (wgm fk_RX13_189) rfl rfl rfl dX13_takeTold_25 (fun v1 ev1 hc H locs hW => ?_)
  have hf := nm_at ev1 hf
  refine lv_iload_n hx hb dX13_takeTold_28 rfl (lv_at hl 0 rfl) ?_
  cases hf
  exact W.iret hx hb hr (b_ret0 hW (keep_s2 hc0 hc) _) hW.2.2.2 dX13_takeTold_29 hlk
noncomputable def f_X13_takeTold_0 (fu : Nat)  (v : GV) (x1 : Int32) (x2 : Int32) : Option (Int32 × GV) :=
  bd2 (f_X13_toldHere fu v x1 x2) fun r1 v2 =>
  if (gI v2 8) ≤ 0 then
    (f_X13_takeTold_24 fu v2 r1 (gI v2 7) (1 : Int32))
  else
    (f_X13_takeTold_24 fu v2 r1 (gI v2 7) (0 : Int32))
set_option maxHeartbeats 4000000 in
set_option maxRecDepth 100000 in
theorem t_X13_takeTold_0 {G : GG} {p : Program} {l : Launch} {e : Env} {s : State} {m : MethodId} {args : Array Value} {below : List Frame} {meth : Method} {c : Code} {S : ST} {fu : Nat} {z : Int32 × GV} {a : Nat} {v0 : GV}  {v : GV} {x1 : Int32} {x2 : Int32} (hM : MC G p s m args c cX13_takeTold w_X13_takeTold RX13) (hml : c.maxLocals = 4) (hr : meth.sig.returnType = (some .int)) (hlk : meth.locks = false) (hc0 : gC v0 = 12)  (hf : f_X13_takeTold_0 fu  v x1 x2 = some z) : gC v = 12 → ∀ (H : Heap) (locs : List Loc), WB G (st S a v) s H locs → ∀ (ls : Array Slot), lv_has ls 4 [(0, .ref a), (1, .int x1), (2, .int x2)] → W p l e RM_X13_takeTold s m args below meth c H locs 0 0 (QR G below args s (some (.int z.1)) (st S a v0) (st S a z.2)) (F0 m 0 ls []) := by
  intro hc H locs hW ls hl
  have hx := hM.1
  have hb := hM.2.1
  refine lv_aload_n hx hb dX13_takeTold_0 rfl (lv_at hl 0 rfl) ?_
  refine lv_iload_n hx hb dX13_takeTold_1 rfl (lv_at hl 1 rfl) ?_
  refine lv_iload_n hx hb dX13_takeTold_2 rfl (lv_at hl 2 rfl) ?_
  obtain ⟨r1, v2, hr1, hf⟩ := bd2_elim hf
  refine b_callVi [.int x1, .int x2] [] hM hml hl.1 hW hc rfl (by decide) (c_X13_toldHere l G fu _ a v _ _ hc hr1) (cwV 2 hM.2.2.2.1 (gV mk_RX13_235 im_X13_toldHere se_X13_toldHere it_RX13 cd_X13_toldHere) rfl rfl rfl (by decide +kernel) ⟨Nat.le_of_ble_eq_true rfl, Nat.le_of_ble_eq_true rfl⟩) rfl rfl (Nat.le_of_ble_eq_true rfl) ⟨Nat.zero_le _, Nat.zero_le _⟩ dX13_takeTold_3 (fun H locs hW hk => ?_)
  have hc := keep_at hc hk
  refine lv_istore_n (lv' := [(3, .int r1), (0, .ref a), (1, .int x1), (2, .int x2)]) hx hb dX13_takeTold_6 rfl hl (by decide) rfl (fun ls hl => ?_)
  refine lv_aload_n hx hb dX13_takeTold_7 rfl (lv_at hl 1 rfl) ?_
  refine lv_dup hx hb dX13_takeTold_8 rfl ?_
  refine b_get hM hW 11 7 hc rfl rfl (by decide) wi_X13 (wgm fk_RX13_189) (x := .int (gI v2 7)) rfl dX13_takeTold_9 ?_
  refine lv_aload_n hx hb dX13_takeTold_12 rfl (lv_at hl 1 rfl) ?_
  refine b_get hM hW 11 8 hc rfl rfl (by decide) wi_X13 (wgm fk_RX13_192) (x := .int (gI v2 8)) rfl dX13_takeTold_13 ?_
  refine lv_if_le (tgt := 23) hx hb dX13_takeTold_16 (by decide) (fun c3 => ?_) (fun c3 => ?_)
  · have hf := if_t c3 hf
    refine lv_iconst (v := (1 : Int32)) hx hb dX13_takeTold_23 (by decide) ?_
    exact t_X13_takeTold_24 (fu := fu) hM hml hr hlk hc0 hf hc _ _ hW _ (lv_sub hl [0] rfl)
  · have hf := if_f c3 hf
    refine lv_iconst (v := (0 : Int32)) hx hb dX13_takeTold_19 (by decide) ?_
    refine lv_goto (tgt := 24) hx hb dX13_takeTold_20 (by decide) ?_
    exact t_X13_takeTold_24 (fu := fu) hM hml hr hlk hc0 hf hc _ _ hW _ (lv_sub hl [0] rfl)
noncomputable def f_X13_takeTold (fu : Nat) (v : GV) (x1 : Int32) (x2 : Int32) : Option (Int32 × GV) := f_X13_takeTold_0 fu v x1 x2
set_option maxHeartbeats 4000000 in
set_option maxRecDepth 100000 in
theorem c_X13_takeTold (l : Launch) (G : GG) (fu : Nat) (S : ST) (a : Nat) (v : GV) (x1 : Int32) (x2 : Int32) {z : Int32} {w : GV} (hc : gC v = 12) (hf : f_X13_takeTold fu v x1 x2 = some (z, w)) : Ct l yX13_takeTold w_X13_takeTold RM_X13_takeTold G (st S a v) [.ref a, .int x1, .int x2] (some (.int z)) (st S a w) 0 0 := by
  refine Met.ofW (cc := cX13_takeTold) (maxL := 4) (ret := (some .int)) (by decide) rfl ?_
  intro p e s m args below meth c s₁ B hml hv
  obtain ⟨rfl, hB, hK, hz⟩ := hv
  have hM : MC G p s m _ c cX13_takeTold w_X13_takeTold RX13 := ⟨B.exec, B.bytes, findClass_of_methodNamed B.named, atoms_spec (ws := w_X13_takeTold) B.pre, hK, hz⟩
  have hW : WB G (st S a v) s s.heap [] := ⟨hB, va_S.rf⟩
  have hl := lv_entry ([.ref a, .int x1, .int x2]) (n := 4) (Nat.le_of_ble_eq_true rfl)
  rw [lg_entry_eq]
  generalize (lg_sl ([.ref a, .int x1, .int x2]) ++ List.replicate (4 - (lg_sl ([.ref a, .int x1, .int x2])).length) Slot.unset).toArray = ls at hl ⊢
  have hl : lv_has ls 4 [(0, .ref a), (1, .int x1), (2, .int x2)] := hl
  exact t_X13_takeTold_0 hM hml B.returns B.notSynchronized hc hf hc _ _ hW _ (lv_sub hl [0, 1, 2] rfl)
abbrev w_X13_readName : List Cond := Cond.code yX13_readName cX13_readName 2 none :: wsL_law0
abbrev RM_X13_readName : Room := { frames := 3, cells := 0, slots := 0, locals := 65 }
noncomputable def f_X13_readName_38 (fu : Nat)  (v : GV) (x1 : Int32) : Option (GV) :=
  if (gI v 8) = 0 then
    (nm ((gI v 7)) fun y2 =>
    ck (inb y2 1002) <|
    nm ((gL v 6 y2.toNatClampNeg)) fun y4 =>
    ck (inb (gI v 19) 18) <|
    nm (sL v 15 (gI v 19).toNatClampNeg y4) fun v6 =>
    ck (inb (gI v6 19) 18) <|
    nm (sA v6 17 (gI v6 19).toNatClampNeg x1) fun v8 =>
    nm (sI v8 19 ((gI v8 19) + (1 : Int32))) fun v9 =>
    nm (sI v9 7 ((gI v9 7) + (1 : Int32))) fun v10 =>
    some v10)
  else
    (some v)
set_option maxHeartbeats 4000000 in
set_option maxRecDepth 100000 in
theorem t_X13_readName_38 {G : GG} {p : Program} {l : Launch} {e : Env} {s : State} {m : MethodId} {args : Array Value} {below : List Frame} {meth : Method} {c : Code} {S : ST} {fu : Nat} {z : GV} {a : Nat} {v0 : GV}  {v : GV} {x1 : Int32} (hM : MC G p s m args c cX13_readName w_X13_readName RX13) (hml : c.maxLocals = 2) (hr : meth.sig.returnType = none) (hlk : meth.locks = false) (hc0 : gC v0 = 12)  (hf : f_X13_readName_38 fu  v x1 = some z) : gC v = 12 → ∀ (H : Heap) (locs : List Loc), WB G (st S a v) s H locs → ∀ (ls : Array Slot), lv_has ls 2 [(0, .ref a), (1, .int x1)] → W p l e RM_X13_readName s m args below meth c H locs 0 0 (QR G below args s none (st S a v0) (st S a z)) (F0 m 38 ls []) := by
  intro hc H locs hW ls hl
  have hx := hM.1
  have hb := hM.2.1
  refine lv_aload_n hx hb dX13_readName_38 rfl (lv_at hl 0 rfl) ?_
  refine b_get hM hW 11 8 hc rfl rfl (by decide) wi_X13 (wgm fk_RX13_192) (x := .int (gI v 8)) rfl dX13_readName_39 ?_
  refine lv_if_ne (tgt := 93) hx hb dX13_readName_42 (by decide) (fun c1 => ?_) (fun c1 => ?_)
  · have hf := if_f c1 hf
    cases hf
    exact W.vret hx hb hr (b_ret0 hW (keep_s2 hc0 hc) _) hW.2.2.2 dX13_readName_93 hlk
  · have hf := if_t c1 hf
    refine lv_aload_n hx hb dX13_readName_45 rfl (lv_at hl 0 rfl) ?_
    refine b_get hM hW 11 15 hc rfl rfl (by decide) wi_X13 (wgm fk_RX13_107) (x := .ref (a + 10)) rfl dX13_readName_46 ?_
    refine lv_aload_n hx hb dX13_readName_49 rfl (lv_at hl 0 rfl) ?_
    refine b_get hM hW 11 19 hc rfl rfl (by decide) wi_X13 (wgm fk_RX13_217) (x := .int (gI v 19)) rfl dX13_readName_50 ?_
    refine lv_aload_n hx hb dX13_readName_53 rfl (lv_at hl 0 rfl) ?_
    refine b_get hM hW 11 6 hc rfl rfl (by decide) wi_X13 (wgm fk_RX13_30) (x := .ref (a + 4)) rfl dX13_readName_54 ?_
    refine lv_aload_n hx hb dX13_readName_57 rfl (lv_at hl 0 rfl) ?_
    refine b_get hM hW 11 7 hc rfl rfl (by decide) wi_X13 (wgm fk_RX13_189) (x := .int (gI v 7)) rfl dX13_readName_58 ?_
    refine lv_topi (fun y2 ey2 => ?_)
    have hf := nm_at ey2 hf
    obtain ⟨h3, hf⟩ := ck_elim hf
    refine b_lald (n := 1002) hM hW 11 6 hc (by decide) rfl rfl rfl rfl h3 dX13_readName_61 ?_
    refine lv_topl (fun y4 ey4 => ?_)
    have hf := nm_at ey4 hf
    obtain ⟨h5, hf⟩ := ck_elim hf
    refine b_last (n := 18) hM hW 11 15 hc (by decide) rfl rfl rfl rfl h5 dX13_readName_62 (fun v6 ev6 hc H locs hW => ?_)
    have hf := nm_at ev6 hf
    refine lv_aload_n hx hb dX13_readName_63 rfl (lv_at hl 0 rfl) ?_
    refine b_get hM hW 11 17 hc rfl rfl (by decide) wi_X13 (wgm fk_RX13_113) (x := .ref (a + 12)) rfl dX13_readName_64 ?_
    refine lv_aload_n hx hb dX13_readName_67 rfl (lv_at hl 0 rfl) ?_
    refine b_get hM hW 11 19 hc rfl rfl (by decide) wi_X13 (wgm fk_RX13_217) (x := .int (gI v6 19)) rfl dX13_readName_68 ?_
    refine lv_iload_n hx hb dX13_readName_71 rfl (lv_at hl 1 rfl) ?_
    obtain ⟨h7, hf⟩ := ck_elim hf
    refine b_iast (n := 18) hM hW 11 17 hc (by decide) rfl rfl rfl rfl h7 dX13_readName_72 (fun v8 ev8 hc H locs hW => ?_)
    have hf := nm_at ev8 hf
    refine lv_aload_n hx hb dX13_readName_73 rfl (lv_at hl 0 rfl) ?_
    refine lv_dup hx hb dX13_readName_74 rfl ?_
    refine b_get hM hW 11 19 hc rfl rfl (by decide) wi_X13 (wgm fk_RX13_217) (x := .int (gI v8 19)) rfl dX13_readName_75 ?_
    refine lv_iconst (v := (1 : Int32)) hx hb dX13_readName_78 (by decide) ?_
    refine lv_iadd hx hb dX13_readName_79 ?_
    refine b_putI hM hW 11 19 hc rfl rfl (by decide) wi_X13 tyX13 tyX13_ok nmX13 (wgm fk_RX13_217) rfl rfl rfl dX13_readName_80 (fun v9 ev9 hc H locs hW => ?_)
    have hf := nm_at ev9 hf
    refine lv_aload_n hx hb dX13_readName_83 rfl (lv_at hl 0 rfl) ?_
    refine lv_dup hx hb dX13_readName_84 rfl ?_
    refine b_get hM hW 11 7 hc rfl rfl (by decide) wi_X13 (wgm fk_RX13_189) (x := .int (gI v9 7)) rfl dX13_readName_85 ?_
    refine lv_iconst (v := (1 : Int32)) hx hb dX13_readName_88 (by decide) ?_
    refine lv_iadd hx hb dX13_readName_89 ?_
    refine b_putI hM hW 11 7 hc rfl rfl (by decide) wi_X13 tyX13 tyX13_ok nmX13 (wgm fk_RX13_189) rfl rfl rfl dX13_readName_90 (fun v10 ev10 hc H locs hW => ?_)
    have hf := nm_at ev10 hf
    cases hf
    exact W.vret hx hb hr (b_ret0 hW (keep_s2 hc0 hc) _) hW.2.2.2 dX13_readName_93 hlk
noncomputable def f_X13_readName_0 (fu : Nat)  (v : GV) (x1 : Int32) : Option (GV) :=
  nm (sI v 7 ((gI v 7) + (1 : Int32))) fun v1 =>
  bd (f_X13_isName fu v1) fun r2 =>
  if r2 = 0 then
    (bd (f_X13_wrong fu v1 (1 : Int32)) fun v9 =>
    f_X13_readName_38 fu v9 x1)
  else
    (bd (f_X13_find fu v1 (1 : Int32)) fun r4 =>
    if r4 < 0 then
      (f_X13_readName_38 fu v1 x1)
    else
      (bd (f_X13_wrong fu v1 (3 : Int32)) fun v7 =>
      f_X13_readName_38 fu v7 x1))
set_option maxHeartbeats 4000000 in
set_option maxRecDepth 100000 in
theorem t_X13_readName_0 {G : GG} {p : Program} {l : Launch} {e : Env} {s : State} {m : MethodId} {args : Array Value} {below : List Frame} {meth : Method} {c : Code} {S : ST} {fu : Nat} {z : GV} {a : Nat} {v0 : GV}  {v : GV} {x1 : Int32} (hM : MC G p s m args c cX13_readName w_X13_readName RX13) (hml : c.maxLocals = 2) (hr : meth.sig.returnType = none) (hlk : meth.locks = false) (hc0 : gC v0 = 12)  (hf : f_X13_readName_0 fu  v x1 = some z) : gC v = 12 → ∀ (H : Heap) (locs : List Loc), WB G (st S a v) s H locs → ∀ (ls : Array Slot), lv_has ls 2 [(0, .ref a), (1, .int x1)] → W p l e RM_X13_readName s m args below meth c H locs 0 0 (QR G below args s none (st S a v0) (st S a z)) (F0 m 0 ls []) := by
  intro hc H locs hW ls hl
  have hx := hM.1
  have hb := hM.2.1
  refine lv_aload_n hx hb dX13_readName_0 rfl (lv_at hl 0 rfl) ?_
  refine lv_dup hx hb dX13_readName_1 rfl ?_
  refine b_get hM hW 11 7 hc rfl rfl (by decide) wi_X13 (wgm fk_RX13_189) (x := .int (gI v 7)) rfl dX13_readName_2 ?_
  refine lv_iconst (v := (1 : Int32)) hx hb dX13_readName_5 (by decide) ?_
  refine lv_iadd hx hb dX13_readName_6 ?_
  refine b_putI hM hW 11 7 hc rfl rfl (by decide) wi_X13 tyX13 tyX13_ok nmX13 (wgm fk_RX13_189) rfl rfl rfl dX13_readName_7 (fun v1 ev1 hc H locs hW => ?_)
  have hf := nm_at ev1 hf
  refine lv_aload_n hx hb dX13_readName_10 rfl (lv_at hl 0 rfl) ?_
  obtain ⟨r2, hr2, hf⟩ := bd_elim hf
  refine b_callVi [] [] hM hml hl.1 hW hc rfl (by decide) (c_X13_isName l G fu _ a v1 hc hr2) (cwV 0 hM.2.2.2.1 (gV mk_RX13_223 im_X13_isName se_X13_isName it_RX13 cd_X13_isName) rfl rfl rfl (by decide +kernel) ⟨Nat.le_of_ble_eq_true rfl, Nat.le_of_ble_eq_true rfl⟩) rfl rfl (Nat.le_of_ble_eq_true rfl) ⟨Nat.zero_le _, Nat.zero_le _⟩ dX13_readName_11 (fun H locs hW hk => ?_)
  refine lv_if_ne (tgt := 25) hx hb dX13_readName_14 (by decide) (fun c3 => ?_) (fun c3 => ?_)
  · have hf := if_f c3 hf
    refine lv_aload_n hx hb dX13_readName_25 rfl (lv_at hl 0 rfl) ?_
    refine lv_iconst (v := (1 : Int32)) hx hb dX13_readName_26 (by decide) ?_
    obtain ⟨r4, hr4, hf⟩ := bd_elim hf
    refine b_callVi [.int (1 : Int32)] [] hM hml hl.1 hW hc rfl (by decide) (c_X13_find l G fu _ a v1 _ hc hr4) (cwV 1 hM.2.2.2.1 (gV mk_RX13_227 im_X13_find se_X13_find it_RX13 cd_X13_find) rfl rfl rfl (by decide +kernel) ⟨Nat.le_of_ble_eq_true rfl, Nat.le_of_ble_eq_true rfl⟩) rfl rfl (Nat.le_of_ble_eq_true rfl) ⟨Nat.zero_le _, Nat.zero_le _⟩ dX13_readName_27 (fun H locs hW hk => ?_)
    refine lv_if_lt (tgt := 38) hx hb dX13_readName_30 (by decide) (fun c5 => ?_) (fun c5 => ?_)
    · have hf := if_t c5 hf
      exact t_X13_readName_38 (fu := fu) hM hml hr hlk hc0 hf hc _ _ hW _ (lv_sub hl [0, 1] rfl)
    · have hf := if_f c5 hf
      refine lv_aload_n hx hb dX13_readName_33 rfl (lv_at hl 0 rfl) ?_
      refine lv_iconst (v := (3 : Int32)) hx hb dX13_readName_34 (by decide) ?_
      obtain ⟨v7, hr6, hf⟩ := bd_elim hf
      refine b_callVv [.int (3 : Int32)] [] hM hml hl.1 hW hc rfl (by decide) (c_X13_wrong l G fu _ a v1 _ hc hr6) (cwV 1 hM.2.2.2.1 (gV mk_RX13_198 im_X13_wrong se_X13_wrong it_RX13 cd_X13_wrong) rfl rfl rfl (by decide +kernel) ⟨Nat.le_of_ble_eq_true rfl, Nat.le_of_ble_eq_true rfl⟩) rfl rfl (Nat.le_of_ble_eq_true rfl) ⟨Nat.zero_le _, Nat.zero_le _⟩ dX13_readName_35 (fun H locs hW hk => ?_)
      have hc := keep_at hc hk
      exact t_X13_readName_38 (fu := fu) hM hml hr hlk hc0 hf hc _ _ hW _ (lv_sub hl [0, 1] rfl)
  · have hf := if_t c3 hf
    refine lv_aload_n hx hb dX13_readName_17 rfl (lv_at hl 0 rfl) ?_
    refine lv_iconst (v := (1 : Int32)) hx hb dX13_readName_18 (by decide) ?_
    obtain ⟨v9, hr8, hf⟩ := bd_elim hf
    refine b_callVv [.int (1 : Int32)] [] hM hml hl.1 hW hc rfl (by decide) (c_X13_wrong l G fu _ a v1 _ hc hr8) (cwV 1 hM.2.2.2.1 (gV mk_RX13_198 im_X13_wrong se_X13_wrong it_RX13 cd_X13_wrong) rfl rfl rfl (by decide +kernel) ⟨Nat.le_of_ble_eq_true rfl, Nat.le_of_ble_eq_true rfl⟩) rfl rfl (Nat.le_of_ble_eq_true rfl) ⟨Nat.zero_le _, Nat.zero_le _⟩ dX13_readName_19 (fun H locs hW hk => ?_)
    have hc := keep_at hc hk
    refine lv_goto (tgt := 38) hx hb dX13_readName_22 (by decide) ?_
    exact t_X13_readName_38 (fu := fu) hM hml hr hlk hc0 hf hc _ _ hW _ (lv_sub hl [0, 1] rfl)
noncomputable def f_X13_readName (fu : Nat) (v : GV) (x1 : Int32) : Option (GV) := f_X13_readName_0 fu v x1
set_option maxHeartbeats 4000000 in
set_option maxRecDepth 100000 in
theorem c_X13_readName (l : Launch) (G : GG) (fu : Nat) (S : ST) (a : Nat) (v : GV) (x1 : Int32) {z : GV} (hc : gC v = 12) (hf : f_X13_readName fu v x1 = some z) : Ct l yX13_readName w_X13_readName RM_X13_readName G (st S a v) [.ref a, .int x1] none (st S a z) 0 0 := by
  refine Met.ofW (cc := cX13_readName) (maxL := 2) (ret := none) (by decide) rfl ?_
  intro p e s m args below meth c s₁ B hml hv
  obtain ⟨rfl, hB, hK, hz⟩ := hv
  have hM : MC G p s m _ c cX13_readName w_X13_readName RX13 := ⟨B.exec, B.bytes, findClass_of_methodNamed B.named, atoms_spec (ws := w_X13_readName) B.pre, hK, hz⟩
  have hW : WB G (st S a v) s s.heap [] := ⟨hB, va_S.rf⟩
  have hl := lv_entry ([.ref a, .int x1]) (n := 2) (Nat.le_of_ble_eq_true rfl)
  rw [lg_entry_eq]
  generalize (lg_sl ([.ref a, .int x1]) ++ List.replicate (2 - (lg_sl ([.ref a, .int x1])).length) Slot.unset).toArray = ls at hl ⊢
  have hl : lv_has ls 2 [(0, .ref a), (1, .int x1)] := hl
  exact t_X13_readName_0 hM hml B.returns B.notSynchronized hc hf hc _ _ hW _ (lv_sub hl [0, 1] rfl)
abbrev w_X13_readSpot : List Cond := Cond.code yX13_readSpot cX13_readSpot 2 none :: wsL_law0
abbrev RM_X13_readSpot : Room := { frames := 4, cells := 0, slots := 0, locals := 86 }
noncomputable def f_X13_readSpot_0 (fu : Nat)  (v : GV) : Option (GV) :=
  nm ((gA v 10 (70 : Int32).toNatClampNeg)) fun y1 =>
  if y1 = (8 : Int32) then
    (bd (f_X13_wrong fu v (5 : Int32)) fun v8 =>
    some v8)
  else
    (bd (f_X13_readName fu v y1) fun v4 =>
    nm (((gA v4 10 (70 : Int32).toNatClampNeg) + (1 : Int32))) fun y5 =>
    nm (sA v4 10 (70 : Int32).toNatClampNeg y5) fun v6 =>
    some v6)
set_option maxHeartbeats 4000000 in
set_option maxRecDepth 100000 in
theorem t_X13_readSpot_0 {G : GG} {p : Program} {l : Launch} {e : Env} {s : State} {m : MethodId} {args : Array Value} {below : List Frame} {meth : Method} {c : Code} {S : ST} {fu : Nat} {z : GV} {a : Nat} {v0 : GV}  {v : GV} (hM : MC G p s m args c cX13_readSpot w_X13_readSpot RX13) (hml : c.maxLocals = 2) (hr : meth.sig.returnType = none) (hlk : meth.locks = false) (hc0 : gC v0 = 12)  (hf : f_X13_readSpot_0 fu  v  = some z) : gC v = 12 → ∀ (H : Heap) (locs : List Loc), WB G (st S a v) s H locs → ∀ (ls : Array Slot), lv_has ls 2 [(0, .ref a)] → W p l e RM_X13_readSpot s m args below meth c H locs 0 0 (QR G below args s none (st S a v0) (st S a z)) (F0 m 0 ls []) := by
  intro hc H locs hW ls hl
  have hx := hM.1
  have hb := hM.2.1
  refine lv_aload_n hx hb dX13_readSpot_0 rfl (lv_at hl 0 rfl) ?_
  refine b_get hM hW 11 10 hc rfl rfl (by decide) wi_X13 (wgm fk_RX13_95) (x := .ref (a + 6)) rfl dX13_readSpot_1 ?_
  refine lv_bipush (v := (70 : Int32)) hx hb dX13_readSpot_4 (by decide) ?_
  refine b_iald (n := 140) hM hW 11 10 hc (by decide) rfl rfl rfl rfl (by decide) dX13_readSpot_6 ?_
  refine lv_topi (fun y1 ey1 => ?_)
  have hf := nm_at ey1 hf
  refine lv_istore_n (lv' := [(1, .int y1), (0, .ref a)]) hx hb dX13_readSpot_7 rfl hl (by decide) rfl (fun ls hl => ?_)
  refine lv_iload_n hx hb dX13_readSpot_8 rfl (lv_at hl 0 rfl) ?_
  refine lv_bipush (v := (8 : Int32)) hx hb dX13_readSpot_9 (by decide) ?_
  refine lv_icmp_ne (tgt := 20) hx hb dX13_readSpot_11 (by decide) (fun c2 => ?_) (fun c2 => ?_)
  · have hf := if_f c2 hf
    refine lv_aload_n hx hb dX13_readSpot_20 rfl (lv_at hl 1 rfl) ?_
    refine lv_iload_n hx hb dX13_readSpot_21 rfl (lv_at hl 0 rfl) ?_
    obtain ⟨v4, hr3, hf⟩ := bd_elim hf
    refine b_callVv [.int y1] [] hM hml hl.1 hW hc rfl (by decide) (c_X13_readName l G fu _ a v _ hc hr3) (cwV 1 hM.2.2.2.1 (gV mk_RX13_266 im_X13_readName se_X13_readName it_RX13 cd_X13_readName) rfl rfl rfl (by decide +kernel) ⟨Nat.le_of_ble_eq_true rfl, Nat.le_of_ble_eq_true rfl⟩) rfl rfl (Nat.le_of_ble_eq_true rfl) ⟨Nat.zero_le _, Nat.zero_le _⟩ dX13_readSpot_22 (fun H locs hW hk => ?_)
    have hc := keep_at hc hk
    refine lv_aload_n hx hb dX13_readSpot_25 rfl (lv_at hl 1 rfl) ?_
    refine b_get hM hW 11 10 hc rfl rfl (by decide) wi_X13 (wgm fk_RX13_95) (x := .ref (a + 6)) rfl dX13_readSpot_26 ?_
    refine lv_bipush (v := (70 : Int32)) hx hb dX13_readSpot_29 (by decide) ?_
    refine lv_dup2_11 hx hb dX13_readSpot_31 rfl rfl ?_
    refine b_iald (n := 140) hM hW 11 10 hc (by decide) rfl rfl rfl rfl (by decide) dX13_readSpot_32 ?_
    refine lv_iconst (v := (1 : Int32)) hx hb dX13_readSpot_33 (by decide) ?_
    refine lv_iadd hx hb dX13_readSpot_34 ?_
    refine lv_topi (fun y5 ey5 => ?_)
    have hf := nm_at ey5 hf
    refine b_iast (n := 140) hM hW 11 10 hc (by decide) rfl rfl rfl rfl (by decide) dX13_readSpot_35 (fun v6 ev6 hc H locs hW => ?_)
    have hf := nm_at ev6 hf
    cases hf
    exact W.vret hx hb hr (b_ret0 hW (keep_s2 hc0 hc) _) hW.2.2.2 dX13_readSpot_36 hlk
  · have hf := if_t c2 hf
    refine lv_aload_n hx hb dX13_readSpot_14 rfl (lv_at hl 1 rfl) ?_
    refine lv_iconst (v := (5 : Int32)) hx hb dX13_readSpot_15 (by decide) ?_
    obtain ⟨v8, hr7, hf⟩ := bd_elim hf
    refine b_callVv [.int (5 : Int32)] [] hM hml hl.1 hW hc rfl (by decide) (c_X13_wrong l G fu _ a v _ hc hr7) (cwV 1 hM.2.2.2.1 (gV mk_RX13_198 im_X13_wrong se_X13_wrong it_RX13 cd_X13_wrong) rfl rfl rfl (by decide +kernel) ⟨Nat.le_of_ble_eq_true rfl, Nat.le_of_ble_eq_true rfl⟩) rfl rfl (Nat.le_of_ble_eq_true rfl) ⟨Nat.zero_le _, Nat.zero_le _⟩ dX13_readSpot_16 (fun H locs hW hk => ?_)
    have hc := keep_at hc hk
    cases hf
    exact W.vret hx hb hr (b_ret0 hW (keep_s2 hc0 hc) _) hW.2.2.2 dX13_readSpot_19 hlk
noncomputable def f_X13_readSpot (fu : Nat) (v : GV) : Option (GV) := f_X13_readSpot_0 fu v
set_option maxHeartbeats 4000000 in
set_option maxRecDepth 100000 in
theorem c_X13_readSpot (l : Launch) (G : GG) (fu : Nat) (S : ST) (a : Nat) (v : GV) {z : GV} (hc : gC v = 12) (hf : f_X13_readSpot fu v = some z) : Ct l yX13_readSpot w_X13_readSpot RM_X13_readSpot G (st S a v) [.ref a] none (st S a z) 0 0 := by
  refine Met.ofW (cc := cX13_readSpot) (maxL := 2) (ret := none) (by decide) rfl ?_
  intro p e s m args below meth c s₁ B hml hv
  obtain ⟨rfl, hB, hK, hz⟩ := hv
  have hM : MC G p s m _ c cX13_readSpot w_X13_readSpot RX13 := ⟨B.exec, B.bytes, findClass_of_methodNamed B.named, atoms_spec (ws := w_X13_readSpot) B.pre, hK, hz⟩
  have hW : WB G (st S a v) s s.heap [] := ⟨hB, va_S.rf⟩
  have hl := lv_entry ([.ref a]) (n := 2) (Nat.le_of_ble_eq_true rfl)
  rw [lg_entry_eq]
  generalize (lg_sl ([.ref a]) ++ List.replicate (2 - (lg_sl ([.ref a])).length) Slot.unset).toArray = ls at hl ⊢
  have hl : lv_has ls 2 [(0, .ref a)] := hl
  exact t_X13_readSpot_0 hM hml B.returns B.notSynchronized hc hf hc _ _ hW _ (lv_sub hl [0] rfl)
abbrev w_X13_readHours : List Cond := Cond.code yX13_readHours cX13_readHours 4 (some .int) :: wsL_law0
abbrev RM_X13_readHours : Room := { frames := 2, cells := 0, slots := 0, locals := 43 }
noncomputable def f_X13_readHours_97 (fu : Nat)  (v : GV) (x1 : Int32) : Option (Int32 × GV) :=
  some (x1, v)
set_option maxHeartbeats 4000000 in
set_option maxRecDepth 100000 in
theorem t_X13_readHours_97 {G : GG} {p : Program} {l : Launch} {e : Env} {s : State} {m : MethodId} {args : Array Value} {below : List Frame} {meth : Method} {c : Code} {S : ST} {fu : Nat} {z : Int32 × GV} {a : Nat} {v0 : GV}  {v : GV} {x1 : Int32} (hM : MC G p s m args c cX13_readHours w_X13_readHours RX13) (hml : c.maxLocals = 4) (hr : meth.sig.returnType = (some .int)) (hlk : meth.locks = false) (hc0 : gC v0 = 12)  (hf : f_X13_readHours_97 fu  v x1 = some z) : gC v = 12 → ∀ (H : Heap) (locs : List Loc), WB G (st S a v) s H locs → ∀ (ls : Array Slot), lv_has ls 4 [(1, .int x1)] → W p l e RM_X13_readHours s m args below meth c H locs 0 0 (QR G below args s (some (.int z.1)) (st S a v0) (st S a z.2)) (F0 m 97 ls []) := by
  intro hc H locs hW ls hl
  have hx := hM.1
  have hb := hM.2.1
  refine lv_iload_n hx hb dX13_readHours_97 rfl (lv_at hl 0 rfl) ?_
  cases hf
  exact W.iret hx hb hr (b_ret0 hW (keep_s2 hc0 hc) _) hW.2.2.2 dX13_readHours_98 hlk
noncomputable def f_X13_readHours_85 (fu : Nat) (k4 : Int32 → Int32 → GV → Option (Int32 × GV)) (v : GV) (x1 : Int32) (x2 : Int32) (x3 : Int32) : Option (Int32 × GV) :=
  nm ((x1 ||| ((1 : Int32) <<< (x3 &&& 31)))) fun y1 =>
  nm (x2 + (1 : Int32)) fun y2 =>
  k4 y1 y2 v
set_option maxHeartbeats 4000000 in
set_option maxRecDepth 100000 in
theorem t_X13_readHours_85 {G : GG} {p : Program} {l : Launch} {e : Env} {s : State} {m : MethodId} {args : Array Value} {below : List Frame} {meth : Method} {c : Code} {S : ST} {fu : Nat} {z : Int32 × GV} {a : Nat} {v0 : GV} {k4 : Int32 → Int32 → GV → Option (Int32 × GV)} {v : GV} {x1 : Int32} {x2 : Int32} {x3 : Int32} (hM : MC G p s m args c cX13_readHours w_X13_readHours RX13) (hml : c.maxLocals = 4) (hr : meth.sig.returnType = (some .int)) (hlk : meth.locks = false) (hc0 : gC v0 = 12) (hk4 : ∀ (x1 : Int32) (x2 : Int32) (v : GV), k4 x1 x2 v = some z → gC v = 12 → ∀ (H : Heap) (locs : List Loc), WB G (st S a v) s H locs → ∀ (ls : Array Slot), lv_has ls 4 [(0, .ref a), (1, .int x1), (2, .int x2)] → W p l e RM_X13_readHours s m args below meth c H locs 0 0 (QR G below args s (some (.int z.1)) (st S a v0) (st S a z.2)) (F0 m 4 ls [])) (hf : f_X13_readHours_85 fu k4 v x1 x2 x3 = some z) : gC v = 12 → ∀ (H : Heap) (locs : List Loc), WB G (st S a v) s H locs → ∀ (ls : Array Slot), lv_has ls 4 [(0, .ref a), (1, .int x1), (2, .int x2), (3, .int x3)] → W p l e RM_X13_readHours s m args below meth c H locs 0 0 (QR G below args s (some (.int z.1)) (st S a v0) (st S a z.2)) (F0 m 85 ls []) := by
  intro hc H locs hW ls hl
  have hx := hM.1
  have hb := hM.2.1
  refine lv_iload_n hx hb dX13_readHours_85 rfl (lv_at hl 1 rfl) ?_
  refine lv_iconst (v := (1 : Int32)) hx hb dX13_readHours_86 (by decide) ?_
  refine lv_iload_n hx hb dX13_readHours_87 rfl (lv_at hl 3 rfl) ?_
  refine lv_ishl hx hb dX13_readHours_88 ?_
  refine lv_ior hx hb dX13_readHours_89 ?_
  refine lv_topi (fun y1 ey1 => ?_)
  have hf := nm_at ey1 hf
  refine lv_istore_n (lv' := [(1, .int y1), (0, .ref a), (2, .int x2), (3, .int x3)]) hx hb dX13_readHours_90 rfl hl (by decide) rfl (fun ls hl => ?_)
  obtain ⟨y2, ey2⟩ : ∃ y : Int32, y = x2 + (1 : Int32) := ⟨_, rfl⟩
  have hf := nm_at ey2 hf
  refine lv_iinc (v := y2) (lv' := [(2, .int y2), (1, .int y1), (0, .ref a), (3, .int x3)]) hx hb dX13_readHours_91 hl (k := 2) rfl (by rw [ey2]; rfl) (by decide) rfl (fun ls hl => ?_)
  refine lv_goto (tgt := 4) hx hb dX13_readHours_94 (by decide) ?_
  exact hk4 _ _ _ hf hc _ _ hW _ (lv_sub hl [2, 1, 0] rfl)
noncomputable def f_X13_readHours_82 (fu : Nat) (k4 : Int32 → Int32 → GV → Option (Int32 × GV)) (v : GV) (x1 : Int32) (x2 : Int32) (x3 : Int32) (t1 : Int32) : Option (Int32 × GV) :=
  bd (f_X13_wrong fu v t1) fun v2 =>
  f_X13_readHours_85 fu k4 v2 x1 x2 x3
set_option maxHeartbeats 4000000 in
set_option maxRecDepth 100000 in
theorem t_X13_readHours_82 {G : GG} {p : Program} {l : Launch} {e : Env} {s : State} {m : MethodId} {args : Array Value} {below : List Frame} {meth : Method} {c : Code} {S : ST} {fu : Nat} {z : Int32 × GV} {a : Nat} {v0 : GV} {k4 : Int32 → Int32 → GV → Option (Int32 × GV)} {v : GV} {x1 : Int32} {x2 : Int32} {x3 : Int32} {t1 : Int32} (hM : MC G p s m args c cX13_readHours w_X13_readHours RX13) (hml : c.maxLocals = 4) (hr : meth.sig.returnType = (some .int)) (hlk : meth.locks = false) (hc0 : gC v0 = 12) (hk4 : ∀ (x1 : Int32) (x2 : Int32) (v : GV), k4 x1 x2 v = some z → gC v = 12 → ∀ (H : Heap) (locs : List Loc), WB G (st S a v) s H locs → ∀ (ls : Array Slot), lv_has ls 4 [(0, .ref a), (1, .int x1), (2, .int x2)] → W p l e RM_X13_readHours s m args below meth c H locs 0 0 (QR G below args s (some (.int z.1)) (st S a v0) (st S a z.2)) (F0 m 4 ls [])) (hf : f_X13_readHours_82 fu k4 v x1 x2 x3 t1 = some z) : gC v = 12 → ∀ (H : Heap) (locs : List Loc), WB G (st S a v) s H locs → ∀ (ls : Array Slot), lv_has ls 4 [(0, .ref a), (1, .int x1), (2, .int x2), (3, .int x3)] → W p l e RM_X13_readHours s m args below meth c H locs 0 0 (QR G below args s (some (.int z.1)) (st S a v0) (st S a z.2)) (F0 m 82 ls [.int t1, .ref a]) := by
  intro hc H locs hW ls hl
  have hx := hM.1
  have hb := hM.2.1
  obtain ⟨v2, hr1, hf⟩ := bd_elim hf
  refine b_callVv [.int t1] [] hM hml hl.1 hW hc rfl (by decide) (c_X13_wrong l G fu _ a v _ hc hr1) (cwV 1 hM.2.2.2.1 (gV mk_RX13_198 im_X13_wrong se_X13_wrong it_RX13 cd_X13_wrong) rfl rfl rfl (by decide +kernel) ⟨Nat.le_of_ble_eq_true rfl, Nat.le_of_ble_eq_true rfl⟩) rfl rfl (Nat.le_of_ble_eq_true rfl) ⟨Nat.zero_le _, Nat.zero_le _⟩ dX13_readHours_82 (fun H locs hW hk => ?_)
  have hc := keep_at hc hk
  exact t_X13_readHours_85 (fu := fu) hM hml hr hlk hc0 hk4 hf hc _ _ hW _ (lv_sub hl [0, 1, 2, 3] rfl)
noncomputable def f_X13_readHours_57 (fu : Nat) (k4 : Int32 → Int32 → GV → Option (Int32 × GV)) (v : GV) (x1 : Int32) (x2 : Int32) (x3 : Int32) : Option (Int32 × GV) :=
  nm (sI v 7 ((gI v 7) - (1 : Int32))) fun v1 =>
  if ((x1 >>> (x3 &&& 31)) &&& (1 : Int32)) = (1 : Int32) then
    (f_X13_readHours_82 fu k4 v1 x1 x2 x3 (3 : Int32))
  else
    (f_X13_readHours_82 fu k4 v1 x1 x2 x3 (5 : Int32))
set_option maxHeartbeats 4000000 in
set_option maxRecDepth 100000 in
theorem t_X13_readHours_57 {G : GG} {p : Program} {l : Launch} {e : Env} {s : State} {m : MethodId} {args : Array Value} {below : List Frame} {meth : Method} {c : Code} {S : ST} {fu : Nat} {z : Int32 × GV} {a : Nat} {v0 : GV} {k4 : Int32 → Int32 → GV → Option (Int32 × GV)} {v : GV} {x1 : Int32} {x2 : Int32} {x3 : Int32} (hM : MC G p s m args c cX13_readHours w_X13_readHours RX13) (hml : c.maxLocals = 4) (hr : meth.sig.returnType = (some .int)) (hlk : meth.locks = false) (hc0 : gC v0 = 12) (hk4 : ∀ (x1 : Int32) (x2 : Int32) (v : GV), k4 x1 x2 v = some z → gC v = 12 → ∀ (H : Heap) (locs : List Loc), WB G (st S a v) s H locs → ∀ (ls : Array Slot), lv_has ls 4 [(0, .ref a), (1, .int x1), (2, .int x2)] → W p l e RM_X13_readHours s m args below meth c H locs 0 0 (QR G below args s (some (.int z.1)) (st S a v0) (st S a z.2)) (F0 m 4 ls [])) (hf : f_X13_readHours_57 fu k4 v x1 x2 x3 = some z) : gC v = 12 → ∀ (H : Heap) (locs : List Loc), WB G (st S a v) s H locs → ∀ (ls : Array Slot), lv_has ls 4 [(0, .ref a), (1, .int x1), (2, .int x2), (3, .int x3)] → W p l e RM_X13_readHours s m args below meth c H locs 0 0 (QR G below args s (some (.int z.1)) (st S a v0) (st S a z.2)) (F0 m 57 ls []) := by
  intro hc H locs hW ls hl
  have hx := hM.1
  have hb := hM.2.1
  refine lv_aload_n hx hb dX13_readHours_57 rfl (lv_at hl 0 rfl) ?_
  refine lv_dup hx hb dX13_readHours_58 rfl ?_
  refine b_get hM hW 11 7 hc rfl rfl (by decide) wi_X13 (wgm fk_RX13_189) (x := .int (gI v 7)) rfl dX13_readHours_59 ?_
  refine lv_iconst (v := (1 : Int32)) hx hb dX13_readHours_62 (by decide) ?_
  refine lv_isub hx hb dX13_readHours_63 ?_
  refine b_putI hM hW 11 7 hc rfl rfl (by decide) wi_X13 tyX13 tyX13_ok nmX13 (wgm fk_RX13_189) rfl rfl rfl dX13_readHours_64 (fun v1 ev1 hc H locs hW => ?_)
  have hf := nm_at ev1 hf
  refine lv_aload_n hx hb dX13_readHours_67 rfl (lv_at hl 0 rfl) ?_
  refine lv_iload_n hx hb dX13_readHours_68 rfl (lv_at hl 1 rfl) ?_
  refine lv_iload_n hx hb dX13_readHours_69 rfl (lv_at hl 3 rfl) ?_
  refine lv_ishr hx hb dX13_readHours_70 ?_
  refine lv_iconst (v := (1 : Int32)) hx hb dX13_readHours_71 (by decide) ?_
  refine lv_iand hx hb dX13_readHours_72 ?_
  refine lv_iconst (v := (1 : Int32)) hx hb dX13_readHours_73 (by decide) ?_
  refine lv_icmp_ne (tgt := 81) hx hb dX13_readHours_74 (by decide) (fun c2 => ?_) (fun c2 => ?_)
  · have hf := if_f c2 hf
    refine lv_iconst (v := (5 : Int32)) hx hb dX13_readHours_81 (by decide) ?_
    exact t_X13_readHours_82 (fu := fu) hM hml hr hlk hc0 hk4 hf hc _ _ hW _ (lv_sub hl [0, 1, 2, 3] rfl)
  · have hf := if_t c2 hf
    refine lv_iconst (v := (3 : Int32)) hx hb dX13_readHours_77 (by decide) ?_
    refine lv_goto (tgt := 82) hx hb dX13_readHours_78 (by decide) ?_
    exact t_X13_readHours_82 (fu := fu) hM hml hr hlk hc0 hk4 hf hc _ _ hW _ (lv_sub hl [0, 1, 2, 3] rfl)
noncomputable def f_X13_readHours_28 (fu : Nat) (k4 : Int32 → Int32 → GV → Option (Int32 × GV)) (v : GV) (x1 : Int32) (x2 : Int32) : Option (Int32 × GV) :=
  bd2 (f_X13_takeNumber fu v (0 : Int32) (23 : Int32)) fun r1 v2 =>
  if (gI v2 8) = 0 then
    (if ((x1 >>> (r1 &&& 31)) &&& (1 : Int32)) = (1 : Int32) then
      (f_X13_readHours_57 fu k4 v2 x1 x2 r1)
    else
      (if x2 = (4 : Int32) then
        (f_X13_readHours_57 fu k4 v2 x1 x2 r1)
      else
        (f_X13_readHours_85 fu k4 v2 x1 x2 r1)))
  else
    (f_X13_readHours_85 fu k4 v2 x1 x2 r1)
set_option maxHeartbeats 4000000 in
set_option maxRecDepth 100000 in
theorem t_X13_readHours_28 {G : GG} {p : Program} {l : Launch} {e : Env} {s : State} {m : MethodId} {args : Array Value} {below : List Frame} {meth : Method} {c : Code} {S : ST} {fu : Nat} {z : Int32 × GV} {a : Nat} {v0 : GV} {k4 : Int32 → Int32 → GV → Option (Int32 × GV)} {v : GV} {x1 : Int32} {x2 : Int32} (hM : MC G p s m args c cX13_readHours w_X13_readHours RX13) (hml : c.maxLocals = 4) (hr : meth.sig.returnType = (some .int)) (hlk : meth.locks = false) (hc0 : gC v0 = 12) (hk4 : ∀ (x1 : Int32) (x2 : Int32) (v : GV), k4 x1 x2 v = some z → gC v = 12 → ∀ (H : Heap) (locs : List Loc), WB G (st S a v) s H locs → ∀ (ls : Array Slot), lv_has ls 4 [(0, .ref a), (1, .int x1), (2, .int x2)] → W p l e RM_X13_readHours s m args below meth c H locs 0 0 (QR G below args s (some (.int z.1)) (st S a v0) (st S a z.2)) (F0 m 4 ls [])) (hf : f_X13_readHours_28 fu k4 v x1 x2 = some z) : gC v = 12 → ∀ (H : Heap) (locs : List Loc), WB G (st S a v) s H locs → ∀ (ls : Array Slot), lv_has ls 4 [(0, .ref a), (1, .int x1), (2, .int x2)] → W p l e RM_X13_readHours s m args below meth c H locs 0 0 (QR G below args s (some (.int z.1)) (st S a v0) (st S a z.2)) (F0 m 28 ls []) := by
  intro hc H locs hW ls hl
  have hx := hM.1
  have hb := hM.2.1
  refine lv_aload_n hx hb dX13_readHours_28 rfl (lv_at hl 0 rfl) ?_
  refine lv_iconst (v := (0 : Int32)) hx hb dX13_readHours_29 (by decide) ?_
  refine lv_bipush (v := (23 : Int32)) hx hb dX13_readHours_30 (by decide) ?_
  obtain ⟨r1, v2, hr1, hf⟩ := bd2_elim hf
  refine b_callVi [.int (0 : Int32), .int (23 : Int32)] [] hM hml hl.1 hW hc rfl (by decide) (c_X13_takeNumber l G fu _ a v _ _ hc hr1) (cwV 2 hM.2.2.2.1 (gV mk_RX13_210 im_X13_takeNumber se_X13_takeNumber it_RX13 cd_X13_takeNumber) rfl rfl rfl (by decide +kernel) ⟨Nat.le_of_ble_eq_true rfl, Nat.le_of_ble_eq_true rfl⟩) rfl rfl (Nat.le_of_ble_eq_true rfl) ⟨Nat.zero_le _, Nat.zero_le _⟩ dX13_readHours_32 (fun H locs hW hk => ?_)
  have hc := keep_at hc hk
  refine lv_istore_n (lv' := [(3, .int r1), (0, .ref a), (1, .int x1), (2, .int x2)]) hx hb dX13_readHours_35 rfl hl (by decide) rfl (fun ls hl => ?_)
  refine lv_aload_n hx hb dX13_readHours_36 rfl (lv_at hl 1 rfl) ?_
  refine b_get hM hW 11 8 hc rfl rfl (by decide) wi_X13 (wgm fk_RX13_192) (x := .int (gI v2 8)) rfl dX13_readHours_37 ?_
  refine lv_if_ne (tgt := 85) hx hb dX13_readHours_40 (by decide) (fun c3 => ?_) (fun c3 => ?_)
  · have hf := if_f c3 hf
    exact t_X13_readHours_85 (fu := fu) hM hml hr hlk hc0 hk4 hf hc _ _ hW _ (lv_sub hl [1, 2, 3, 0] rfl)
  · have hf := if_t c3 hf
    refine lv_iload_n hx hb dX13_readHours_43 rfl (lv_at hl 2 rfl) ?_
    refine lv_iload_n hx hb dX13_readHours_44 rfl (lv_at hl 0 rfl) ?_
    refine lv_ishr hx hb dX13_readHours_45 ?_
    refine lv_iconst (v := (1 : Int32)) hx hb dX13_readHours_46 (by decide) ?_
    refine lv_iand hx hb dX13_readHours_47 ?_
    refine lv_iconst (v := (1 : Int32)) hx hb dX13_readHours_48 (by decide) ?_
    refine lv_icmp_eq (tgt := 57) hx hb dX13_readHours_49 (by decide) (fun c4 => ?_) (fun c4 => ?_)
    · have hf := if_t c4 hf
      exact t_X13_readHours_57 (fu := fu) hM hml hr hlk hc0 hk4 hf hc _ _ hW _ (lv_sub hl [1, 2, 3, 0] rfl)
    · have hf := if_f c4 hf
      refine lv_iload_n hx hb dX13_readHours_52 rfl (lv_at hl 3 rfl) ?_
      refine lv_iconst (v := (4 : Int32)) hx hb dX13_readHours_53 (by decide) ?_
      refine lv_icmp_ne (tgt := 85) hx hb dX13_readHours_54 (by decide) (fun c5 => ?_) (fun c5 => ?_)
      · have hf := if_f c5 hf
        exact t_X13_readHours_85 (fu := fu) hM hml hr hlk hc0 hk4 hf hc _ _ hW _ (lv_sub hl [1, 2, 3, 0] rfl)
      · have hf := if_t c5 hf
        exact t_X13_readHours_57 (fu := fu) hM hml hr hlk hc0 hk4 hf hc _ _ hW _ (lv_sub hl [1, 2, 3, 0] rfl)
noncomputable def f_X13_readHours_4s (fu : Nat)  (k4 : Int32 → Int32 → GV → Option (Int32 × GV)) (x1 : Int32) (x2 : Int32) (v : GV) : Option (Int32 × GV) :=
  if (gI v 8) = 0 then
    (if x2 = 0 then
      (f_X13_readHours_28 fu k4 v x1 x2)
    else
      (nm ((gI v 7)) fun y3 =>
      ck (inb y3 1002) <|
      if (gA v 4 y3.toNatClampNeg) = (2 : Int32) then
        (f_X13_readHours_28 fu k4 v x1 x2)
      else
        (f_X13_readHours_97 fu v x1)))
  else
    (f_X13_readHours_97 fu v x1)
noncomputable def f_X13_readHours_4 (fu n : Nat)  : Int32 → Int32 → GV → Option (Int32 × GV) :=
  lq_3 (fun k4 => f_X13_readHours_4s fu  k4 ) n
set_option maxHeartbeats 4000000 in
set_option maxRecDepth 100000 in
theorem t_X13_readHours_4s {G : GG} {p : Program} {l : Launch} {e : Env} {s : State} {m : MethodId} {args : Array Value} {below : List Frame} {meth : Method} {c : Code} {S : ST} {fu : Nat} {z : Int32 × GV} {a : Nat} {v0 : GV}  (hM : MC G p s m args c cX13_readHours w_X13_readHours RX13) (hml : c.maxLocals = 4) (hr : meth.sig.returnType = (some .int)) (hlk : meth.locks = false) (hc0 : gC v0 = 12) {k4 : Int32 → Int32 → GV → Option (Int32 × GV)}  (hk4 : ∀ (x1 : Int32) (x2 : Int32) (v : GV), k4 x1 x2 v = some z → gC v = 12 → ∀ (H : Heap) (locs : List Loc), WB G (st S a v) s H locs → ∀ (ls : Array Slot), lv_has ls 4 [(0, .ref a), (1, .int x1), (2, .int x2)] → W p l e RM_X13_readHours s m args below meth c H locs 0 0 (QR G below args s (some (.int z.1)) (st S a v0) (st S a z.2)) (F0 m 4 ls [])) : ∀ (x1 : Int32) (x2 : Int32) (v : GV), f_X13_readHours_4s fu  k4  x1 x2 v = some z → gC v = 12 → ∀ (H : Heap) (locs : List Loc), WB G (st S a v) s H locs → ∀ (ls : Array Slot), lv_has ls 4 [(0, .ref a), (1, .int x1), (2, .int x2)] → W p l e RM_X13_readHours s m args below meth c H locs 0 0 (QR G below args s (some (.int z.1)) (st S a v0) (st S a z.2)) (F0 m 4 ls []) := by
  intro x1 x2 v hf hc H locs hW ls hl
  have hx := hM.1
  have hb := hM.2.1
  refine lv_aload_n hx hb dX13_readHours_4 rfl (lv_at hl 0 rfl) ?_
  refine b_get hM hW 11 8 hc rfl rfl (by decide) wi_X13 (wgm fk_RX13_192) (x := .int (gI v 8)) rfl dX13_readHours_5 ?_
  refine lv_if_ne (tgt := 97) hx hb dX13_readHours_8 (by decide) (fun c1 => ?_) (fun c1 => ?_)
  · have hf := if_f c1 hf
    exact t_X13_readHours_97 (fu := fu) hM hml hr hlk hc0 hf hc _ _ hW _ (lv_sub hl [1] rfl)
  · have hf := if_t c1 hf
    refine lv_iload_n hx hb dX13_readHours_11 rfl (lv_at hl 2 rfl) ?_
    refine lv_if_eq (tgt := 28) hx hb dX13_readHours_12 (by decide) (fun c2 => ?_) (fun c2 => ?_)
    · have hf := if_t c2 hf
      exact t_X13_readHours_28 (fu := fu) hM hml hr hlk hc0 hk4 hf hc _ _ hW _ (lv_sub hl [0, 1, 2] rfl)
    · have hf := if_f c2 hf
      refine lv_aload_n hx hb dX13_readHours_15 rfl (lv_at hl 0 rfl) ?_
      refine b_get hM hW 11 4 hc rfl rfl (by decide) wi_X13 (wgm fk_RX13_24) (x := .ref (a + 2)) rfl dX13_readHours_16 ?_
      refine lv_aload_n hx hb dX13_readHours_19 rfl (lv_at hl 0 rfl) ?_
      refine b_get hM hW 11 7 hc rfl rfl (by decide) wi_X13 (wgm fk_RX13_189) (x := .int (gI v 7)) rfl dX13_readHours_20 ?_
      refine lv_topi (fun y3 ey3 => ?_)
      have hf := nm_at ey3 hf
      obtain ⟨h4, hf⟩ := ck_elim hf
      refine b_iald (n := 1002) hM hW 11 4 hc (by decide) rfl rfl rfl rfl h4 dX13_readHours_23 ?_
      refine lv_iconst (v := (2 : Int32)) hx hb dX13_readHours_24 (by decide) ?_
      refine lv_icmp_ne (tgt := 97) hx hb dX13_readHours_25 (by decide) (fun c5 => ?_) (fun c5 => ?_)
      · have hf := if_f c5 hf
        exact t_X13_readHours_97 (fu := fu) hM hml hr hlk hc0 hf hc _ _ hW _ (lv_sub hl [1] rfl)
      · have hf := if_t c5 hf
        exact t_X13_readHours_28 (fu := fu) hM hml hr hlk hc0 hk4 hf hc _ _ hW _ (lv_sub hl [0, 1, 2] rfl)
theorem t_X13_readHours_4 {G : GG} {p : Program} {l : Launch} {e : Env} {s : State} {m : MethodId} {args : Array Value} {below : List Frame} {meth : Method} {c : Code} {S : ST} {fu : Nat} {z : Int32 × GV} {a : Nat} {v0 : GV}  (hM : MC G p s m args c cX13_readHours w_X13_readHours RX13) (hml : c.maxLocals = 4) (hr : meth.sig.returnType = (some .int)) (hlk : meth.locks = false) (hc0 : gC v0 = 12)  : ∀ {n : Nat} (x1 : Int32) (x2 : Int32) (v : GV), f_X13_readHours_4 fu n   x1 x2 v = some z → gC v = 12 → ∀ (H : Heap) (locs : List Loc), WB G (st S a v) s H locs → ∀ (ls : Array Slot), lv_has ls 4 [(0, .ref a), (1, .int x1), (2, .int x2)] → W p l e RM_X13_readHours s m args below meth c H locs 0 0 (QR G below args s (some (.int z.1)) (st S a v0) (st S a z.2)) (F0 m 4 ls []) := by
  intro n
  induction n with
  | zero => intro x1 x2 v hf; cases hf
  | succ n ih => intro x1 x2 v hf; exact t_X13_readHours_4s (fu := fu) hM hml hr hlk hc0  (k4 := f_X13_readHours_4 fu n  ) ih _ _ _ hf
noncomputable def f_X13_readHours_0 (fu : Nat)  (v : GV) : Option (Int32 × GV) :=
  f_X13_readHours_4 fu fu (0 : Int32) (0 : Int32) v
set_option maxHeartbeats 4000000 in
set_option maxRecDepth 100000 in
theorem t_X13_readHours_0 {G : GG} {p : Program} {l : Launch} {e : Env} {s : State} {m : MethodId} {args : Array Value} {below : List Frame} {meth : Method} {c : Code} {S : ST} {fu : Nat} {z : Int32 × GV} {a : Nat} {v0 : GV}  {v : GV} (hM : MC G p s m args c cX13_readHours w_X13_readHours RX13) (hml : c.maxLocals = 4) (hr : meth.sig.returnType = (some .int)) (hlk : meth.locks = false) (hc0 : gC v0 = 12)  (hf : f_X13_readHours_0 fu  v  = some z) : gC v = 12 → ∀ (H : Heap) (locs : List Loc), WB G (st S a v) s H locs → ∀ (ls : Array Slot), lv_has ls 4 [(0, .ref a)] → W p l e RM_X13_readHours s m args below meth c H locs 0 0 (QR G below args s (some (.int z.1)) (st S a v0) (st S a z.2)) (F0 m 0 ls []) := by
  intro hc H locs hW ls hl
  have hx := hM.1
  have hb := hM.2.1
  refine lv_iconst (v := (0 : Int32)) hx hb dX13_readHours_0 (by decide) ?_
  refine lv_istore_n (lv' := [(1, .int (0 : Int32)), (0, .ref a)]) hx hb dX13_readHours_1 rfl hl (by decide) rfl (fun ls hl => ?_)
  refine lv_iconst (v := (0 : Int32)) hx hb dX13_readHours_2 (by decide) ?_
  refine lv_istore_n (lv' := [(2, .int (0 : Int32)), (1, .int (0 : Int32)), (0, .ref a)]) hx hb dX13_readHours_3 rfl hl (by decide) rfl (fun ls hl => ?_)
  exact t_X13_readHours_4 (fu := fu) hM hml hr hlk hc0 _ _ _ hf hc _ _ hW _ (lv_sub hl [2, 1, 0] rfl)
noncomputable def f_X13_readHours (fu : Nat) (v : GV) : Option (Int32 × GV) := f_X13_readHours_0 fu v
set_option maxHeartbeats 4000000 in
set_option maxRecDepth 100000 in
theorem c_X13_readHours (l : Launch) (G : GG) (fu : Nat) (S : ST) (a : Nat) (v : GV) {z : Int32} {w : GV} (hc : gC v = 12) (hf : f_X13_readHours fu v = some (z, w)) : Ct l yX13_readHours w_X13_readHours RM_X13_readHours G (st S a v) [.ref a] (some (.int z)) (st S a w) 0 0 := by
  refine Met.ofW (cc := cX13_readHours) (maxL := 4) (ret := (some .int)) (by decide) rfl ?_
  intro p e s m args below meth c s₁ B hml hv
  obtain ⟨rfl, hB, hK, hz⟩ := hv
  have hM : MC G p s m _ c cX13_readHours w_X13_readHours RX13 := ⟨B.exec, B.bytes, findClass_of_methodNamed B.named, atoms_spec (ws := w_X13_readHours) B.pre, hK, hz⟩
  have hW : WB G (st S a v) s s.heap [] := ⟨hB, va_S.rf⟩
  have hl := lv_entry ([.ref a]) (n := 4) (Nat.le_of_ble_eq_true rfl)
  rw [lg_entry_eq]
  generalize (lg_sl ([.ref a]) ++ List.replicate (4 - (lg_sl ([.ref a])).length) Slot.unset).toArray = ls at hl ⊢
  have hl : lv_has ls 4 [(0, .ref a)] := hl
  exact t_X13_readHours_0 hM hml B.returns B.notSynchronized hc hf hc _ _ hW _ (lv_sub hl [0] rfl)
abbrev w_X13_readThief : List Cond := Cond.code yX13_readThief cX13_readThief 3 none :: wsL_law0
abbrev RM_X13_readThief : Room := { frames := 4, cells := 0, slots := 0, locals := 87 }
noncomputable def f_X13_readThief_0 (fu : Nat)  (v : GV) : Option (GV) :=
  nm ((gA v 10 (71 : Int32).toNatClampNeg)) fun y1 =>
  if y1 = (5 : Int32) then
    (bd (f_X13_wrong fu v (5 : Int32)) fun v27 =>
    some v27)
  else
    (bd (f_X13_readName fu v ((20 : Int32) + y1)) fun v4 =>
    nm (((76 : Int32) + ((4 : Int32) * y1))) fun y5 =>
    bd2 (f_X13_takeOne fu v4 (18 : Int32) (4 : Int32)) fun r6 v7 =>
    ck (inb y5 140) <|
    nm (sA v7 10 y5.toNatClampNeg r6) fun v9 =>
    bd2 (f_X13_takeAfter fu v9 (2 : Int32) (0 : Int32) (99 : Int32)) fun r10 v11 =>
    ck (inb (y5 + (1 : Int32)) 140) <|
    nm (sA v11 10 (y5 + (1 : Int32)).toNatClampNeg r10) fun v13 =>
    bd2 (f_X13_takeAfter fu v13 (3 : Int32) (0 : Int32) (999 : Int32)) fun r14 v15 =>
    ck (inb (y5 + (2 : Int32)) 140) <|
    nm (sA v15 10 (y5 + (2 : Int32)).toNatClampNeg r14) fun v17 =>
    bd (f_X13_takeWord fu v17 (4 : Int32)) fun v19 =>
    bd2 (f_X13_readHours fu v19) fun r20 v21 =>
    ck (inb (y5 + (3 : Int32)) 140) <|
    nm (sA v21 10 (y5 + (3 : Int32)).toNatClampNeg r20) fun v23 =>
    nm (((gA v23 10 (71 : Int32).toNatClampNeg) + (1 : Int32))) fun y24 =>
    nm (sA v23 10 (71 : Int32).toNatClampNeg y24) fun v25 =>
    some v25)
set_option maxHeartbeats 4000000 in
set_option maxRecDepth 100000 in
theorem t_X13_readThief_0 {G : GG} {p : Program} {l : Launch} {e : Env} {s : State} {m : MethodId} {args : Array Value} {below : List Frame} {meth : Method} {c : Code} {S : ST} {fu : Nat} {z : GV} {a : Nat} {v0 : GV}  {v : GV} (hM : MC G p s m args c cX13_readThief w_X13_readThief RX13) (hml : c.maxLocals = 3) (hr : meth.sig.returnType = none) (hlk : meth.locks = false) (hc0 : gC v0 = 12)  (hf : f_X13_readThief_0 fu  v  = some z) : gC v = 12 → ∀ (H : Heap) (locs : List Loc), WB G (st S a v) s H locs → ∀ (ls : Array Slot), lv_has ls 3 [(0, .ref a)] → W p l e RM_X13_readThief s m args below meth c H locs 0 0 (QR G below args s none (st S a v0) (st S a z)) (F0 m 0 ls []) := by
  intro hc H locs hW ls hl
  have hx := hM.1
  have hb := hM.2.1
  refine lv_aload_n hx hb dX13_readThief_0 rfl (lv_at hl 0 rfl) ?_
  refine b_get hM hW 11 10 hc rfl rfl (by decide) wi_X13 (wgm fk_RX13_95) (x := .ref (a + 6)) rfl dX13_readThief_1 ?_
  refine lv_bipush (v := (71 : Int32)) hx hb dX13_readThief_4 (by decide) ?_
  refine b_iald (n := 140) hM hW 11 10 hc (by decide) rfl rfl rfl rfl (by decide) dX13_readThief_6 ?_
  refine lv_topi (fun y1 ey1 => ?_)
  have hf := nm_at ey1 hf
  refine lv_istore_n (lv' := [(1, .int y1), (0, .ref a)]) hx hb dX13_readThief_7 rfl hl (by decide) rfl (fun ls hl => ?_)
  refine lv_iload_n hx hb dX13_readThief_8 rfl (lv_at hl 0 rfl) ?_
  refine lv_iconst (v := (5 : Int32)) hx hb dX13_readThief_9 (by decide) ?_
  refine lv_icmp_ne (tgt := 19) hx hb dX13_readThief_10 (by decide) (fun c2 => ?_) (fun c2 => ?_)
  · have hf := if_f c2 hf
    refine lv_aload_n hx hb dX13_readThief_19 rfl (lv_at hl 1 rfl) ?_
    refine lv_bipush (v := (20 : Int32)) hx hb dX13_readThief_20 (by decide) ?_
    refine lv_iload_n hx hb dX13_readThief_22 rfl (lv_at hl 0 rfl) ?_
    refine lv_iadd hx hb dX13_readThief_23 ?_
    obtain ⟨v4, hr3, hf⟩ := bd_elim hf
    refine b_callVv [.int ((20 : Int32) + y1)] [] hM hml hl.1 hW hc rfl (by decide) (c_X13_readName l G fu _ a v _ hc hr3) (cwV 1 hM.2.2.2.1 (gV mk_RX13_266 im_X13_readName se_X13_readName it_RX13 cd_X13_readName) rfl rfl rfl (by decide +kernel) ⟨Nat.le_of_ble_eq_true rfl, Nat.le_of_ble_eq_true rfl⟩) rfl rfl (Nat.le_of_ble_eq_true rfl) ⟨Nat.zero_le _, Nat.zero_le _⟩ dX13_readThief_24 (fun H locs hW hk => ?_)
    have hc := keep_at hc hk
    refine lv_bipush (v := (76 : Int32)) hx hb dX13_readThief_27 (by decide) ?_
    refine lv_iconst (v := (4 : Int32)) hx hb dX13_readThief_29 (by decide) ?_
    refine lv_iload_n hx hb dX13_readThief_30 rfl (lv_at hl 0 rfl) ?_
    refine lv_imul hx hb dX13_readThief_31 ?_
    refine lv_iadd hx hb dX13_readThief_32 ?_
    refine lv_topi (fun y5 ey5 => ?_)
    have hf := nm_at ey5 hf
    refine lv_istore_n (lv' := [(2, .int y5), (1, .int y1), (0, .ref a)]) hx hb dX13_readThief_33 rfl hl (by decide) rfl (fun ls hl => ?_)
    refine lv_aload_n hx hb dX13_readThief_34 rfl (lv_at hl 2 rfl) ?_
    refine b_get hM hW 11 10 hc rfl rfl (by decide) wi_X13 (wgm fk_RX13_95) (x := .ref (a + 6)) rfl dX13_readThief_35 ?_
    refine lv_iload_n hx hb dX13_readThief_38 rfl (lv_at hl 0 rfl) ?_
    refine lv_aload_n hx hb dX13_readThief_39 rfl (lv_at hl 2 rfl) ?_
    refine lv_bipush (v := (18 : Int32)) hx hb dX13_readThief_40 (by decide) ?_
    refine lv_iconst (v := (4 : Int32)) hx hb dX13_readThief_42 (by decide) ?_
    obtain ⟨r6, v7, hr6, hf⟩ := bd2_elim hf
    refine b_callVi [.int (18 : Int32), .int (4 : Int32)] [.int y5, .ref (a + 6)] hM hml hl.1 hW hc rfl (by decide) (c_X13_takeOne l G fu _ a v4 _ _ hc hr6) (cwV 2 hM.2.2.2.1 (gV mk_RX13_269 im_X13_takeOne se_X13_takeOne it_RX13 cd_X13_takeOne) rfl rfl rfl (by decide +kernel) ⟨Nat.le_of_ble_eq_true rfl, Nat.le_of_ble_eq_true rfl⟩) rfl rfl (Nat.le_of_ble_eq_true rfl) ⟨Nat.zero_le _, Nat.zero_le _⟩ dX13_readThief_43 (fun H locs hW hk => ?_)
    have hc := keep_at hc hk
    obtain ⟨h8, hf⟩ := ck_elim hf
    refine b_iast (n := 140) hM hW 11 10 hc (by decide) rfl rfl rfl rfl h8 dX13_readThief_46 (fun v9 ev9 hc H locs hW => ?_)
    have hf := nm_at ev9 hf
    refine lv_aload_n hx hb dX13_readThief_47 rfl (lv_at hl 2 rfl) ?_
    refine b_get hM hW 11 10 hc rfl rfl (by decide) wi_X13 (wgm fk_RX13_95) (x := .ref (a + 6)) rfl dX13_readThief_48 ?_
    refine lv_iload_n hx hb dX13_readThief_51 rfl (lv_at hl 0 rfl) ?_
    refine lv_iconst (v := (1 : Int32)) hx hb dX13_readThief_52 (by decide) ?_
    refine lv_iadd hx hb dX13_readThief_53 ?_
    refine lv_aload_n hx hb dX13_readThief_54 rfl (lv_at hl 2 rfl) ?_
    refine lv_iconst (v := (2 : Int32)) hx hb dX13_readThief_55 (by decide) ?_
    refine lv_iconst (v := (0 : Int32)) hx hb dX13_readThief_56 (by decide) ?_
    refine lv_bipush (v := (99 : Int32)) hx hb dX13_readThief_57 (by decide) ?_
    obtain ⟨r10, v11, hr10, hf⟩ := bd2_elim hf
    refine b_callVi [.int (2 : Int32), .int (0 : Int32), .int (99 : Int32)] [.int (y5 + (1 : Int32)), .ref (a + 6)] hM hml hl.1 hW hc rfl (by decide) (c_X13_takeAfter l G fu _ a v9 _ _ _ hc hr10) (cwV 3 hM.2.2.2.1 (gV mk_RX13_272 im_X13_takeAfter se_X13_takeAfter it_RX13 cd_X13_takeAfter) rfl rfl rfl (by decide +kernel) ⟨Nat.le_of_ble_eq_true rfl, Nat.le_of_ble_eq_true rfl⟩) rfl rfl (Nat.le_of_ble_eq_true rfl) ⟨Nat.zero_le _, Nat.zero_le _⟩ dX13_readThief_59 (fun H locs hW hk => ?_)
    have hc := keep_at hc hk
    obtain ⟨h12, hf⟩ := ck_elim hf
    refine b_iast (n := 140) hM hW 11 10 hc (by decide) rfl rfl rfl rfl h12 dX13_readThief_62 (fun v13 ev13 hc H locs hW => ?_)
    have hf := nm_at ev13 hf
    refine lv_aload_n hx hb dX13_readThief_63 rfl (lv_at hl 2 rfl) ?_
    refine b_get hM hW 11 10 hc rfl rfl (by decide) wi_X13 (wgm fk_RX13_95) (x := .ref (a + 6)) rfl dX13_readThief_64 ?_
    refine lv_iload_n hx hb dX13_readThief_67 rfl (lv_at hl 0 rfl) ?_
    refine lv_iconst (v := (2 : Int32)) hx hb dX13_readThief_68 (by decide) ?_
    refine lv_iadd hx hb dX13_readThief_69 ?_
    refine lv_aload_n hx hb dX13_readThief_70 rfl (lv_at hl 2 rfl) ?_
    refine lv_iconst (v := (3 : Int32)) hx hb dX13_readThief_71 (by decide) ?_
    refine lv_iconst (v := (0 : Int32)) hx hb dX13_readThief_72 (by decide) ?_
    refine lv_sipush (v := (999 : Int32)) hx hb dX13_readThief_73 (by decide) ?_
    obtain ⟨r14, v15, hr14, hf⟩ := bd2_elim hf
    refine b_callVi [.int (3 : Int32), .int (0 : Int32), .int (999 : Int32)] [.int (y5 + (2 : Int32)), .ref (a + 6)] hM hml hl.1 hW hc rfl (by decide) (c_X13_takeAfter l G fu _ a v13 _ _ _ hc hr14) (cwV 3 hM.2.2.2.1 (gV mk_RX13_272 im_X13_takeAfter se_X13_takeAfter it_RX13 cd_X13_takeAfter) rfl rfl rfl (by decide +kernel) ⟨Nat.le_of_ble_eq_true rfl, Nat.le_of_ble_eq_true rfl⟩) rfl rfl (Nat.le_of_ble_eq_true rfl) ⟨Nat.zero_le _, Nat.zero_le _⟩ dX13_readThief_76 (fun H locs hW hk => ?_)
    have hc := keep_at hc hk
    obtain ⟨h16, hf⟩ := ck_elim hf
    refine b_iast (n := 140) hM hW 11 10 hc (by decide) rfl rfl rfl rfl h16 dX13_readThief_79 (fun v17 ev17 hc H locs hW => ?_)
    have hf := nm_at ev17 hf
    refine lv_aload_n hx hb dX13_readThief_80 rfl (lv_at hl 2 rfl) ?_
    refine lv_iconst (v := (4 : Int32)) hx hb dX13_readThief_81 (by decide) ?_
    obtain ⟨v19, hr18, hf⟩ := bd_elim hf
    refine b_callVv [.int (4 : Int32)] [] hM hml hl.1 hW hc rfl (by decide) (c_X13_takeWord l G fu _ a v17 _ hc hr18) (cwV 1 hM.2.2.2.1 (gV mk_RX13_207 im_X13_takeWord se_X13_takeWord it_RX13 cd_X13_takeWord) rfl rfl rfl (by decide +kernel) ⟨Nat.le_of_ble_eq_true rfl, Nat.le_of_ble_eq_true rfl⟩) rfl rfl (Nat.le_of_ble_eq_true rfl) ⟨Nat.zero_le _, Nat.zero_le _⟩ dX13_readThief_82 (fun H locs hW hk => ?_)
    have hc := keep_at hc hk
    refine lv_aload_n hx hb dX13_readThief_85 rfl (lv_at hl 2 rfl) ?_
    refine b_get hM hW 11 10 hc rfl rfl (by decide) wi_X13 (wgm fk_RX13_95) (x := .ref (a + 6)) rfl dX13_readThief_86 ?_
    refine lv_iload_n hx hb dX13_readThief_89 rfl (lv_at hl 0 rfl) ?_
    refine lv_iconst (v := (3 : Int32)) hx hb dX13_readThief_90 (by decide) ?_
    refine lv_iadd hx hb dX13_readThief_91 ?_
    refine lv_aload_n hx hb dX13_readThief_92 rfl (lv_at hl 2 rfl) ?_
    obtain ⟨r20, v21, hr20, hf⟩ := bd2_elim hf
    refine b_callVi [] [.int (y5 + (3 : Int32)), .ref (a + 6)] hM hml hl.1 hW hc rfl (by decide) (c_X13_readHours l G fu _ a v19 hc hr20) (cwV 0 hM.2.2.2.1 (gV mk_RX13_276 im_X13_readHours se_X13_readHours it_RX13 cd_X13_readHours) rfl rfl rfl (by decide +kernel) ⟨Nat.le_of_ble_eq_true rfl, Nat.le_of_ble_eq_true rfl⟩) rfl rfl (Nat.le_of_ble_eq_true rfl) ⟨Nat.zero_le _, Nat.zero_le _⟩ dX13_readThief_93 (fun H locs hW hk => ?_)
    have hc := keep_at hc hk
    obtain ⟨h22, hf⟩ := ck_elim hf
    refine b_iast (n := 140) hM hW 11 10 hc (by decide) rfl rfl rfl rfl h22 dX13_readThief_96 (fun v23 ev23 hc H locs hW => ?_)
    have hf := nm_at ev23 hf
    refine lv_aload_n hx hb dX13_readThief_97 rfl (lv_at hl 2 rfl) ?_
    refine b_get hM hW 11 10 hc rfl rfl (by decide) wi_X13 (wgm fk_RX13_95) (x := .ref (a + 6)) rfl dX13_readThief_98 ?_
    refine lv_bipush (v := (71 : Int32)) hx hb dX13_readThief_101 (by decide) ?_
    refine lv_dup2_11 hx hb dX13_readThief_103 rfl rfl ?_
    refine b_iald (n := 140) hM hW 11 10 hc (by decide) rfl rfl rfl rfl (by decide) dX13_readThief_104 ?_
    refine lv_iconst (v := (1 : Int32)) hx hb dX13_readThief_105 (by decide) ?_
    refine lv_iadd hx hb dX13_readThief_106 ?_
    refine lv_topi (fun y24 ey24 => ?_)
    have hf := nm_at ey24 hf
    refine b_iast (n := 140) hM hW 11 10 hc (by decide) rfl rfl rfl rfl (by decide) dX13_readThief_107 (fun v25 ev25 hc H locs hW => ?_)
    have hf := nm_at ev25 hf
    cases hf
    exact W.vret hx hb hr (b_ret0 hW (keep_s2 hc0 hc) _) hW.2.2.2 dX13_readThief_108 hlk
  · have hf := if_t c2 hf
    refine lv_aload_n hx hb dX13_readThief_13 rfl (lv_at hl 1 rfl) ?_
    refine lv_iconst (v := (5 : Int32)) hx hb dX13_readThief_14 (by decide) ?_
    obtain ⟨v27, hr26, hf⟩ := bd_elim hf
    refine b_callVv [.int (5 : Int32)] [] hM hml hl.1 hW hc rfl (by decide) (c_X13_wrong l G fu _ a v _ hc hr26) (cwV 1 hM.2.2.2.1 (gV mk_RX13_198 im_X13_wrong se_X13_wrong it_RX13 cd_X13_wrong) rfl rfl rfl (by decide +kernel) ⟨Nat.le_of_ble_eq_true rfl, Nat.le_of_ble_eq_true rfl⟩) rfl rfl (Nat.le_of_ble_eq_true rfl) ⟨Nat.zero_le _, Nat.zero_le _⟩ dX13_readThief_15 (fun H locs hW hk => ?_)
    have hc := keep_at hc hk
    cases hf
    exact W.vret hx hb hr (b_ret0 hW (keep_s2 hc0 hc) _) hW.2.2.2 dX13_readThief_18 hlk
noncomputable def f_X13_readThief (fu : Nat) (v : GV) : Option (GV) := f_X13_readThief_0 fu v
set_option maxHeartbeats 4000000 in
set_option maxRecDepth 100000 in
theorem c_X13_readThief (l : Launch) (G : GG) (fu : Nat) (S : ST) (a : Nat) (v : GV) {z : GV} (hc : gC v = 12) (hf : f_X13_readThief fu v = some z) : Ct l yX13_readThief w_X13_readThief RM_X13_readThief G (st S a v) [.ref a] none (st S a z) 0 0 := by
  refine Met.ofW (cc := cX13_readThief) (maxL := 3) (ret := none) (by decide) rfl ?_
  intro p e s m args below meth c s₁ B hml hv
  obtain ⟨rfl, hB, hK, hz⟩ := hv
  have hM : MC G p s m _ c cX13_readThief w_X13_readThief RX13 := ⟨B.exec, B.bytes, findClass_of_methodNamed B.named, atoms_spec (ws := w_X13_readThief) B.pre, hK, hz⟩
  have hW : WB G (st S a v) s s.heap [] := ⟨hB, va_S.rf⟩
  have hl := lv_entry ([.ref a]) (n := 3) (Nat.le_of_ble_eq_true rfl)
  rw [lg_entry_eq]
  generalize (lg_sl ([.ref a]) ++ List.replicate (3 - (lg_sl ([.ref a])).length) Slot.unset).toArray = ls at hl ⊢
  have hl : lv_has ls 3 [(0, .ref a)] := hl
  exact t_X13_readThief_0 hM hml B.returns B.notSynchronized hc hf hc _ _ hW _ (lv_sub hl [0] rfl)
abbrev w_X13_readSpots : List Cond := Cond.code yX13_readSpots cX13_readSpots 5 (some .int) :: wsL_law0
abbrev RM_X13_readSpots : Room := { frames := 4, cells := 0, slots := 0, locals := 88 }
noncomputable def f_X13_readSpots_105 (fu : Nat)  (v : GV) (x2 : Int32) : Option (Int32 × GV) :=
  some (x2, v)
set_option maxHeartbeats 4000000 in
set_option maxRecDepth 100000 in
theorem t_X13_readSpots_105 {G : GG} {p : Program} {l : Launch} {e : Env} {s : State} {m : MethodId} {args : Array Value} {below : List Frame} {meth : Method} {c : Code} {S : ST} {fu : Nat} {z : Int32 × GV} {a : Nat} {v0 : GV}  {v : GV} {x2 : Int32} (hM : MC G p s m args c cX13_readSpots w_X13_readSpots RX13) (hml : c.maxLocals = 5) (hr : meth.sig.returnType = (some .int)) (hlk : meth.locks = false) (hc0 : gC v0 = 12)  (hf : f_X13_readSpots_105 fu  v x2 = some z) : gC v = 12 → ∀ (H : Heap) (locs : List Loc), WB G (st S a v) s H locs → ∀ (ls : Array Slot), lv_has ls 5 [(2, .int x2)] → W p l e RM_X13_readSpots s m args below meth c H locs 0 0 (QR G below args s (some (.int z.1)) (st S a v0) (st S a z.2)) (F0 m 105 ls []) := by
  intro hc H locs hW ls hl
  have hx := hM.1
  have hb := hM.2.1
  refine lv_iload_n hx hb dX13_readSpots_105 rfl (lv_at hl 0 rfl) ?_
  cases hf
  exact W.iret hx hb hr (b_ret0 hW (keep_s2 hc0 hc) _) hW.2.2.2 dX13_readSpots_106 hlk
noncomputable def f_X13_readSpots_88 (fu : Nat) (k4 : Int32 → Int32 → GV → Option (Int32 × GV)) (v : GV) (x1 : Int32) (x2 : Int32) (x3 : Int32) (x4 : Int32) (t1 : Int32) (t2 : Int32) : Option (Int32 × GV) :=
  nm (sI v 7 (t1 + t2)) fun v1 =>
  nm ((x2 ||| ((1 : Int32) <<< (x4 &&& 31)))) fun y2 =>
  nm (x3 + (1 : Int32)) fun y3 =>
  k4 y2 y3 v1
set_option maxHeartbeats 4000000 in
set_option maxRecDepth 100000 in
theorem t_X13_readSpots_88 {G : GG} {p : Program} {l : Launch} {e : Env} {s : State} {m : MethodId} {args : Array Value} {below : List Frame} {meth : Method} {c : Code} {S : ST} {fu : Nat} {z : Int32 × GV} {a : Nat} {v0 : GV} {k4 : Int32 → Int32 → GV → Option (Int32 × GV)} {v : GV} {x1 : Int32} {x2 : Int32} {x3 : Int32} {x4 : Int32} {t1 : Int32} {t2 : Int32} (hM : MC G p s m args c cX13_readSpots w_X13_readSpots RX13) (hml : c.maxLocals = 5) (hr : meth.sig.returnType = (some .int)) (hlk : meth.locks = false) (hc0 : gC v0 = 12) (hk4 : ∀ (x2 : Int32) (x3 : Int32) (v : GV), k4 x2 x3 v = some z → gC v = 12 → ∀ (H : Heap) (locs : List Loc), WB G (st S a v) s H locs → ∀ (ls : Array Slot), lv_has ls 5 [(0, .ref a), (1, .int x1), (2, .int x2), (3, .int x3)] → W p l e RM_X13_readSpots s m args below meth c H locs 0 0 (QR G below args s (some (.int z.1)) (st S a v0) (st S a z.2)) (F0 m 4 ls [])) (hf : f_X13_readSpots_88 fu k4 v x1 x2 x3 x4 t1 t2 = some z) : gC v = 12 → ∀ (H : Heap) (locs : List Loc), WB G (st S a v) s H locs → ∀ (ls : Array Slot), lv_has ls 5 [(0, .ref a), (1, .int x1), (2, .int x2), (3, .int x3), (4, .int x4)] → W p l e RM_X13_readSpots s m args below meth c H locs 0 0 (QR G below args s (some (.int z.1)) (st S a v0) (st S a z.2)) (F0 m 88 ls [.int t2, .int t1, .ref a]) := by
  intro hc H locs hW ls hl
  have hx := hM.1
  have hb := hM.2.1
  refine lv_iadd hx hb dX13_readSpots_88 ?_
  refine b_putI hM hW 11 7 hc rfl rfl (by decide) wi_X13 tyX13 tyX13_ok nmX13 (wgm fk_RX13_189) rfl rfl rfl dX13_readSpots_89 (fun v1 ev1 hc H locs hW => ?_)
  have hf := nm_at ev1 hf
  refine lv_iload_n hx hb dX13_readSpots_92 rfl (lv_at hl 2 rfl) ?_
  refine lv_iconst (v := (1 : Int32)) hx hb dX13_readSpots_93 (by decide) ?_
  refine lv_iload hx hb dX13_readSpots_94 (lv_at hl 4 rfl) ?_
  refine lv_ishl hx hb dX13_readSpots_96 ?_
  refine lv_ior hx hb dX13_readSpots_97 ?_
  refine lv_topi (fun y2 ey2 => ?_)
  have hf := nm_at ey2 hf
  refine lv_istore_n (lv' := [(2, .int y2), (0, .ref a), (1, .int x1), (3, .int x3), (4, .int x4)]) hx hb dX13_readSpots_98 rfl hl (by decide) rfl (fun ls hl => ?_)
  obtain ⟨y3, ey3⟩ : ∃ y : Int32, y = x3 + (1 : Int32) := ⟨_, rfl⟩
  have hf := nm_at ey3 hf
  refine lv_iinc (v := y3) (lv' := [(3, .int y3), (2, .int y2), (0, .ref a), (1, .int x1), (4, .int x4)]) hx hb dX13_readSpots_99 hl (k := 3) rfl (by rw [ey3]; rfl) (by decide) rfl (fun ls hl => ?_)
  refine lv_goto (tgt := 4) hx hb dX13_readSpots_102 (by decide) ?_
  exact hk4 _ _ _ hf hc _ _ hW _ (lv_sub hl [2, 3, 1, 0] rfl)
noncomputable def f_X13_readSpots_71 (fu : Nat) (k4 : Int32 → Int32 → GV → Option (Int32 × GV)) (v : GV) (x1 : Int32) (x2 : Int32) (x3 : Int32) (x4 : Int32) : Option (Int32 × GV) :=
  if (gI v 8) ≤ 0 then
    (f_X13_readSpots_88 fu k4 v x1 x2 x3 x4 (gI v 7) (1 : Int32))
  else
    (f_X13_readSpots_88 fu k4 v x1 x2 x3 x4 (gI v 7) (0 : Int32))
set_option maxHeartbeats 4000000 in
set_option maxRecDepth 100000 in
theorem t_X13_readSpots_71 {G : GG} {p : Program} {l : Launch} {e : Env} {s : State} {m : MethodId} {args : Array Value} {below : List Frame} {meth : Method} {c : Code} {S : ST} {fu : Nat} {z : Int32 × GV} {a : Nat} {v0 : GV} {k4 : Int32 → Int32 → GV → Option (Int32 × GV)} {v : GV} {x1 : Int32} {x2 : Int32} {x3 : Int32} {x4 : Int32} (hM : MC G p s m args c cX13_readSpots w_X13_readSpots RX13) (hml : c.maxLocals = 5) (hr : meth.sig.returnType = (some .int)) (hlk : meth.locks = false) (hc0 : gC v0 = 12) (hk4 : ∀ (x2 : Int32) (x3 : Int32) (v : GV), k4 x2 x3 v = some z → gC v = 12 → ∀ (H : Heap) (locs : List Loc), WB G (st S a v) s H locs → ∀ (ls : Array Slot), lv_has ls 5 [(0, .ref a), (1, .int x1), (2, .int x2), (3, .int x3)] → W p l e RM_X13_readSpots s m args below meth c H locs 0 0 (QR G below args s (some (.int z.1)) (st S a v0) (st S a z.2)) (F0 m 4 ls [])) (hf : f_X13_readSpots_71 fu k4 v x1 x2 x3 x4 = some z) : gC v = 12 → ∀ (H : Heap) (locs : List Loc), WB G (st S a v) s H locs → ∀ (ls : Array Slot), lv_has ls 5 [(0, .ref a), (1, .int x1), (2, .int x2), (3, .int x3), (4, .int x4)] → W p l e RM_X13_readSpots s m args below meth c H locs 0 0 (QR G below args s (some (.int z.1)) (st S a v0) (st S a z.2)) (F0 m 71 ls []) := by
  intro hc H locs hW ls hl
  have hx := hM.1
  have hb := hM.2.1
  refine lv_aload_n hx hb dX13_readSpots_71 rfl (lv_at hl 0 rfl) ?_
  refine lv_dup hx hb dX13_readSpots_72 rfl ?_
  refine b_get hM hW 11 7 hc rfl rfl (by decide) wi_X13 (wgm fk_RX13_189) (x := .int (gI v 7)) rfl dX13_readSpots_73 ?_
  refine lv_aload_n hx hb dX13_readSpots_76 rfl (lv_at hl 0 rfl) ?_
  refine b_get hM hW 11 8 hc rfl rfl (by decide) wi_X13 (wgm fk_RX13_192) (x := .int (gI v 8)) rfl dX13_readSpots_77 ?_
  refine lv_if_le (tgt := 87) hx hb dX13_readSpots_80 (by decide) (fun c1 => ?_) (fun c1 => ?_)
  · have hf := if_t c1 hf
    refine lv_iconst (v := (1 : Int32)) hx hb dX13_readSpots_87 (by decide) ?_
    exact t_X13_readSpots_88 (fu := fu) hM hml hr hlk hc0 hk4 hf hc _ _ hW _ (lv_sub hl [0, 1, 2, 3, 4] rfl)
  · have hf := if_f c1 hf
    refine lv_iconst (v := (0 : Int32)) hx hb dX13_readSpots_83 (by decide) ?_
    refine lv_goto (tgt := 88) hx hb dX13_readSpots_84 (by decide) ?_
    exact t_X13_readSpots_88 (fu := fu) hM hml hr hlk hc0 hk4 hf hc _ _ hW _ (lv_sub hl [0, 1, 2, 3, 4] rfl)
noncomputable def f_X13_readSpots_68 (fu : Nat) (k4 : Int32 → Int32 → GV → Option (Int32 × GV)) (v : GV) (x1 : Int32) (x2 : Int32) (x3 : Int32) (x4 : Int32) (t1 : Int32) : Option (Int32 × GV) :=
  bd (f_X13_wrong fu v t1) fun v2 =>
  f_X13_readSpots_71 fu k4 v2 x1 x2 x3 x4
set_option maxHeartbeats 4000000 in
set_option maxRecDepth 100000 in
theorem t_X13_readSpots_68 {G : GG} {p : Program} {l : Launch} {e : Env} {s : State} {m : MethodId} {args : Array Value} {below : List Frame} {meth : Method} {c : Code} {S : ST} {fu : Nat} {z : Int32 × GV} {a : Nat} {v0 : GV} {k4 : Int32 → Int32 → GV → Option (Int32 × GV)} {v : GV} {x1 : Int32} {x2 : Int32} {x3 : Int32} {x4 : Int32} {t1 : Int32} (hM : MC G p s m args c cX13_readSpots w_X13_readSpots RX13) (hml : c.maxLocals = 5) (hr : meth.sig.returnType = (some .int)) (hlk : meth.locks = false) (hc0 : gC v0 = 12) (hk4 : ∀ (x2 : Int32) (x3 : Int32) (v : GV), k4 x2 x3 v = some z → gC v = 12 → ∀ (H : Heap) (locs : List Loc), WB G (st S a v) s H locs → ∀ (ls : Array Slot), lv_has ls 5 [(0, .ref a), (1, .int x1), (2, .int x2), (3, .int x3)] → W p l e RM_X13_readSpots s m args below meth c H locs 0 0 (QR G below args s (some (.int z.1)) (st S a v0) (st S a z.2)) (F0 m 4 ls [])) (hf : f_X13_readSpots_68 fu k4 v x1 x2 x3 x4 t1 = some z) : gC v = 12 → ∀ (H : Heap) (locs : List Loc), WB G (st S a v) s H locs → ∀ (ls : Array Slot), lv_has ls 5 [(0, .ref a), (1, .int x1), (2, .int x2), (3, .int x3), (4, .int x4)] → W p l e RM_X13_readSpots s m args below meth c H locs 0 0 (QR G below args s (some (.int z.1)) (st S a v0) (st S a z.2)) (F0 m 68 ls [.int t1, .ref a]) := by
  intro hc H locs hW ls hl
  have hx := hM.1
  have hb := hM.2.1
  obtain ⟨v2, hr1, hf⟩ := bd_elim hf
  refine b_callVv [.int t1] [] hM hml hl.1 hW hc rfl (by decide) (c_X13_wrong l G fu _ a v _ hc hr1) (cwV 1 hM.2.2.2.1 (gV mk_RX13_198 im_X13_wrong se_X13_wrong it_RX13 cd_X13_wrong) rfl rfl rfl (by decide +kernel) ⟨Nat.le_of_ble_eq_true rfl, Nat.le_of_ble_eq_true rfl⟩) rfl rfl (Nat.le_of_ble_eq_true rfl) ⟨Nat.zero_le _, Nat.zero_le _⟩ dX13_readSpots_68 (fun H locs hW hk => ?_)
  have hc := keep_at hc hk
  exact t_X13_readSpots_71 (fu := fu) hM hml hr hlk hc0 hk4 hf hc _ _ hW _ (lv_sub hl [0, 1, 2, 3, 4] rfl)
noncomputable def f_X13_readSpots_52 (fu : Nat) (k4 : Int32 → Int32 → GV → Option (Int32 × GV)) (v : GV) (x1 : Int32) (x2 : Int32) (x3 : Int32) (x4 : Int32) : Option (Int32 × GV) :=
  if ((x2 >>> (x4 &&& 31)) &&& (1 : Int32)) = (1 : Int32) then
    (f_X13_readSpots_68 fu k4 v x1 x2 x3 x4 (3 : Int32))
  else
    (f_X13_readSpots_68 fu k4 v x1 x2 x3 x4 (5 : Int32))
set_option maxHeartbeats 4000000 in
set_option maxRecDepth 100000 in
theorem t_X13_readSpots_52 {G : GG} {p : Program} {l : Launch} {e : Env} {s : State} {m : MethodId} {args : Array Value} {below : List Frame} {meth : Method} {c : Code} {S : ST} {fu : Nat} {z : Int32 × GV} {a : Nat} {v0 : GV} {k4 : Int32 → Int32 → GV → Option (Int32 × GV)} {v : GV} {x1 : Int32} {x2 : Int32} {x3 : Int32} {x4 : Int32} (hM : MC G p s m args c cX13_readSpots w_X13_readSpots RX13) (hml : c.maxLocals = 5) (hr : meth.sig.returnType = (some .int)) (hlk : meth.locks = false) (hc0 : gC v0 = 12) (hk4 : ∀ (x2 : Int32) (x3 : Int32) (v : GV), k4 x2 x3 v = some z → gC v = 12 → ∀ (H : Heap) (locs : List Loc), WB G (st S a v) s H locs → ∀ (ls : Array Slot), lv_has ls 5 [(0, .ref a), (1, .int x1), (2, .int x2), (3, .int x3)] → W p l e RM_X13_readSpots s m args below meth c H locs 0 0 (QR G below args s (some (.int z.1)) (st S a v0) (st S a z.2)) (F0 m 4 ls [])) (hf : f_X13_readSpots_52 fu k4 v x1 x2 x3 x4 = some z) : gC v = 12 → ∀ (H : Heap) (locs : List Loc), WB G (st S a v) s H locs → ∀ (ls : Array Slot), lv_has ls 5 [(0, .ref a), (1, .int x1), (2, .int x2), (3, .int x3), (4, .int x4)] → W p l e RM_X13_readSpots s m args below meth c H locs 0 0 (QR G below args s (some (.int z.1)) (st S a v0) (st S a z.2)) (F0 m 52 ls []) := by
  intro hc H locs hW ls hl
  have hx := hM.1
  have hb := hM.2.1
  refine lv_aload_n hx hb dX13_readSpots_52 rfl (lv_at hl 0 rfl) ?_
  refine lv_iload_n hx hb dX13_readSpots_53 rfl (lv_at hl 2 rfl) ?_
  refine lv_iload hx hb dX13_readSpots_54 (lv_at hl 4 rfl) ?_
  refine lv_ishr hx hb dX13_readSpots_56 ?_
  refine lv_iconst (v := (1 : Int32)) hx hb dX13_readSpots_57 (by decide) ?_
  refine lv_iand hx hb dX13_readSpots_58 ?_
  refine lv_iconst (v := (1 : Int32)) hx hb dX13_readSpots_59 (by decide) ?_
  refine lv_icmp_ne (tgt := 67) hx hb dX13_readSpots_60 (by decide) (fun c1 => ?_) (fun c1 => ?_)
  · have hf := if_f c1 hf
    refine lv_iconst (v := (5 : Int32)) hx hb dX13_readSpots_67 (by decide) ?_
    exact t_X13_readSpots_68 (fu := fu) hM hml hr hlk hc0 hk4 hf hc _ _ hW _ (lv_sub hl [0, 1, 2, 3, 4] rfl)
  · have hf := if_t c1 hf
    refine lv_iconst (v := (3 : Int32)) hx hb dX13_readSpots_63 (by decide) ?_
    refine lv_goto (tgt := 68) hx hb dX13_readSpots_64 (by decide) ?_
    exact t_X13_readSpots_68 (fu := fu) hM hml hr hlk hc0 hk4 hf hc _ _ hW _ (lv_sub hl [0, 1, 2, 3, 4] rfl)
noncomputable def f_X13_readSpots_22 (fu : Nat) (k4 : Int32 → Int32 → GV → Option (Int32 × GV)) (v : GV) (x1 : Int32) (x2 : Int32) (x3 : Int32) : Option (Int32 × GV) :=
  bd2 (f_X13_toldHere fu v (1 : Int32) (0 : Int32)) fun r1 v2 =>
  if (gI v2 8) = 0 then
    (if ((x2 >>> (r1 &&& 31)) &&& (1 : Int32)) = (1 : Int32) then
      (f_X13_readSpots_52 fu k4 v2 x1 x2 x3 r1)
    else
      (if x3 = x1 then
        (f_X13_readSpots_52 fu k4 v2 x1 x2 x3 r1)
      else
        (f_X13_readSpots_71 fu k4 v2 x1 x2 x3 r1)))
  else
    (f_X13_readSpots_71 fu k4 v2 x1 x2 x3 r1)
set_option maxHeartbeats 4000000 in
set_option maxRecDepth 100000 in
theorem t_X13_readSpots_22 {G : GG} {p : Program} {l : Launch} {e : Env} {s : State} {m : MethodId} {args : Array Value} {below : List Frame} {meth : Method} {c : Code} {S : ST} {fu : Nat} {z : Int32 × GV} {a : Nat} {v0 : GV} {k4 : Int32 → Int32 → GV → Option (Int32 × GV)} {v : GV} {x1 : Int32} {x2 : Int32} {x3 : Int32} (hM : MC G p s m args c cX13_readSpots w_X13_readSpots RX13) (hml : c.maxLocals = 5) (hr : meth.sig.returnType = (some .int)) (hlk : meth.locks = false) (hc0 : gC v0 = 12) (hk4 : ∀ (x2 : Int32) (x3 : Int32) (v : GV), k4 x2 x3 v = some z → gC v = 12 → ∀ (H : Heap) (locs : List Loc), WB G (st S a v) s H locs → ∀ (ls : Array Slot), lv_has ls 5 [(0, .ref a), (1, .int x1), (2, .int x2), (3, .int x3)] → W p l e RM_X13_readSpots s m args below meth c H locs 0 0 (QR G below args s (some (.int z.1)) (st S a v0) (st S a z.2)) (F0 m 4 ls [])) (hf : f_X13_readSpots_22 fu k4 v x1 x2 x3 = some z) : gC v = 12 → ∀ (H : Heap) (locs : List Loc), WB G (st S a v) s H locs → ∀ (ls : Array Slot), lv_has ls 5 [(0, .ref a), (1, .int x1), (2, .int x2), (3, .int x3)] → W p l e RM_X13_readSpots s m args below meth c H locs 0 0 (QR G below args s (some (.int z.1)) (st S a v0) (st S a z.2)) (F0 m 22 ls []) := by
  intro hc H locs hW ls hl
  have hx := hM.1
  have hb := hM.2.1
  refine lv_aload_n hx hb dX13_readSpots_22 rfl (lv_at hl 0 rfl) ?_
  refine lv_iconst (v := (1 : Int32)) hx hb dX13_readSpots_23 (by decide) ?_
  refine lv_iconst (v := (0 : Int32)) hx hb dX13_readSpots_24 (by decide) ?_
  obtain ⟨r1, v2, hr1, hf⟩ := bd2_elim hf
  refine b_callVi [.int (1 : Int32), .int (0 : Int32)] [] hM hml hl.1 hW hc rfl (by decide) (c_X13_toldHere l G fu _ a v _ _ hc hr1) (cwV 2 hM.2.2.2.1 (gV mk_RX13_235 im_X13_toldHere se_X13_toldHere it_RX13 cd_X13_toldHere) rfl rfl rfl (by decide +kernel) ⟨Nat.le_of_ble_eq_true rfl, Nat.le_of_ble_eq_true rfl⟩) rfl rfl (Nat.le_of_ble_eq_true rfl) ⟨Nat.zero_le _, Nat.zero_le _⟩ dX13_readSpots_25 (fun H locs hW hk => ?_)
  have hc := keep_at hc hk
  refine lv_istore (lv' := [(4, .int r1), (0, .ref a), (1, .int x1), (2, .int x2), (3, .int x3)]) hx hb dX13_readSpots_28 hl (by decide) rfl (fun ls hl => ?_)
  refine lv_aload_n hx hb dX13_readSpots_30 rfl (lv_at hl 1 rfl) ?_
  refine b_get hM hW 11 8 hc rfl rfl (by decide) wi_X13 (wgm fk_RX13_192) (x := .int (gI v2 8)) rfl dX13_readSpots_31 ?_
  refine lv_if_ne (tgt := 71) hx hb dX13_readSpots_34 (by decide) (fun c3 => ?_) (fun c3 => ?_)
  · have hf := if_f c3 hf
    exact t_X13_readSpots_71 (fu := fu) hM hml hr hlk hc0 hk4 hf hc _ _ hW _ (lv_sub hl [1, 2, 3, 4, 0] rfl)
  · have hf := if_t c3 hf
    refine lv_iload_n hx hb dX13_readSpots_37 rfl (lv_at hl 3 rfl) ?_
    refine lv_iload hx hb dX13_readSpots_38 (lv_at hl 0 rfl) ?_
    refine lv_ishr hx hb dX13_readSpots_40 ?_
    refine lv_iconst (v := (1 : Int32)) hx hb dX13_readSpots_41 (by decide) ?_
    refine lv_iand hx hb dX13_readSpots_42 ?_
    refine lv_iconst (v := (1 : Int32)) hx hb dX13_readSpots_43 (by decide) ?_
    refine lv_icmp_eq (tgt := 52) hx hb dX13_readSpots_44 (by decide) (fun c4 => ?_) (fun c4 => ?_)
    · have hf := if_t c4 hf
      exact t_X13_readSpots_52 (fu := fu) hM hml hr hlk hc0 hk4 hf hc _ _ hW _ (lv_sub hl [1, 2, 3, 4, 0] rfl)
    · have hf := if_f c4 hf
      refine lv_iload_n hx hb dX13_readSpots_47 rfl (lv_at hl 4 rfl) ?_
      refine lv_iload_n hx hb dX13_readSpots_48 rfl (lv_at hl 2 rfl) ?_
      refine lv_icmp_ne (tgt := 71) hx hb dX13_readSpots_49 (by decide) (fun c5 => ?_) (fun c5 => ?_)
      · have hf := if_f c5 hf
        exact t_X13_readSpots_71 (fu := fu) hM hml hr hlk hc0 hk4 hf hc _ _ hW _ (lv_sub hl [1, 2, 3, 4, 0] rfl)
      · have hf := if_t c5 hf
        exact t_X13_readSpots_52 (fu := fu) hM hml hr hlk hc0 hk4 hf hc _ _ hW _ (lv_sub hl [1, 2, 3, 4, 0] rfl)
noncomputable def f_X13_readSpots_4s (fu : Nat)  (k4 : Int32 → Int32 → GV → Option (Int32 × GV)) (x1 : Int32) (x2 : Int32) (x3 : Int32) (v : GV) : Option (Int32 × GV) :=
  if (gI v 8) = 0 then
    (if x3 = 0 then
      (f_X13_readSpots_22 fu k4 v x1 x2 x3)
    else
      (bd (f_X13_isName fu v) fun r3 =>
      if r3 = 0 then
        (f_X13_readSpots_105 fu v x2)
      else
        (f_X13_readSpots_22 fu k4 v x1 x2 x3)))
  else
    (f_X13_readSpots_105 fu v x2)
noncomputable def f_X13_readSpots_4 (fu n : Nat)  (x1 : Int32) : Int32 → Int32 → GV → Option (Int32 × GV) :=
  lq_3 (fun k4 => f_X13_readSpots_4s fu  k4 x1) n
set_option maxHeartbeats 4000000 in
set_option maxRecDepth 100000 in
theorem t_X13_readSpots_4s {G : GG} {p : Program} {l : Launch} {e : Env} {s : State} {m : MethodId} {args : Array Value} {below : List Frame} {meth : Method} {c : Code} {S : ST} {fu : Nat} {z : Int32 × GV} {a : Nat} {v0 : GV}  (hM : MC G p s m args c cX13_readSpots w_X13_readSpots RX13) (hml : c.maxLocals = 5) (hr : meth.sig.returnType = (some .int)) (hlk : meth.locks = false) (hc0 : gC v0 = 12) {k4 : Int32 → Int32 → GV → Option (Int32 × GV)} {x1 : Int32}  (hk4 : ∀ (x2 : Int32) (x3 : Int32) (v : GV), k4 x2 x3 v = some z → gC v = 12 → ∀ (H : Heap) (locs : List Loc), WB G (st S a v) s H locs → ∀ (ls : Array Slot), lv_has ls 5 [(0, .ref a), (1, .int x1), (2, .int x2), (3, .int x3)] → W p l e RM_X13_readSpots s m args below meth c H locs 0 0 (QR G below args s (some (.int z.1)) (st S a v0) (st S a z.2)) (F0 m 4 ls [])) : ∀ (x2 : Int32) (x3 : Int32) (v : GV), f_X13_readSpots_4s fu  k4 x1 x2 x3 v = some z → gC v = 12 → ∀ (H : Heap) (locs : List Loc), WB G (st S a v) s H locs → ∀ (ls : Array Slot), lv_has ls 5 [(0, .ref a), (1, .int x1), (2, .int x2), (3, .int x3)] → W p l e RM_X13_readSpots s m args below meth c H locs 0 0 (QR G below args s (some (.int z.1)) (st S a v0) (st S a z.2)) (F0 m 4 ls []) := by
  intro x2 x3 v hf hc H locs hW ls hl
  have hx := hM.1
  have hb := hM.2.1
  refine lv_aload_n hx hb dX13_readSpots_4 rfl (lv_at hl 0 rfl) ?_
  refine b_get hM hW 11 8 hc rfl rfl (by decide) wi_X13 (wgm fk_RX13_192) (x := .int (gI v 8)) rfl dX13_readSpots_5 ?_
  refine lv_if_ne (tgt := 105) hx hb dX13_readSpots_8 (by decide) (fun c1 => ?_) (fun c1 => ?_)
  · have hf := if_f c1 hf
    exact t_X13_readSpots_105 (fu := fu) hM hml hr hlk hc0 hf hc _ _ hW _ (lv_sub hl [2] rfl)
  · have hf := if_t c1 hf
    refine lv_iload_n hx hb dX13_readSpots_11 rfl (lv_at hl 3 rfl) ?_
    refine lv_if_eq (tgt := 22) hx hb dX13_readSpots_12 (by decide) (fun c2 => ?_) (fun c2 => ?_)
    · have hf := if_t c2 hf
      exact t_X13_readSpots_22 (fu := fu) hM hml hr hlk hc0 hk4 hf hc _ _ hW _ (lv_sub hl [0, 1, 2, 3] rfl)
    · have hf := if_f c2 hf
      refine lv_aload_n hx hb dX13_readSpots_15 rfl (lv_at hl 0 rfl) ?_
      obtain ⟨r3, hr3, hf⟩ := bd_elim hf
      refine b_callVi [] [] hM hml hl.1 hW hc rfl (by decide) (c_X13_isName l G fu _ a v hc hr3) (cwV 0 hM.2.2.2.1 (gV mk_RX13_223 im_X13_isName se_X13_isName it_RX13 cd_X13_isName) rfl rfl rfl (by decide +kernel) ⟨Nat.le_of_ble_eq_true rfl, Nat.le_of_ble_eq_true rfl⟩) rfl rfl (Nat.le_of_ble_eq_true rfl) ⟨Nat.zero_le _, Nat.zero_le _⟩ dX13_readSpots_16 (fun H locs hW hk => ?_)
      refine lv_if_eq (tgt := 105) hx hb dX13_readSpots_19 (by decide) (fun c4 => ?_) (fun c4 => ?_)
      · have hf := if_t c4 hf
        exact t_X13_readSpots_105 (fu := fu) hM hml hr hlk hc0 hf hc _ _ hW _ (lv_sub hl [2] rfl)
      · have hf := if_f c4 hf
        exact t_X13_readSpots_22 (fu := fu) hM hml hr hlk hc0 hk4 hf hc _ _ hW _ (lv_sub hl [0, 1, 2, 3] rfl)
theorem t_X13_readSpots_4 {G : GG} {p : Program} {l : Launch} {e : Env} {s : State} {m : MethodId} {args : Array Value} {below : List Frame} {meth : Method} {c : Code} {S : ST} {fu : Nat} {z : Int32 × GV} {a : Nat} {v0 : GV}  {x1 : Int32} (hM : MC G p s m args c cX13_readSpots w_X13_readSpots RX13) (hml : c.maxLocals = 5) (hr : meth.sig.returnType = (some .int)) (hlk : meth.locks = false) (hc0 : gC v0 = 12)  : ∀ {n : Nat} (x2 : Int32) (x3 : Int32) (v : GV), f_X13_readSpots_4 fu n  x1 x2 x3 v = some z → gC v = 12 → ∀ (H : Heap) (locs : List Loc), WB G (st S a v) s H locs → ∀ (ls : Array Slot), lv_has ls 5 [(0, .ref a), (1, .int x1), (2, .int x2), (3, .int x3)] → W p l e RM_X13_readSpots s m args below meth c H locs 0 0 (QR G below args s (some (.int z.1)) (st S a v0) (st S a z.2)) (F0 m 4 ls []) := by
  intro n
  induction n with
  | zero => intro x2 x3 v hf; cases hf
  | succ n ih => intro x2 x3 v hf; exact t_X13_readSpots_4s (fu := fu) hM hml hr hlk hc0  (k4 := f_X13_readSpots_4 fu n  x1) ih _ _ _ hf
noncomputable def f_X13_readSpots_0 (fu : Nat)  (v : GV) (x1 : Int32) : Option (Int32 × GV) :=
  f_X13_readSpots_4 fu fu x1 (0 : Int32) (0 : Int32) v
set_option maxHeartbeats 4000000 in
set_option maxRecDepth 100000 in
theorem t_X13_readSpots_0 {G : GG} {p : Program} {l : Launch} {e : Env} {s : State} {m : MethodId} {args : Array Value} {below : List Frame} {meth : Method} {c : Code} {S : ST} {fu : Nat} {z : Int32 × GV} {a : Nat} {v0 : GV}  {v : GV} {x1 : Int32} (hM : MC G p s m args c cX13_readSpots w_X13_readSpots RX13) (hml : c.maxLocals = 5) (hr : meth.sig.returnType = (some .int)) (hlk : meth.locks = false) (hc0 : gC v0 = 12)  (hf : f_X13_readSpots_0 fu  v x1 = some z) : gC v = 12 → ∀ (H : Heap) (locs : List Loc), WB G (st S a v) s H locs → ∀ (ls : Array Slot), lv_has ls 5 [(0, .ref a), (1, .int x1)] → W p l e RM_X13_readSpots s m args below meth c H locs 0 0 (QR G below args s (some (.int z.1)) (st S a v0) (st S a z.2)) (F0 m 0 ls []) := by
  intro hc H locs hW ls hl
  have hx := hM.1
  have hb := hM.2.1
  refine lv_iconst (v := (0 : Int32)) hx hb dX13_readSpots_0 (by decide) ?_
  refine lv_istore_n (lv' := [(2, .int (0 : Int32)), (0, .ref a), (1, .int x1)]) hx hb dX13_readSpots_1 rfl hl (by decide) rfl (fun ls hl => ?_)
  refine lv_iconst (v := (0 : Int32)) hx hb dX13_readSpots_2 (by decide) ?_
  refine lv_istore_n (lv' := [(3, .int (0 : Int32)), (2, .int (0 : Int32)), (0, .ref a), (1, .int x1)]) hx hb dX13_readSpots_3 rfl hl (by decide) rfl (fun ls hl => ?_)
  exact t_X13_readSpots_4 (fu := fu) hM hml hr hlk hc0 _ _ _ hf hc _ _ hW _ (lv_sub hl [2, 3, 1, 0] rfl)
noncomputable def f_X13_readSpots (fu : Nat) (v : GV) (x1 : Int32) : Option (Int32 × GV) := f_X13_readSpots_0 fu v x1
set_option maxHeartbeats 4000000 in
set_option maxRecDepth 100000 in
theorem c_X13_readSpots (l : Launch) (G : GG) (fu : Nat) (S : ST) (a : Nat) (v : GV) (x1 : Int32) {z : Int32} {w : GV} (hc : gC v = 12) (hf : f_X13_readSpots fu v x1 = some (z, w)) : Ct l yX13_readSpots w_X13_readSpots RM_X13_readSpots G (st S a v) [.ref a, .int x1] (some (.int z)) (st S a w) 0 0 := by
  refine Met.ofW (cc := cX13_readSpots) (maxL := 5) (ret := (some .int)) (by decide) rfl ?_
  intro p e s m args below meth c s₁ B hml hv
  obtain ⟨rfl, hB, hK, hz⟩ := hv
  have hM : MC G p s m _ c cX13_readSpots w_X13_readSpots RX13 := ⟨B.exec, B.bytes, findClass_of_methodNamed B.named, atoms_spec (ws := w_X13_readSpots) B.pre, hK, hz⟩
  have hW : WB G (st S a v) s s.heap [] := ⟨hB, va_S.rf⟩
  have hl := lv_entry ([.ref a, .int x1]) (n := 5) (Nat.le_of_ble_eq_true rfl)
  rw [lg_entry_eq]
  generalize (lg_sl ([.ref a, .int x1]) ++ List.replicate (5 - (lg_sl ([.ref a, .int x1])).length) Slot.unset).toArray = ls at hl ⊢
  have hl : lv_has ls 5 [(0, .ref a), (1, .int x1)] := hl
  exact t_X13_readSpots_0 hM hml B.returns B.notSynchronized hc hf hc _ _ hW _ (lv_sub hl [0, 1] rfl)
abbrev w_X13_firstOf : List Cond := Cond.code yX13_firstOf cX13_firstOf 2 (some .int) :: wsL_law0
abbrev RM_X13_firstOf : Room := { frames := 0, cells := 0, slots := 0, locals := 0 }
noncomputable def f_X13_firstOf_22 (fu : Nat)  (x1 : Int32) : Option (Int32) :=
  some x1
set_option maxHeartbeats 4000000 in
set_option maxRecDepth 100000 in
theorem t_X13_firstOf_22 {G : GG} {p : Program} {l : Launch} {e : Env} {s : State} {m : MethodId} {args : Array Value} {below : List Frame} {meth : Method} {c : Code} {S : ST} {fu : Nat} {z : Int32}  {x1 : Int32} (hM : MC G p s m args c cX13_firstOf w_X13_firstOf RX13) (hml : c.maxLocals = 2) (hr : meth.sig.returnType = (some .int)) (hlk : meth.locks = false)  (hf : f_X13_firstOf_22 fu   x1 = some z) : ∀ (H : Heap) (locs : List Loc), WB G S s H locs → ∀ (ls : Array Slot), lv_has ls 2 [(1, .int x1)] → W p l e RM_X13_firstOf s m args below meth c H locs 0 0 (QR G below args s (some (.int z)) S S) (F0 m 22 ls []) := by
  intro H locs hW ls hl
  have hx := hM.1
  have hb := hM.2.1
  refine lv_iload_n hx hb dX13_firstOf_22 rfl (lv_at hl 0 rfl) ?_
  cases hf
  exact W.iret hx hb hr (b_ret0 hW (fun _ _ => rfl) _) hW.2.2.2 dX13_firstOf_23 hlk
noncomputable def f_X13_firstOf_2s (fu : Nat)  (k2 : Int32 → Option (Int32)) (x0 : Int32) (x1 : Int32) : Option (Int32) :=
  if (29 : Int32) ≤ x1 then
    (f_X13_firstOf_22 fu x1)
  else
    (if ((x0 >>> (x1 &&& 31)) &&& (1 : Int32)) = 0 then
      (nm (x1 + (1 : Int32)) fun y3 =>
      k2 y3)
    else
      (f_X13_firstOf_22 fu x1))
noncomputable def f_X13_firstOf_2 (fu n : Nat)  (x0 : Int32) : Int32 → Option (Int32) :=
  lq_1 (fun k2 => f_X13_firstOf_2s fu  k2 x0) n
set_option maxHeartbeats 4000000 in
set_option maxRecDepth 100000 in
theorem t_X13_firstOf_2s {G : GG} {p : Program} {l : Launch} {e : Env} {s : State} {m : MethodId} {args : Array Value} {below : List Frame} {meth : Method} {c : Code} {S : ST} {fu : Nat} {z : Int32}  (hM : MC G p s m args c cX13_firstOf w_X13_firstOf RX13) (hml : c.maxLocals = 2) (hr : meth.sig.returnType = (some .int)) (hlk : meth.locks = false) {k2 : Int32 → Option (Int32)} {x0 : Int32}  (hk2 : ∀ (x1 : Int32), k2 x1 = some z → ∀ (H : Heap) (locs : List Loc), WB G S s H locs → ∀ (ls : Array Slot), lv_has ls 2 [(0, .int x0), (1, .int x1)] → W p l e RM_X13_firstOf s m args below meth c H locs 0 0 (QR G below args s (some (.int z)) S S) (F0 m 2 ls [])) : ∀ (x1 : Int32), f_X13_firstOf_2s fu  k2 x0 x1 = some z → ∀ (H : Heap) (locs : List Loc), WB G S s H locs → ∀ (ls : Array Slot), lv_has ls 2 [(0, .int x0), (1, .int x1)] → W p l e RM_X13_firstOf s m args below meth c H locs 0 0 (QR G below args s (some (.int z)) S S) (F0 m 2 ls []) := by
  intro x1 hf H locs hW ls hl
  have hx := hM.1
  have hb := hM.2.1
  refine lv_iload_n hx hb dX13_firstOf_2 rfl (lv_at hl 1 rfl) ?_
  refine lv_bipush (v := (29 : Int32)) hx hb dX13_firstOf_3 (by decide) ?_
  refine lv_icmp_ge (tgt := 22) hx hb dX13_firstOf_5 (by decide) (fun c1 => ?_) (fun c1 => ?_)
  · have hf := if_t c1 hf
    exact t_X13_firstOf_22 (fu := fu) hM hml hr hlk hf _ _ hW _ (lv_sub hl [1] rfl)
  · have hf := if_f c1 hf
    refine lv_iload_n hx hb dX13_firstOf_8 rfl (lv_at hl 0 rfl) ?_
    refine lv_iload_n hx hb dX13_firstOf_9 rfl (lv_at hl 1 rfl) ?_
    refine lv_ishr hx hb dX13_firstOf_10 ?_
    refine lv_iconst (v := (1 : Int32)) hx hb dX13_firstOf_11 (by decide) ?_
    refine lv_iand hx hb dX13_firstOf_12 ?_
    refine lv_if_ne (tgt := 22) hx hb dX13_firstOf_13 (by decide) (fun c2 => ?_) (fun c2 => ?_)
    · have hf := if_f c2 hf
      exact t_X13_firstOf_22 (fu := fu) hM hml hr hlk hf _ _ hW _ (lv_sub hl [1] rfl)
    · have hf := if_t c2 hf
      obtain ⟨y3, ey3⟩ : ∃ y : Int32, y = x1 + (1 : Int32) := ⟨_, rfl⟩
      have hf := nm_at ey3 hf
      refine lv_iinc (v := y3) (lv' := [(1, .int y3), (0, .int x0)]) hx hb dX13_firstOf_16 hl (k := 1) rfl (by rw [ey3]; rfl) (by decide) rfl (fun ls hl => ?_)
      refine lv_goto (tgt := 2) hx hb dX13_firstOf_19 (by decide) ?_
      exact hk2 _ hf _ _ hW _ (lv_sub hl [1, 0] rfl)
theorem t_X13_firstOf_2 {G : GG} {p : Program} {l : Launch} {e : Env} {s : State} {m : MethodId} {args : Array Value} {below : List Frame} {meth : Method} {c : Code} {S : ST} {fu : Nat} {z : Int32}  {x0 : Int32} (hM : MC G p s m args c cX13_firstOf w_X13_firstOf RX13) (hml : c.maxLocals = 2) (hr : meth.sig.returnType = (some .int)) (hlk : meth.locks = false)  : ∀ {n : Nat} (x1 : Int32), f_X13_firstOf_2 fu n  x0 x1 = some z → ∀ (H : Heap) (locs : List Loc), WB G S s H locs → ∀ (ls : Array Slot), lv_has ls 2 [(0, .int x0), (1, .int x1)] → W p l e RM_X13_firstOf s m args below meth c H locs 0 0 (QR G below args s (some (.int z)) S S) (F0 m 2 ls []) := by
  intro n
  induction n with
  | zero => intro x1 hf; cases hf
  | succ n ih => intro x1 hf; exact t_X13_firstOf_2s (fu := fu) hM hml hr hlk  (k2 := f_X13_firstOf_2 fu n  x0) ih _ hf
noncomputable def f_X13_firstOf_0 (fu : Nat)  (x0 : Int32) : Option (Int32) :=
  f_X13_firstOf_2 fu fu x0 (0 : Int32)
set_option maxHeartbeats 4000000 in
set_option maxRecDepth 100000 in
theorem t_X13_firstOf_0 {G : GG} {p : Program} {l : Launch} {e : Env} {s : State} {m : MethodId} {args : Array Value} {below : List Frame} {meth : Method} {c : Code} {S : ST} {fu : Nat} {z : Int32}  {x0 : Int32} (hM : MC G p s m args c cX13_firstOf w_X13_firstOf RX13) (hml : c.maxLocals = 2) (hr : meth.sig.returnType = (some .int)) (hlk : meth.locks = false)  (hf : f_X13_firstOf_0 fu   x0 = some z) : ∀ (H : Heap) (locs : List Loc), WB G S s H locs → ∀ (ls : Array Slot), lv_has ls 2 [(0, .int x0)] → W p l e RM_X13_firstOf s m args below meth c H locs 0 0 (QR G below args s (some (.int z)) S S) (F0 m 0 ls []) := by
  intro H locs hW ls hl
  have hx := hM.1
  have hb := hM.2.1
  refine lv_iconst (v := (0 : Int32)) hx hb dX13_firstOf_0 (by decide) ?_
  refine lv_istore_n (lv' := [(1, .int (0 : Int32)), (0, .int x0)]) hx hb dX13_firstOf_1 rfl hl (by decide) rfl (fun ls hl => ?_)
  exact t_X13_firstOf_2 (fu := fu) hM hml hr hlk _ hf _ _ hW _ (lv_sub hl [1, 0] rfl)
noncomputable def f_X13_firstOf (fu : Nat) (x0 : Int32) : Option (Int32) := f_X13_firstOf_0 fu x0
set_option maxHeartbeats 4000000 in
set_option maxRecDepth 100000 in
theorem c_X13_firstOf (l : Launch) (G : GG) (fu : Nat) (S : ST) (x0 : Int32) {z : Int32} (hf : f_X13_firstOf fu x0 = some z) : Ct l yX13_firstOf w_X13_firstOf RM_X13_firstOf G S [.int x0] (some (.int z)) S 0 0 := by
  refine Met.ofW (cc := cX13_firstOf) (maxL := 2) (ret := (some .int)) (by decide) rfl ?_
  intro p e s m args below meth c s₁ B hml hv
  obtain ⟨rfl, hB, hK, hz⟩ := hv
  have hM : MC G p s m _ c cX13_firstOf w_X13_firstOf RX13 := ⟨B.exec, B.bytes, findClass_of_methodNamed B.named, atoms_spec (ws := w_X13_firstOf) B.pre, hK, hz⟩
  have hW : WB G S s s.heap [] := ⟨hB, va_S.rf⟩
  have hl := lv_entry ([.int x0]) (n := 2) (Nat.le_of_ble_eq_true rfl)
  rw [lg_entry_eq]
  generalize (lg_sl ([.int x0]) ++ List.replicate (2 - (lg_sl ([.int x0])).length) Slot.unset).toArray = ls at hl ⊢
  have hl : lv_has ls 2 [(0, .int x0)] := hl
  exact t_X13_firstOf_0 hM hml B.returns B.notSynchronized hf _ _ hW _ (lv_sub hl [0] rfl)
