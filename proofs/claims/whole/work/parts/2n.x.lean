abbrev RM_X12_common : Room := { frames := 3, cells := 0, slots := 0, locals := 74 }
abbrev w_X12_common : List Cond := Cond.code yX12_common cX12_common 2 (some .int) :: wsL_law0
noncomputable def f_X12_common_0 (fu : Nat)  (S : ST) (a : Nat) (x1 : Int32) : Option (Int32) :=
  bd (f_X12_areThere fu S a x1) fun r1 =>
  if r1 = 0 then
    (some ((-1 : Int32)))
  else
    (bd (f_X12_knownTo fu S a x1 (8 : Int32)) fun r3 =>
    some (r3))
set_option maxHeartbeats 4000000 in
set_option maxRecDepth 100000 in
theorem t_X12_common_0 {G : GG} {p : Program} {l : Launch} {e : Env} {s : State} {m : MethodId} {args : Array Value} {below : List Frame} {meth : Method} {c : Code} {S : ST} {fu : Nat} {z : Int32} {a : Nat}  {x1 : Int32} (hM : MC G p s m args c cX12_common w_X12_common RX12) (hml : c.maxLocals = 2) (hr : meth.sig.returnType = (some .int)) (hlk : meth.locks = false) (ha : gC (S a) = 11)  (hf : f_X12_common_0 fu  S a x1 = some z) : ∀ (H : Heap) (locs : List Loc), WB G S s H locs → ∀ (ls : Array Slot), lv_has ls 2 [(0, .ref a), (1, .int x1)] → W p l e RM_X12_common s m args below meth c H locs 0 0 (QR G below args s (some (.int z)) S S) (F0 m 0 ls []) := by
  intro  H locs hW ls hl
  have hx := hM.1
  have hb := hM.2.1
  refine lv_aload_n hx hb dX12_common_0 rfl (lv_at hl 0 rfl) ?_
  refine lv_iload_n hx hb dX12_common_1 rfl (lv_at hl 1 rfl) ?_
  obtain ⟨r1, hr1, hf⟩ := bd_elim hf
  refine s_callVi [.int x1] [] hM hml hl.1 hW ha rfl (by decide) (c_X12_areThere l G fu _ a _ ha hr1) (cwV 1 hM.2.2.2.1 (gV mk_RX12_253 im_X12_areThere se_X12_areThere it_RX12 cd_X12_areThere) rfl rfl rfl (by decide +kernel) ⟨Nat.le_of_ble_eq_true rfl, Nat.le_of_ble_eq_true rfl⟩) rfl rfl (Nat.le_of_ble_eq_true rfl) ⟨Nat.zero_le _, Nat.zero_le _⟩ dX12_common_2 (fun H locs hW hk => ?_)
  refine lv_if_eq (tgt := 18) hx hb dX12_common_5 (by decide) (fun c2 => ?_) (fun c2 => ?_)
  · have hf := if_t c2 hf
    refine lv_iconst (v := (-1 : Int32)) hx hb dX12_common_18 (by decide) ?_
    cases hf
    exact W.iret hx hb hr (b_ret0 hW (fun _ _ => rfl) _) hW.2.2.2 dX12_common_19 hlk
  · have hf := if_f c2 hf
    refine lv_aload_n hx hb dX12_common_8 rfl (lv_at hl 0 rfl) ?_
    refine lv_iload_n hx hb dX12_common_9 rfl (lv_at hl 1 rfl) ?_
    refine lv_bipush (v := (8 : Int32)) hx hb dX12_common_10 (by decide) ?_
    obtain ⟨r3, hr3, hf⟩ := bd_elim hf
    refine s_callVi [.int x1, .int (8 : Int32)] [] hM hml hl.1 hW ha rfl (by decide) (c_X12_knownTo l G fu _ a _ _ ha hr3) (cwV 2 hM.2.2.2.1 (gV mk_RX12_312 im_X12_knownTo se_X12_knownTo it_RX12 cd_X12_knownTo) rfl rfl rfl (by decide +kernel) ⟨Nat.le_of_ble_eq_true rfl, Nat.le_of_ble_eq_true rfl⟩) rfl rfl (Nat.le_of_ble_eq_true rfl) ⟨Nat.zero_le _, Nat.zero_le _⟩ dX12_common_12 (fun H locs hW hk => ?_)
    refine lv_goto (tgt := 19) hx hb dX12_common_15 (by decide) ?_
    cases hf
    exact W.iret hx hb hr (b_ret0 hW (fun _ _ => rfl) _) hW.2.2.2 dX12_common_19 hlk
noncomputable def f_X12_common (fu : Nat) (S : ST) (a : Nat) (x1 : Int32) : Option (Int32) := f_X12_common_0 fu S a x1
set_option maxHeartbeats 4000000 in
set_option maxRecDepth 100000 in
theorem c_X12_common (l : Launch) (G : GG) (fu : Nat) (S : ST) (a : Nat) (x1 : Int32) {z : Int32} (ha : gC (S a) = 11) (hf : f_X12_common fu S a x1 = some z) : Ct l yX12_common w_X12_common RM_X12_common G S [.ref a, .int x1] (some (.int z)) S 0 0 := by
  refine Met.ofW (cc := cX12_common) (maxL := 2) (ret := (some .int)) (by decide) rfl ?_
  intro p e s m args below meth c s₁ B hml hv
  obtain ⟨rfl, hB, hK, hz⟩ := hv
  have hM : MC G p s m _ c cX12_common w_X12_common RX12 := ⟨B.exec, B.bytes, findClass_of_methodNamed B.named, atoms_spec (ws := w_X12_common) B.pre, hK, hz⟩
  have hW : WB G S s s.heap [] := ⟨hB, va_S.rf⟩
  have hl := lv_entry ([.ref a, .int x1]) (n := 2) (Nat.le_of_ble_eq_true rfl)
  rw [lg_entry_eq]
  generalize (lg_sl ([.ref a, .int x1]) ++ List.replicate (2 - (lg_sl ([.ref a, .int x1])).length) Slot.unset).toArray = ls at hl ⊢
  have hl : lv_has ls 2 [(0, .ref a), (1, .int x1)] := hl
  exact t_X12_common_0 (fu := fu) hM hml B.returns B.notSynchronized ha hf _ _ hW _ (lv_sub hl [0, 1] rfl)
abbrev RM_X12_firstGain : Room := { frames := 0, cells := 0, slots := 0, locals := 0 }
abbrev w_X12_firstGain : List Cond := Cond.code yX12_firstGain cX12_firstGain 4 (some .int) :: wsL_law0
noncomputable def f_X12_firstGain_15 (fu : Nat)  (t0 : Int32) (t1 : Int32) : Option (Int32) :=
  some ((t0 - t1))
set_option maxHeartbeats 4000000 in
set_option maxRecDepth 100000 in
theorem t_X12_firstGain_15 {G : GG} {p : Program} {l : Launch} {e : Env} {s : State} {m : MethodId} {args : Array Value} {below : List Frame} {meth : Method} {c : Code} {S : ST} {fu : Nat} {z : Int32}  {t0 : Int32} {t1 : Int32} (hM : MC G p s m args c cX12_firstGain w_X12_firstGain RX12) (hml : c.maxLocals = 4) (hr : meth.sig.returnType = (some .int)) (hlk : meth.locks = false)   (hf : f_X12_firstGain_15 fu    t0 t1 = some z) : ∀ (H : Heap) (locs : List Loc), WB G S s H locs → ∀ (ls : Array Slot), lv_has ls 4 [] → W p l e RM_X12_firstGain s m args below meth c H locs 0 0 (QR G below args s (some (.int z)) S S) (F0 m 15 ls [.int t1, .int t0]) := by
  intro  H locs hW ls hl
  have hx := hM.1
  have hb := hM.2.1
  refine lv_isub hx hb dX12_firstGain_15 ?_
  refine lv_goto (tgt := 20) hx hb dX12_firstGain_16 (by decide) ?_
  cases hf
  exact W.iret hx hb hr (b_ret0 hW (fun _ _ => rfl) _) hW.2.2.2 dX12_firstGain_20 hlk
noncomputable def f_X12_firstGain_0 (fu : Nat)  (x0 : Int32) (x1 : Int32) (x2 : Int32) (x3 : Int32) : Option (Int32) :=
  if x2 < x3 then
    (some ((0 : Int32)))
  else
    (if x1 = 0 then
      (f_X12_firstGain_15 fu x0 x3)
    else
      (f_X12_firstGain_15 fu x0 x2))
set_option maxHeartbeats 4000000 in
set_option maxRecDepth 100000 in
theorem t_X12_firstGain_0 {G : GG} {p : Program} {l : Launch} {e : Env} {s : State} {m : MethodId} {args : Array Value} {below : List Frame} {meth : Method} {c : Code} {S : ST} {fu : Nat} {z : Int32}  {x0 : Int32} {x1 : Int32} {x2 : Int32} {x3 : Int32} (hM : MC G p s m args c cX12_firstGain w_X12_firstGain RX12) (hml : c.maxLocals = 4) (hr : meth.sig.returnType = (some .int)) (hlk : meth.locks = false)   (hf : f_X12_firstGain_0 fu    x0 x1 x2 x3 = some z) : ∀ (H : Heap) (locs : List Loc), WB G S s H locs → ∀ (ls : Array Slot), lv_has ls 4 [(0, .int x0), (1, .int x1), (2, .int x2), (3, .int x3)] → W p l e RM_X12_firstGain s m args below meth c H locs 0 0 (QR G below args s (some (.int z)) S S) (F0 m 0 ls []) := by
  intro  H locs hW ls hl
  have hx := hM.1
  have hb := hM.2.1
  refine lv_iload_n hx hb dX12_firstGain_0 rfl (lv_at hl 2 rfl) ?_
  refine lv_iload_n hx hb dX12_firstGain_1 rfl (lv_at hl 3 rfl) ?_
  refine lv_icmp_lt (tgt := 19) hx hb dX12_firstGain_2 (by decide) (fun c1 => ?_) (fun c1 => ?_)
  · have hf := if_t c1 hf
    refine lv_iconst (v := (0 : Int32)) hx hb dX12_firstGain_19 (by decide) ?_
    cases hf
    exact W.iret hx hb hr (b_ret0 hW (fun _ _ => rfl) _) hW.2.2.2 dX12_firstGain_20 hlk
  · have hf := if_f c1 hf
    refine lv_iload_n hx hb dX12_firstGain_5 rfl (lv_at hl 0 rfl) ?_
    refine lv_iload_n hx hb dX12_firstGain_6 rfl (lv_at hl 1 rfl) ?_
    refine lv_if_eq (tgt := 14) hx hb dX12_firstGain_7 (by decide) (fun c2 => ?_) (fun c2 => ?_)
    · have hf := if_t c2 hf
      refine lv_iload_n hx hb dX12_firstGain_14 rfl (lv_at hl 3 rfl) ?_
      exact t_X12_firstGain_15 (fu := fu) hM hml hr hlk hf _ _ hW _ (lv_sub hl [] rfl)
    · have hf := if_f c2 hf
      refine lv_iload_n hx hb dX12_firstGain_10 rfl (lv_at hl 2 rfl) ?_
      refine lv_goto (tgt := 15) hx hb dX12_firstGain_11 (by decide) ?_
      exact t_X12_firstGain_15 (fu := fu) hM hml hr hlk hf _ _ hW _ (lv_sub hl [] rfl)
noncomputable def f_X12_firstGain (fu : Nat) (x0 : Int32) (x1 : Int32) (x2 : Int32) (x3 : Int32) : Option (Int32) := f_X12_firstGain_0 fu x0 x1 x2 x3
set_option maxHeartbeats 4000000 in
set_option maxRecDepth 100000 in
theorem c_X12_firstGain (l : Launch) (G : GG) (fu : Nat) (S : ST) (x0 : Int32) (x1 : Int32) (x2 : Int32) (x3 : Int32) {z : Int32} (hf : f_X12_firstGain fu x0 x1 x2 x3 = some z) : Ct l yX12_firstGain w_X12_firstGain RM_X12_firstGain G S [.int x0, .int x1, .int x2, .int x3] (some (.int z)) S 0 0 := by
  refine Met.ofW (cc := cX12_firstGain) (maxL := 4) (ret := (some .int)) (by decide) rfl ?_
  intro p e s m args below meth c s₁ B hml hv
  obtain ⟨rfl, hB, hK, hz⟩ := hv
  have hM : MC G p s m _ c cX12_firstGain w_X12_firstGain RX12 := ⟨B.exec, B.bytes, findClass_of_methodNamed B.named, atoms_spec (ws := w_X12_firstGain) B.pre, hK, hz⟩
  have hW : WB G S s s.heap [] := ⟨hB, va_S.rf⟩
  have hl := lv_entry ([.int x0, .int x1, .int x2, .int x3]) (n := 4) (Nat.le_of_ble_eq_true rfl)
  rw [lg_entry_eq]
  generalize (lg_sl ([.int x0, .int x1, .int x2, .int x3]) ++ List.replicate (4 - (lg_sl ([.int x0, .int x1, .int x2, .int x3])).length) Slot.unset).toArray = ls at hl ⊢
  have hl : lv_has ls 4 [(0, .int x0), (1, .int x1), (2, .int x2), (3, .int x3)] := hl
  exact t_X12_firstGain_0 (fu := fu) hM hml B.returns B.notSynchronized hf _ _ hW _ (lv_sub hl [0, 1, 2, 3] rfl)
abbrev RM_X12_secondGain : Room := { frames := 0, cells := 0, slots := 0, locals := 0 }
abbrev w_X12_secondGain : List Cond := Cond.code yX12_secondGain cX12_secondGain 4 (some .int) :: wsL_law0
noncomputable def f_X12_secondGain_15 (fu : Nat)  (t0 : Int32) (t1 : Int32) : Option (Int32) :=
  some ((t0 - t1))
set_option maxHeartbeats 4000000 in
set_option maxRecDepth 100000 in
theorem t_X12_secondGain_15 {G : GG} {p : Program} {l : Launch} {e : Env} {s : State} {m : MethodId} {args : Array Value} {below : List Frame} {meth : Method} {c : Code} {S : ST} {fu : Nat} {z : Int32}  {t0 : Int32} {t1 : Int32} (hM : MC G p s m args c cX12_secondGain w_X12_secondGain RX12) (hml : c.maxLocals = 4) (hr : meth.sig.returnType = (some .int)) (hlk : meth.locks = false)   (hf : f_X12_secondGain_15 fu    t0 t1 = some z) : ∀ (H : Heap) (locs : List Loc), WB G S s H locs → ∀ (ls : Array Slot), lv_has ls 4 [] → W p l e RM_X12_secondGain s m args below meth c H locs 0 0 (QR G below args s (some (.int z)) S S) (F0 m 15 ls [.int t1, .int t0]) := by
  intro  H locs hW ls hl
  have hx := hM.1
  have hb := hM.2.1
  refine lv_isub hx hb dX12_secondGain_15 ?_
  refine lv_goto (tgt := 20) hx hb dX12_secondGain_16 (by decide) ?_
  cases hf
  exact W.iret hx hb hr (b_ret0 hW (fun _ _ => rfl) _) hW.2.2.2 dX12_secondGain_20 hlk
noncomputable def f_X12_secondGain_0 (fu : Nat)  (x0 : Int32) (x1 : Int32) (x2 : Int32) (x3 : Int32) : Option (Int32) :=
  if x3 ≤ x2 then
    (some ((0 : Int32)))
  else
    (if x1 = 0 then
      (f_X12_secondGain_15 fu x0 x2)
    else
      (f_X12_secondGain_15 fu x0 x3))
set_option maxHeartbeats 4000000 in
set_option maxRecDepth 100000 in
theorem t_X12_secondGain_0 {G : GG} {p : Program} {l : Launch} {e : Env} {s : State} {m : MethodId} {args : Array Value} {below : List Frame} {meth : Method} {c : Code} {S : ST} {fu : Nat} {z : Int32}  {x0 : Int32} {x1 : Int32} {x2 : Int32} {x3 : Int32} (hM : MC G p s m args c cX12_secondGain w_X12_secondGain RX12) (hml : c.maxLocals = 4) (hr : meth.sig.returnType = (some .int)) (hlk : meth.locks = false)   (hf : f_X12_secondGain_0 fu    x0 x1 x2 x3 = some z) : ∀ (H : Heap) (locs : List Loc), WB G S s H locs → ∀ (ls : Array Slot), lv_has ls 4 [(0, .int x0), (1, .int x1), (2, .int x2), (3, .int x3)] → W p l e RM_X12_secondGain s m args below meth c H locs 0 0 (QR G below args s (some (.int z)) S S) (F0 m 0 ls []) := by
  intro  H locs hW ls hl
  have hx := hM.1
  have hb := hM.2.1
  refine lv_iload_n hx hb dX12_secondGain_0 rfl (lv_at hl 3 rfl) ?_
  refine lv_iload_n hx hb dX12_secondGain_1 rfl (lv_at hl 2 rfl) ?_
  refine lv_icmp_le (tgt := 19) hx hb dX12_secondGain_2 (by decide) (fun c1 => ?_) (fun c1 => ?_)
  · have hf := if_t c1 hf
    refine lv_iconst (v := (0 : Int32)) hx hb dX12_secondGain_19 (by decide) ?_
    cases hf
    exact W.iret hx hb hr (b_ret0 hW (fun _ _ => rfl) _) hW.2.2.2 dX12_secondGain_20 hlk
  · have hf := if_f c1 hf
    refine lv_iload_n hx hb dX12_secondGain_5 rfl (lv_at hl 0 rfl) ?_
    refine lv_iload_n hx hb dX12_secondGain_6 rfl (lv_at hl 1 rfl) ?_
    refine lv_if_eq (tgt := 14) hx hb dX12_secondGain_7 (by decide) (fun c2 => ?_) (fun c2 => ?_)
    · have hf := if_t c2 hf
      refine lv_iload_n hx hb dX12_secondGain_14 rfl (lv_at hl 2 rfl) ?_
      exact t_X12_secondGain_15 (fu := fu) hM hml hr hlk hf _ _ hW _ (lv_sub hl [] rfl)
    · have hf := if_f c2 hf
      refine lv_iload_n hx hb dX12_secondGain_10 rfl (lv_at hl 3 rfl) ?_
      refine lv_goto (tgt := 15) hx hb dX12_secondGain_11 (by decide) ?_
      exact t_X12_secondGain_15 (fu := fu) hM hml hr hlk hf _ _ hW _ (lv_sub hl [] rfl)
noncomputable def f_X12_secondGain (fu : Nat) (x0 : Int32) (x1 : Int32) (x2 : Int32) (x3 : Int32) : Option (Int32) := f_X12_secondGain_0 fu x0 x1 x2 x3
set_option maxHeartbeats 4000000 in
set_option maxRecDepth 100000 in
theorem c_X12_secondGain (l : Launch) (G : GG) (fu : Nat) (S : ST) (x0 : Int32) (x1 : Int32) (x2 : Int32) (x3 : Int32) {z : Int32} (hf : f_X12_secondGain fu x0 x1 x2 x3 = some z) : Ct l yX12_secondGain w_X12_secondGain RM_X12_secondGain G S [.int x0, .int x1, .int x2, .int x3] (some (.int z)) S 0 0 := by
  refine Met.ofW (cc := cX12_secondGain) (maxL := 4) (ret := (some .int)) (by decide) rfl ?_
  intro p e s m args below meth c s₁ B hml hv
  obtain ⟨rfl, hB, hK, hz⟩ := hv
  have hM : MC G p s m _ c cX12_secondGain w_X12_secondGain RX12 := ⟨B.exec, B.bytes, findClass_of_methodNamed B.named, atoms_spec (ws := w_X12_secondGain) B.pre, hK, hz⟩
  have hW : WB G S s s.heap [] := ⟨hB, va_S.rf⟩
  have hl := lv_entry ([.int x0, .int x1, .int x2, .int x3]) (n := 4) (Nat.le_of_ble_eq_true rfl)
  rw [lg_entry_eq]
  generalize (lg_sl ([.int x0, .int x1, .int x2, .int x3]) ++ List.replicate (4 - (lg_sl ([.int x0, .int x1, .int x2, .int x3])).length) Slot.unset).toArray = ls at hl ⊢
  have hl : lv_has ls 4 [(0, .int x0), (1, .int x1), (2, .int x2), (3, .int x3)] := hl
  exact t_X12_secondGain_0 (fu := fu) hM hml B.returns B.notSynchronized hf _ _ hW _ (lv_sub hl [0, 1, 2, 3] rfl)
abbrev RM_X12_isRest : Room := { frames := 1, cells := 0, slots := 0, locals := 23 }
abbrev w_X12_isRest : List Cond := Cond.code yX12_isRest cX12_isRest 9 (some .boolean) :: wsL_law0
noncomputable def f_X12_isRest_69 (fu : Nat)  : Option (Int32) :=
  some ((0 : Int32))
set_option maxHeartbeats 4000000 in
set_option maxRecDepth 100000 in
theorem t_X12_isRest_69 {G : GG} {p : Program} {l : Launch} {e : Env} {s : State} {m : MethodId} {args : Array Value} {below : List Frame} {meth : Method} {c : Code} {S : ST} {fu : Nat} {z : Int32}  (hM : MC G p s m args c cX12_isRest w_X12_isRest RX12) (hml : c.maxLocals = 9) (hr : meth.sig.returnType = (some .boolean)) (hlk : meth.locks = false)   (hf : f_X12_isRest_69 fu     = some z) : ∀ (H : Heap) (locs : List Loc), WB G S s H locs → ∀ (ls : Array Slot), lv_has ls 9 [] → W p l e RM_X12_isRest s m args below meth c H locs 0 0 (QR G below args s (some (.int z)) S S) (F0 m 69 ls []) := by
  intro  H locs hW ls hl
  have hx := hM.1
  have hb := hM.2.1
  refine lv_iconst (v := (0 : Int32)) hx hb dX12_isRest_69 (by decide) ?_
  cases hf
  exact W.zret (v := (0 : Int32)) hx hb hr (by decide) (b_ret0 hW (fun _ _ => rfl) _) hW.2.2.2 dX12_isRest_70 hlk
noncomputable def f_X12_isRest_49 (fu : Nat) (k23 : Int32 → Option (Int32)) (x0 : Int32) (x1 : Int32) (x2 : Int32) (x3 : Int32) (x4 : Int32) (x5 : Int32) (x6 : Int32) (x7 : Int32) (t0 : Int32) : Option (Int32) :=
  if t0 = 0 then
    (bd (f_X12_secondGain fu x1 x2 x3 x7) fun r2 =>
    if r2 ≤ x6 then
      (nm (x7 + (1 : Int32)) fun y4 =>
      k23 y4)
    else
      (f_X12_isRest_69 fu))
  else
    (f_X12_isRest_69 fu)
set_option maxHeartbeats 4000000 in
set_option maxRecDepth 100000 in
theorem t_X12_isRest_49 {G : GG} {p : Program} {l : Launch} {e : Env} {s : State} {m : MethodId} {args : Array Value} {below : List Frame} {meth : Method} {c : Code} {S : ST} {fu : Nat} {z : Int32} {k23 : Int32 → Option (Int32)} {x0 : Int32} {x1 : Int32} {x2 : Int32} {x3 : Int32} {x4 : Int32} {x5 : Int32} {x6 : Int32} {x7 : Int32} {t0 : Int32} (hM : MC G p s m args c cX12_isRest w_X12_isRest RX12) (hml : c.maxLocals = 9) (hr : meth.sig.returnType = (some .boolean)) (hlk : meth.locks = false)  (hk23 : ∀ (x7 : Int32), k23 x7 = some z → ∀ (H : Heap) (locs : List Loc), WB G S s H locs → ∀ (ls : Array Slot), lv_has ls 9 [(0, .int x0), (1, .int x1), (2, .int x2), (3, .int x3), (4, .int x4), (5, .int x5), (6, .int x6), (7, .int x7)] → W p l e RM_X12_isRest s m args below meth c H locs 0 0 (QR G below args s (some (.int z)) S S) (F0 m 23 ls [])) (hf : f_X12_isRest_49 fu k23   x0 x1 x2 x3 x4 x5 x6 x7 t0 = some z) : ∀ (H : Heap) (locs : List Loc), WB G S s H locs → ∀ (ls : Array Slot), lv_has ls 9 [(0, .int x0), (1, .int x1), (2, .int x2), (3, .int x3), (4, .int x4), (5, .int x5), (6, .int x6), (7, .int x7)] → W p l e RM_X12_isRest s m args below meth c H locs 0 0 (QR G below args s (some (.int z)) S S) (F0 m 49 ls [.int t0]) := by
  intro  H locs hW ls hl
  have hx := hM.1
  have hb := hM.2.1
  refine lv_istore (lv' := [(8, .int t0), (0, .int x0), (1, .int x1), (2, .int x2), (3, .int x3), (4, .int x4), (5, .int x5), (6, .int x6), (7, .int x7)]) hx hb dX12_isRest_49 hl (by decide) rfl (fun ls hl => ?_)
  refine lv_iload hx hb dX12_isRest_51 (lv_at hl 0 rfl) ?_
  refine lv_if_ne (tgt := 69) hx hb dX12_isRest_53 (by decide) (fun c1 => ?_) (fun c1 => ?_)
  · have hf := if_f c1 hf
    exact t_X12_isRest_69 (fu := fu) hM hml hr hlk hf _ _ hW _ (lv_sub hl [] rfl)
  · have hf := if_t c1 hf
    refine lv_iload_n hx hb dX12_isRest_56 rfl (lv_at hl 2 rfl) ?_
    refine lv_iload_n hx hb dX12_isRest_57 rfl (lv_at hl 3 rfl) ?_
    refine lv_iload_n hx hb dX12_isRest_58 rfl (lv_at hl 4 rfl) ?_
    refine lv_iload hx hb dX12_isRest_59 (lv_at hl 8 rfl) ?_
    obtain ⟨r2, hr2, hf⟩ := bd_elim hf
    refine s_callSi [.int x1, .int x2, .int x3, .int x7] [] hM hml hl.1 hW (c_X12_secondGain l G fu _ _ _ _ _ hr2) (va_cwS 4 hM.2.2.2.1 (gS mk_RX12_338 sm_X12_secondGain it_RX12 cd_X12_secondGain) rfl rfl rfl (by decide +kernel) ⟨Nat.le_of_ble_eq_true rfl, Nat.le_of_ble_eq_true rfl⟩) rfl rfl (Nat.le_of_ble_eq_true rfl) ⟨Nat.zero_le _, Nat.zero_le _⟩ dX12_isRest_61 (fun H locs hW hk => ?_)
    refine lv_iload hx hb dX12_isRest_64 (lv_at hl 7 rfl) ?_
    refine lv_icmp_le (tgt := 71) hx hb dX12_isRest_66 (by decide) (fun c3 => ?_) (fun c3 => ?_)
    · have hf := if_t c3 hf
      obtain ⟨y4, ey4⟩ : ∃ y : Int32, y = x7 + (1 : Int32) := ⟨_, rfl⟩
      have hf := nm_at ey4 hf
      refine lv_iinc (v := y4) (lv' := [(7, .int y4), (8, .int t0), (0, .int x0), (1, .int x1), (2, .int x2), (3, .int x3), (4, .int x4), (5, .int x5), (6, .int x6)]) hx hb dX12_isRest_71 hl (k := 8) rfl (by rw [ey4]; rfl) (by decide) rfl (fun ls hl => ?_)
      refine lv_goto (tgt := 23) hx hb dX12_isRest_74 (by decide) ?_
      exact hk23 _ hf _ _ hW _ (lv_sub hl [2, 3, 4, 5, 6, 7, 8, 0] rfl)
    · have hf := if_f c3 hf
      exact t_X12_isRest_69 (fu := fu) hM hml hr hlk hf _ _ hW _ (lv_sub hl [] rfl)
noncomputable def f_X12_isRest_23s (fu : Nat)  (k23 : Int32 → Option (Int32)) (x0 : Int32) (x1 : Int32) (x2 : Int32) (x3 : Int32) (x4 : Int32) (x5 : Int32) (x6 : Int32) (x7 : Int32) : Option (Int32) :=
  if (10 : Int32) ≤ x7 then
    (some ((1 : Int32)))
  else
    (bd (f_X12_firstGain fu x0 x2 x7 x4) fun r2 =>
    if r2 ≤ x5 then
      (f_X12_isRest_49 fu k23 x0 x1 x2 x3 x4 x5 x6 x7 (0 : Int32))
    else
      (f_X12_isRest_49 fu k23 x0 x1 x2 x3 x4 x5 x6 x7 (1 : Int32)))
noncomputable def f_X12_isRest_23 (fu n : Nat)  (x0 : Int32) (x1 : Int32) (x2 : Int32) (x3 : Int32) (x4 : Int32) (x5 : Int32) (x6 : Int32) : Int32 → Option (Int32) :=
  lq_1 (fun k23 => f_X12_isRest_23s fu  k23   x0 x1 x2 x3 x4 x5 x6) n
set_option maxHeartbeats 4000000 in
set_option maxRecDepth 100000 in
theorem t_X12_isRest_23s {G : GG} {p : Program} {l : Launch} {e : Env} {s : State} {m : MethodId} {args : Array Value} {below : List Frame} {meth : Method} {c : Code} {S : ST} {fu : Nat} {z : Int32}  {k23 : Int32 → Option (Int32)} {x0 : Int32} {x1 : Int32} {x2 : Int32} {x3 : Int32} {x4 : Int32} {x5 : Int32} {x6 : Int32} (hM : MC G p s m args c cX12_isRest w_X12_isRest RX12) (hml : c.maxLocals = 9) (hr : meth.sig.returnType = (some .boolean)) (hlk : meth.locks = false)   (hk23 : ∀ (x7 : Int32), k23 x7 = some z → ∀ (H : Heap) (locs : List Loc), WB G S s H locs → ∀ (ls : Array Slot), lv_has ls 9 [(0, .int x0), (1, .int x1), (2, .int x2), (3, .int x3), (4, .int x4), (5, .int x5), (6, .int x6), (7, .int x7)] → W p l e RM_X12_isRest s m args below meth c H locs 0 0 (QR G below args s (some (.int z)) S S) (F0 m 23 ls [])) : ∀ (x7 : Int32), f_X12_isRest_23s fu  k23   x0 x1 x2 x3 x4 x5 x6 x7 = some z → ∀ (H : Heap) (locs : List Loc), WB G S s H locs → ∀ (ls : Array Slot), lv_has ls 9 [(0, .int x0), (1, .int x1), (2, .int x2), (3, .int x3), (4, .int x4), (5, .int x5), (6, .int x6), (7, .int x7)] → W p l e RM_X12_isRest s m args below meth c H locs 0 0 (QR G below args s (some (.int z)) S S) (F0 m 23 ls []) := by
  intro x7 hf  H locs hW ls hl
  have hx := hM.1
  have hb := hM.2.1
  refine lv_iload hx hb dX12_isRest_23 (lv_at hl 7 rfl) ?_
  refine lv_bipush (v := (10 : Int32)) hx hb dX12_isRest_25 (by decide) ?_
  refine lv_icmp_ge (tgt := 77) hx hb dX12_isRest_27 (by decide) (fun c1 => ?_) (fun c1 => ?_)
  · have hf := if_t c1 hf
    refine lv_iconst (v := (1 : Int32)) hx hb dX12_isRest_77 (by decide) ?_
    cases hf
    exact W.zret (v := (1 : Int32)) hx hb hr (by decide) (b_ret0 hW (fun _ _ => rfl) _) hW.2.2.2 dX12_isRest_78 hlk
  · have hf := if_f c1 hf
    refine lv_iload_n hx hb dX12_isRest_30 rfl (lv_at hl 0 rfl) ?_
    refine lv_iload_n hx hb dX12_isRest_31 rfl (lv_at hl 2 rfl) ?_
    refine lv_iload hx hb dX12_isRest_32 (lv_at hl 7 rfl) ?_
    refine lv_iload hx hb dX12_isRest_34 (lv_at hl 4 rfl) ?_
    obtain ⟨r2, hr2, hf⟩ := bd_elim hf
    refine s_callSi [.int x0, .int x2, .int x7, .int x4] [] hM hml hl.1 hW (c_X12_firstGain l G fu _ _ _ _ _ hr2) (va_cwS 4 hM.2.2.2.1 (gS mk_RX12_334 sm_X12_firstGain it_RX12 cd_X12_firstGain) rfl rfl rfl (by decide +kernel) ⟨Nat.le_of_ble_eq_true rfl, Nat.le_of_ble_eq_true rfl⟩) rfl rfl (Nat.le_of_ble_eq_true rfl) ⟨Nat.zero_le _, Nat.zero_le _⟩ dX12_isRest_36 (fun H locs hW hk => ?_)
    refine lv_iload hx hb dX12_isRest_39 (lv_at hl 5 rfl) ?_
    refine lv_icmp_le (tgt := 48) hx hb dX12_isRest_41 (by decide) (fun c3 => ?_) (fun c3 => ?_)
    · have hf := if_t c3 hf
      refine lv_iconst (v := (0 : Int32)) hx hb dX12_isRest_48 (by decide) ?_
      exact t_X12_isRest_49 (fu := fu) hM hml hr hlk hk23 hf _ _ hW _ (lv_sub hl [0, 1, 2, 3, 4, 5, 6, 7] rfl)
    · have hf := if_f c3 hf
      refine lv_iconst (v := (1 : Int32)) hx hb dX12_isRest_44 (by decide) ?_
      refine lv_goto (tgt := 49) hx hb dX12_isRest_45 (by decide) ?_
      exact t_X12_isRest_49 (fu := fu) hM hml hr hlk hk23 hf _ _ hW _ (lv_sub hl [0, 1, 2, 3, 4, 5, 6, 7] rfl)
theorem t_X12_isRest_23 {G : GG} {p : Program} {l : Launch} {e : Env} {s : State} {m : MethodId} {args : Array Value} {below : List Frame} {meth : Method} {c : Code} {S : ST} {fu : Nat} {z : Int32}  {x0 : Int32} {x1 : Int32} {x2 : Int32} {x3 : Int32} {x4 : Int32} {x5 : Int32} {x6 : Int32} (hM : MC G p s m args c cX12_isRest w_X12_isRest RX12) (hml : c.maxLocals = 9) (hr : meth.sig.returnType = (some .boolean)) (hlk : meth.locks = false)   : ∀ {n : Nat} (x7 : Int32), f_X12_isRest_23 fu n    x0 x1 x2 x3 x4 x5 x6 x7 = some z → ∀ (H : Heap) (locs : List Loc), WB G S s H locs → ∀ (ls : Array Slot), lv_has ls 9 [(0, .int x0), (1, .int x1), (2, .int x2), (3, .int x3), (4, .int x4), (5, .int x5), (6, .int x6), (7, .int x7)] → W p l e RM_X12_isRest s m args below meth c H locs 0 0 (QR G below args s (some (.int z)) S S) (F0 m 23 ls []) := by
  intro n
  induction n with
  | zero => intro x7 hf; cases hf
  | succ n ih => intro x7 hf; exact t_X12_isRest_23s (fu := fu) hM hml hr hlk (k23 := f_X12_isRest_23 fu n    x0 x1 x2 x3 x4 x5 x6) ih _ hf
noncomputable def f_X12_isRest_0 (fu : Nat)  (x0 : Int32) (x1 : Int32) (x2 : Int32) (x3 : Int32) (x4 : Int32) : Option (Int32) :=
  bd (f_X12_firstGain fu x0 x2 x3 x4) fun r1 =>
  bd (f_X12_secondGain fu x1 x2 x3 x4) fun r2 =>
  f_X12_isRest_23 fu fu x0 x1 x2 x3 x4 r1 r2 (0 : Int32)
set_option maxHeartbeats 4000000 in
set_option maxRecDepth 100000 in
theorem t_X12_isRest_0 {G : GG} {p : Program} {l : Launch} {e : Env} {s : State} {m : MethodId} {args : Array Value} {below : List Frame} {meth : Method} {c : Code} {S : ST} {fu : Nat} {z : Int32}  {x0 : Int32} {x1 : Int32} {x2 : Int32} {x3 : Int32} {x4 : Int32} (hM : MC G p s m args c cX12_isRest w_X12_isRest RX12) (hml : c.maxLocals = 9) (hr : meth.sig.returnType = (some .boolean)) (hlk : meth.locks = false)   (hf : f_X12_isRest_0 fu    x0 x1 x2 x3 x4 = some z) : ∀ (H : Heap) (locs : List Loc), WB G S s H locs → ∀ (ls : Array Slot), lv_has ls 9 [(0, .int x0), (1, .int x1), (2, .int x2), (3, .int x3), (4, .int x4)] → W p l e RM_X12_isRest s m args below meth c H locs 0 0 (QR G below args s (some (.int z)) S S) (F0 m 0 ls []) := by
  intro  H locs hW ls hl
  have hx := hM.1
  have hb := hM.2.1
  refine lv_iload_n hx hb dX12_isRest_0 rfl (lv_at hl 0 rfl) ?_
  refine lv_iload_n hx hb dX12_isRest_1 rfl (lv_at hl 2 rfl) ?_
  refine lv_iload_n hx hb dX12_isRest_2 rfl (lv_at hl 3 rfl) ?_
  refine lv_iload hx hb dX12_isRest_3 (lv_at hl 4 rfl) ?_
  obtain ⟨r1, hr1, hf⟩ := bd_elim hf
  refine s_callSi [.int x0, .int x2, .int x3, .int x4] [] hM hml hl.1 hW (c_X12_firstGain l G fu _ _ _ _ _ hr1) (va_cwS 4 hM.2.2.2.1 (gS mk_RX12_334 sm_X12_firstGain it_RX12 cd_X12_firstGain) rfl rfl rfl (by decide +kernel) ⟨Nat.le_of_ble_eq_true rfl, Nat.le_of_ble_eq_true rfl⟩) rfl rfl (Nat.le_of_ble_eq_true rfl) ⟨Nat.zero_le _, Nat.zero_le _⟩ dX12_isRest_5 (fun H locs hW hk => ?_)
  refine lv_istore (lv' := [(5, .int r1), (0, .int x0), (1, .int x1), (2, .int x2), (3, .int x3), (4, .int x4)]) hx hb dX12_isRest_8 hl (by decide) rfl (fun ls hl => ?_)
  refine lv_iload_n hx hb dX12_isRest_10 rfl (lv_at hl 2 rfl) ?_
  refine lv_iload_n hx hb dX12_isRest_11 rfl (lv_at hl 3 rfl) ?_
  refine lv_iload_n hx hb dX12_isRest_12 rfl (lv_at hl 4 rfl) ?_
  refine lv_iload hx hb dX12_isRest_13 (lv_at hl 5 rfl) ?_
  obtain ⟨r2, hr2, hf⟩ := bd_elim hf
  refine s_callSi [.int x1, .int x2, .int x3, .int x4] [] hM hml hl.1 hW (c_X12_secondGain l G fu _ _ _ _ _ hr2) (va_cwS 4 hM.2.2.2.1 (gS mk_RX12_338 sm_X12_secondGain it_RX12 cd_X12_secondGain) rfl rfl rfl (by decide +kernel) ⟨Nat.le_of_ble_eq_true rfl, Nat.le_of_ble_eq_true rfl⟩) rfl rfl (Nat.le_of_ble_eq_true rfl) ⟨Nat.zero_le _, Nat.zero_le _⟩ dX12_isRest_15 (fun H locs hW hk => ?_)
  refine lv_istore (lv' := [(6, .int r2), (5, .int r1), (0, .int x0), (1, .int x1), (2, .int x2), (3, .int x3), (4, .int x4)]) hx hb dX12_isRest_18 hl (by decide) rfl (fun ls hl => ?_)
  refine lv_iconst (v := (0 : Int32)) hx hb dX12_isRest_20 (by decide) ?_
  refine lv_istore (lv' := [(7, .int (0 : Int32)), (6, .int r2), (5, .int r1), (0, .int x0), (1, .int x1), (2, .int x2), (3, .int x3), (4, .int x4)]) hx hb dX12_isRest_21 hl (by decide) rfl (fun ls hl => ?_)
  exact t_X12_isRest_23 (fu := fu) hM hml hr hlk _ hf _ _ hW _ (lv_sub hl [3, 4, 5, 6, 7, 2, 1, 0] rfl)
noncomputable def f_X12_isRest (fu : Nat) (x0 : Int32) (x1 : Int32) (x2 : Int32) (x3 : Int32) (x4 : Int32) : Option (Int32) := f_X12_isRest_0 fu x0 x1 x2 x3 x4
set_option maxHeartbeats 4000000 in
set_option maxRecDepth 100000 in
theorem c_X12_isRest (l : Launch) (G : GG) (fu : Nat) (S : ST) (x0 : Int32) (x1 : Int32) (x2 : Int32) (x3 : Int32) (x4 : Int32) {z : Int32} (hf : f_X12_isRest fu x0 x1 x2 x3 x4 = some z) : Ct l yX12_isRest w_X12_isRest RM_X12_isRest G S [.int x0, .int x1, .int x2, .int x3, .int x4] (some (.int z)) S 0 0 := by
  refine Met.ofW (cc := cX12_isRest) (maxL := 9) (ret := (some .boolean)) (by decide) rfl ?_
  intro p e s m args below meth c s₁ B hml hv
  obtain ⟨rfl, hB, hK, hz⟩ := hv
  have hM : MC G p s m _ c cX12_isRest w_X12_isRest RX12 := ⟨B.exec, B.bytes, findClass_of_methodNamed B.named, atoms_spec (ws := w_X12_isRest) B.pre, hK, hz⟩
  have hW : WB G S s s.heap [] := ⟨hB, va_S.rf⟩
  have hl := lv_entry ([.int x0, .int x1, .int x2, .int x3, .int x4]) (n := 9) (Nat.le_of_ble_eq_true rfl)
  rw [lg_entry_eq]
  generalize (lg_sl ([.int x0, .int x1, .int x2, .int x3, .int x4]) ++ List.replicate (9 - (lg_sl ([.int x0, .int x1, .int x2, .int x3, .int x4])).length) Slot.unset).toArray = ls at hl ⊢
  have hl : lv_has ls 9 [(0, .int x0), (1, .int x1), (2, .int x2), (3, .int x3), (4, .int x4)] := hl
  exact t_X12_isRest_0 (fu := fu) hM hml B.returns B.notSynchronized hf _ _ hW _ (lv_sub hl [0, 1, 2, 3, 4] rfl)
abbrev RM_X12_isFewer : Room := { frames := 1, cells := 0, slots := 0, locals := 20 }
abbrev w_X12_isFewer : List Cond := Cond.code yX12_isFewer cX12_isFewer 3 (some .boolean) :: wsL_law0
noncomputable def f_X12_isFewer_34 (fu : Nat)  : Option (Int32) :=
  some ((0 : Int32))
set_option maxHeartbeats 4000000 in
set_option maxRecDepth 100000 in
theorem t_X12_isFewer_34 {G : GG} {p : Program} {l : Launch} {e : Env} {s : State} {m : MethodId} {args : Array Value} {below : List Frame} {meth : Method} {c : Code} {S : ST} {fu : Nat} {z : Int32}  (hM : MC G p s m args c cX12_isFewer w_X12_isFewer RX12) (hml : c.maxLocals = 3) (hr : meth.sig.returnType = (some .boolean)) (hlk : meth.locks = false)   (hf : f_X12_isFewer_34 fu     = some z) : ∀ (H : Heap) (locs : List Loc), WB G S s H locs → ∀ (ls : Array Slot), lv_has ls 3 [] → W p l e RM_X12_isFewer s m args below meth c H locs 0 0 (QR G below args s (some (.int z)) S S) (F0 m 34 ls []) := by
  intro  H locs hW ls hl
  have hx := hM.1
  have hb := hM.2.1
  refine lv_iconst (v := (0 : Int32)) hx hb dX12_isFewer_34 (by decide) ?_
  cases hf
  exact W.zret (v := (0 : Int32)) hx hb hr (by decide) (b_ret0 hW (fun _ _ => rfl) _) hW.2.2.2 dX12_isFewer_35 hlk
noncomputable def f_X12_isFewer_30 (fu : Nat)  : Option (Int32) :=
  some ((1 : Int32))
set_option maxHeartbeats 4000000 in
set_option maxRecDepth 100000 in
theorem t_X12_isFewer_30 {G : GG} {p : Program} {l : Launch} {e : Env} {s : State} {m : MethodId} {args : Array Value} {below : List Frame} {meth : Method} {c : Code} {S : ST} {fu : Nat} {z : Int32}  (hM : MC G p s m args c cX12_isFewer w_X12_isFewer RX12) (hml : c.maxLocals = 3) (hr : meth.sig.returnType = (some .boolean)) (hlk : meth.locks = false)   (hf : f_X12_isFewer_30 fu     = some z) : ∀ (H : Heap) (locs : List Loc), WB G S s H locs → ∀ (ls : Array Slot), lv_has ls 3 [] → W p l e RM_X12_isFewer s m args below meth c H locs 0 0 (QR G below args s (some (.int z)) S S) (F0 m 30 ls []) := by
  intro  H locs hW ls hl
  have hx := hM.1
  have hb := hM.2.1
  refine lv_iconst (v := (1 : Int32)) hx hb dX12_isFewer_30 (by decide) ?_
  refine lv_goto (tgt := 35) hx hb dX12_isFewer_31 (by decide) ?_
  cases hf
  exact W.zret (v := (1 : Int32)) hx hb hr (by decide) (b_ret0 hW (fun _ _ => rfl) _) hW.2.2.2 dX12_isFewer_35 hlk
noncomputable def f_X12_isFewer_0 (fu : Nat)  (x0 : Int32) (x1 : Int32) : Option (Int32) :=
  if x1 = (-1 : Int32) then
    (some ((1 : Int32)))
  else
    (bd (f_J6_bitCount_0f7a4 fu x0) fun r2 =>
    bd (f_J6_bitCount_0f7a4 fu x1) fun r3 =>
    nm ((r2 - r3)) fun y4 =>
    if y4 < 0 then
      (f_X12_isFewer_30 fu)
    else
      (if y4 = 0 then
        (if x1 ≤ x0 then
          (f_X12_isFewer_34 fu)
        else
          (f_X12_isFewer_30 fu))
      else
        (f_X12_isFewer_34 fu)))
set_option maxHeartbeats 4000000 in
set_option maxRecDepth 100000 in
theorem t_X12_isFewer_0 {G : GG} {p : Program} {l : Launch} {e : Env} {s : State} {m : MethodId} {args : Array Value} {below : List Frame} {meth : Method} {c : Code} {S : ST} {fu : Nat} {z : Int32}  {x0 : Int32} {x1 : Int32} (hM : MC G p s m args c cX12_isFewer w_X12_isFewer RX12) (hml : c.maxLocals = 3) (hr : meth.sig.returnType = (some .boolean)) (hlk : meth.locks = false)   (hf : f_X12_isFewer_0 fu    x0 x1 = some z) : ∀ (H : Heap) (locs : List Loc), WB G S s H locs → ∀ (ls : Array Slot), lv_has ls 3 [(0, .int x0), (1, .int x1)] → W p l e RM_X12_isFewer s m args below meth c H locs 0 0 (QR G below args s (some (.int z)) S S) (F0 m 0 ls []) := by
  intro  H locs hW ls hl
  have hx := hM.1
  have hb := hM.2.1
  refine lv_iload_n hx hb dX12_isFewer_0 rfl (lv_at hl 1 rfl) ?_
  refine lv_iconst (v := (-1 : Int32)) hx hb dX12_isFewer_1 (by decide) ?_
  refine lv_icmp_ne (tgt := 7) hx hb dX12_isFewer_2 (by decide) (fun c1 => ?_) (fun c1 => ?_)
  · have hf := if_f c1 hf
    refine lv_iload_n hx hb dX12_isFewer_7 rfl (lv_at hl 0 rfl) ?_
    obtain ⟨r2, hr2, hf⟩ := bd_elim hf
    refine s_callSi [.int x0] [] hM hml hl.1 hW (c_J6_bitCount_0f7a4 l G fu _ _ hr2) (va_cwS 1 hM.2.2.2.1 (gS mk_RX12_248 sm_J6_bitCount_0f7a4 it_RJ6 cd_J6_bitCount_0f7a4) rfl rfl rfl (by decide +kernel) ⟨Nat.le_of_ble_eq_true rfl, Nat.le_of_ble_eq_true rfl⟩) rfl rfl (Nat.le_of_ble_eq_true rfl) ⟨Nat.zero_le _, Nat.zero_le _⟩ dX12_isFewer_8 (fun H locs hW hk => ?_)
    refine lv_iload_n hx hb dX12_isFewer_11 rfl (lv_at hl 1 rfl) ?_
    obtain ⟨r3, hr3, hf⟩ := bd_elim hf
    refine s_callSi [.int x1] [.int r2] hM hml hl.1 hW (c_J6_bitCount_0f7a4 l G fu _ _ hr3) (va_cwS 1 hM.2.2.2.1 (gS mk_RX12_248 sm_J6_bitCount_0f7a4 it_RJ6 cd_J6_bitCount_0f7a4) rfl rfl rfl (by decide +kernel) ⟨Nat.le_of_ble_eq_true rfl, Nat.le_of_ble_eq_true rfl⟩) rfl rfl (Nat.le_of_ble_eq_true rfl) ⟨Nat.zero_le _, Nat.zero_le _⟩ dX12_isFewer_12 (fun H locs hW hk => ?_)
    refine lv_isub hx hb dX12_isFewer_15 ?_
    refine lv_topi (fun y4 ey4 => ?_)
    have hf := nm_at ey4 hf
    refine lv_istore_n (lv' := [(2, .int y4), (0, .int x0), (1, .int x1)]) hx hb dX12_isFewer_16 rfl hl (by decide) rfl (fun ls hl => ?_)
    refine lv_iload_n hx hb dX12_isFewer_17 rfl (lv_at hl 0 rfl) ?_
    refine lv_if_lt (tgt := 30) hx hb dX12_isFewer_18 (by decide) (fun c5 => ?_) (fun c5 => ?_)
    · have hf := if_t c5 hf
      exact t_X12_isFewer_30 (fu := fu) hM hml hr hlk hf _ _ hW _ (lv_sub hl [] rfl)
    · have hf := if_f c5 hf
      refine lv_iload_n hx hb dX12_isFewer_21 rfl (lv_at hl 0 rfl) ?_
      refine lv_if_ne (tgt := 34) hx hb dX12_isFewer_22 (by decide) (fun c6 => ?_) (fun c6 => ?_)
      · have hf := if_f c6 hf
        exact t_X12_isFewer_34 (fu := fu) hM hml hr hlk hf _ _ hW _ (lv_sub hl [] rfl)
      · have hf := if_t c6 hf
        refine lv_iload_n hx hb dX12_isFewer_25 rfl (lv_at hl 1 rfl) ?_
        refine lv_iload_n hx hb dX12_isFewer_26 rfl (lv_at hl 2 rfl) ?_
        refine lv_icmp_ge (tgt := 34) hx hb dX12_isFewer_27 (by decide) (fun c7 => ?_) (fun c7 => ?_)
        · have hf := if_t c7 hf
          exact t_X12_isFewer_34 (fu := fu) hM hml hr hlk hf _ _ hW _ (lv_sub hl [] rfl)
        · have hf := if_f c7 hf
          exact t_X12_isFewer_30 (fu := fu) hM hml hr hlk hf _ _ hW _ (lv_sub hl [] rfl)
  · have hf := if_t c1 hf
    refine lv_iconst (v := (1 : Int32)) hx hb dX12_isFewer_5 (by decide) ?_
    cases hf
    exact W.zret (v := (1 : Int32)) hx hb hr (by decide) (b_ret0 hW (fun _ _ => rfl) _) hW.2.2.2 dX12_isFewer_6 hlk
noncomputable def f_X12_isFewer (fu : Nat) (x0 : Int32) (x1 : Int32) : Option (Int32) := f_X12_isFewer_0 fu x0 x1
set_option maxHeartbeats 4000000 in
set_option maxRecDepth 100000 in
theorem c_X12_isFewer (l : Launch) (G : GG) (fu : Nat) (S : ST) (x0 : Int32) (x1 : Int32) {z : Int32} (hf : f_X12_isFewer fu x0 x1 = some z) : Ct l yX12_isFewer w_X12_isFewer RM_X12_isFewer G S [.int x0, .int x1] (some (.int z)) S 0 0 := by
  refine Met.ofW (cc := cX12_isFewer) (maxL := 3) (ret := (some .boolean)) (by decide) rfl ?_
  intro p e s m args below meth c s₁ B hml hv
  obtain ⟨rfl, hB, hK, hz⟩ := hv
  have hM : MC G p s m _ c cX12_isFewer w_X12_isFewer RX12 := ⟨B.exec, B.bytes, findClass_of_methodNamed B.named, atoms_spec (ws := w_X12_isFewer) B.pre, hK, hz⟩
  have hW : WB G S s s.heap [] := ⟨hB, va_S.rf⟩
  have hl := lv_entry ([.int x0, .int x1]) (n := 3) (Nat.le_of_ble_eq_true rfl)
  rw [lg_entry_eq]
  generalize (lg_sl ([.int x0, .int x1]) ++ List.replicate (3 - (lg_sl ([.int x0, .int x1])).length) Slot.unset).toArray = ls at hl ⊢
  have hl : lv_has ls 3 [(0, .int x0), (1, .int x1)] := hl
  exact t_X12_isFewer_0 (fu := fu) hM hml B.returns B.notSynchronized hf _ _ hW _ (lv_sub hl [0, 1] rfl)
abbrev RM_X12_setWatches : Room := { frames := 2, cells := 0, slots := 0, locals := 42 }
abbrev w_X12_setWatches : List Cond := Cond.code yX12_setWatches cX12_setWatches 5 none :: wsL_law0
noncomputable def f_X12_setWatches_106 (fu : Nat) (k17 : Int32 → ST → Option (ST)) (k34 : Int32 → ST → Option (ST)) (S : ST) (a : Nat) (x1 : Int32) (x2 : Int32) (x3 : Int32) : Option (ST) :=
  nm (x3 + (1 : Int32)) fun y1 =>
  k34 y1 S
set_option maxHeartbeats 4000000 in
set_option maxRecDepth 100000 in
theorem t_X12_setWatches_106 {G : GG} {p : Program} {l : Launch} {e : Env} {s : State} {m : MethodId} {args : Array Value} {below : List Frame} {meth : Method} {c : Code} {S0 : ST} {fu : Nat} {z : ST} {a : Nat} {k17 : Int32 → ST → Option (ST)} {k34 : Int32 → ST → Option (ST)} {S : ST} {x1 : Int32} {x2 : Int32} {x3 : Int32} (hM : MC G p s m args c cX12_setWatches w_X12_setWatches RX12) (hml : c.maxLocals = 5) (hr : meth.sig.returnType = none) (hlk : meth.locks = false)  (hk17 : ∀ (x1 : Int32) (S : ST), k17 x1 S = some z → (gC (S a) = 11) → (∀ b, gC (S0 b) ≠ 0 → gC (S b) = gC (S0 b)) → ∀ (H : Heap) (locs : List Loc), WB G S s H locs → ∀ (ls : Array Slot), lv_has ls 5 [(0, .ref a), (1, .int x1)] → W p l e RM_X12_setWatches s m args below meth c H locs 0 0 (QR G below args s none S0 z) (F0 m 17 ls [])) (hk34 : ∀ (x3 : Int32) (S : ST), k34 x3 S = some z → (gC (S a) = 11) → (∀ b, gC (S0 b) ≠ 0 → gC (S b) = gC (S0 b)) → ∀ (H : Heap) (locs : List Loc), WB G S s H locs → ∀ (ls : Array Slot), lv_has ls 5 [(0, .ref a), (1, .int x1), (2, .int x2), (3, .int x3)] → W p l e RM_X12_setWatches s m args below meth c H locs 0 0 (QR G below args s none S0 z) (F0 m 34 ls [])) (hf : f_X12_setWatches_106 fu k17 k34 S a x1 x2 x3 = some z) : (gC (S a) = 11) → (∀ b, gC (S0 b) ≠ 0 → gC (S b) = gC (S0 b)) → ∀ (H : Heap) (locs : List Loc), WB G S s H locs → ∀ (ls : Array Slot), lv_has ls 5 [(0, .ref a), (1, .int x1), (2, .int x2), (3, .int x3)] → W p l e RM_X12_setWatches s m args below meth c H locs 0 0 (QR G below args s none S0 z) (F0 m 106 ls []) := by
  intro ha hK0 H locs hW ls hl
  have hx := hM.1
  have hb := hM.2.1
  obtain ⟨y1, ey1⟩ : ∃ y : Int32, y = x3 + (1 : Int32) := ⟨_, rfl⟩
  have hf := nm_at ey1 hf
  refine lv_iinc (v := y1) (lv' := [(3, .int y1), (0, .ref a), (1, .int x1), (2, .int x2)]) hx hb dX12_setWatches_106 hl (k := 3) rfl (by rw [ey1]; rfl) (by decide) rfl (fun ls hl => ?_)
  refine lv_goto (tgt := 34) hx hb dX12_setWatches_109 (by decide) ?_
  exact hk34 _ _ hf ha hK0 _ _ hW _ (lv_sub hl [1, 2, 3, 0] rfl)
noncomputable def f_X12_setWatches_34s (fu : Nat) (k17 : Int32 → ST → Option (ST)) (k34 : Int32 → ST → Option (ST)) (a : Nat) (x1 : Int32) (x2 : Int32) (x3 : Int32) (S : ST) : Option (ST) :=
  if (32 : Int32) ≤ x3 then
    (nm (x1 + (1 : Int32)) fun y2 =>
    k17 y2 S)
  else
    (nm (((x3 ||| x2) &&& ((32 : Int32) - (1 : Int32)))) fun y3 =>
    ck (inb x3 32) <|
    if (gA (S a) 9 x3.toNatClampNeg) = (-1 : Int32) then
      (f_X12_setWatches_106 fu k17 k34 S a x1 x2 x3)
    else
      (ck (inb x3 32) <|
      ck (inb y3 32) <|
      bd (f_X12_isFewer fu ((gA (S a) 9 x3.toNatClampNeg) ||| ((1 : Int32) <<< (x1 &&& 31))) (gA (S a) 9 y3.toNatClampNeg)) fun r8 =>
      if r8 = 0 then
        (f_X12_setWatches_106 fu k17 k34 S a x1 x2 x3)
      else
        (ck (inb x3 32) <|
        nm (((gA (S a) 9 x3.toNatClampNeg) ||| ((1 : Int32) <<< (x1 &&& 31)))) fun y11 =>
        ck (inb y3 32) <|
        nm (st S a (sA (S a) 9 y3.toNatClampNeg y11)) fun S13 =>
        f_X12_setWatches_106 fu k17 k34 S13 a x1 x2 x3)))
noncomputable def f_X12_setWatches_34 (fu n : Nat) (k17 : Int32 → ST → Option (ST)) (a : Nat) (x1 : Int32) (x2 : Int32) : Int32 → ST → Option (ST) :=
  lq_2 (fun k34 => f_X12_setWatches_34s fu k17 k34  a x1 x2) n
set_option maxHeartbeats 4000000 in
set_option maxRecDepth 100000 in
theorem t_X12_setWatches_34s {G : GG} {p : Program} {l : Launch} {e : Env} {s : State} {m : MethodId} {args : Array Value} {below : List Frame} {meth : Method} {c : Code} {S0 : ST} {fu : Nat} {z : ST} {a : Nat} {k17 : Int32 → ST → Option (ST)} {k34 : Int32 → ST → Option (ST)} {x1 : Int32} {x2 : Int32} (hM : MC G p s m args c cX12_setWatches w_X12_setWatches RX12) (hml : c.maxLocals = 5) (hr : meth.sig.returnType = none) (hlk : meth.locks = false)  (hk17 : ∀ (x1 : Int32) (S : ST), k17 x1 S = some z → (gC (S a) = 11) → (∀ b, gC (S0 b) ≠ 0 → gC (S b) = gC (S0 b)) → ∀ (H : Heap) (locs : List Loc), WB G S s H locs → ∀ (ls : Array Slot), lv_has ls 5 [(0, .ref a), (1, .int x1)] → W p l e RM_X12_setWatches s m args below meth c H locs 0 0 (QR G below args s none S0 z) (F0 m 17 ls [])) (hk34 : ∀ (x3 : Int32) (S : ST), k34 x3 S = some z → (gC (S a) = 11) → (∀ b, gC (S0 b) ≠ 0 → gC (S b) = gC (S0 b)) → ∀ (H : Heap) (locs : List Loc), WB G S s H locs → ∀ (ls : Array Slot), lv_has ls 5 [(0, .ref a), (1, .int x1), (2, .int x2), (3, .int x3)] → W p l e RM_X12_setWatches s m args below meth c H locs 0 0 (QR G below args s none S0 z) (F0 m 34 ls [])) : ∀ (x3 : Int32) (S : ST), f_X12_setWatches_34s fu k17 k34  a x1 x2 x3 S = some z → (gC (S a) = 11) → (∀ b, gC (S0 b) ≠ 0 → gC (S b) = gC (S0 b)) → ∀ (H : Heap) (locs : List Loc), WB G S s H locs → ∀ (ls : Array Slot), lv_has ls 5 [(0, .ref a), (1, .int x1), (2, .int x2), (3, .int x3)] → W p l e RM_X12_setWatches s m args below meth c H locs 0 0 (QR G below args s none S0 z) (F0 m 34 ls []) := by
  intro x3 S hf ha hK0 H locs hW ls hl
  have hx := hM.1
  have hb := hM.2.1
  refine lv_iload_n hx hb dX12_setWatches_34 rfl (lv_at hl 3 rfl) ?_
  refine lv_aload_n hx hb dX12_setWatches_35 rfl (lv_at hl 0 rfl) ?_
  refine b_get hM (hW.at_ a) 10 9 ha rfl rfl (by decide) wi_X12 (wgm fk_RX12_63) (x := .ref (a + 40)) rfl dX12_setWatches_36 ?_
  refine b_alen (n := 32) hM (hW.at_ a) 10 9 0 ha (by decide) rfl rfl (by decide) rfl rfl (x := (32 : Int32)) (by decide) dX12_setWatches_39 ?_
  refine lv_icmp_ge (tgt := 112) hx hb dX12_setWatches_40 (by decide) (fun c1 => ?_) (fun c1 => ?_)
  · have hf := if_t c1 hf
    obtain ⟨y2, ey2⟩ : ∃ y : Int32, y = x1 + (1 : Int32) := ⟨_, rfl⟩
    have hf := nm_at ey2 hf
    refine lv_iinc (v := y2) (lv' := [(1, .int y2), (0, .ref a), (2, .int x2), (3, .int x3)]) hx hb dX12_setWatches_112 hl (k := 1) rfl (by rw [ey2]; rfl) (by decide) rfl (fun ls hl => ?_)
    refine lv_goto (tgt := 17) hx hb dX12_setWatches_115 (by decide) ?_
    exact hk17 _ _ hf ha hK0 _ _ hW _ (lv_sub hl [1, 0] rfl)
  · have hf := if_f c1 hf
    refine lv_iload_n hx hb dX12_setWatches_43 rfl (lv_at hl 3 rfl) ?_
    refine lv_iload_n hx hb dX12_setWatches_44 rfl (lv_at hl 2 rfl) ?_
    refine lv_ior hx hb dX12_setWatches_45 ?_
    refine lv_aload_n hx hb dX12_setWatches_46 rfl (lv_at hl 0 rfl) ?_
    refine b_get hM (hW.at_ a) 10 9 ha rfl rfl (by decide) wi_X12 (wgm fk_RX12_63) (x := .ref (a + 40)) rfl dX12_setWatches_47 ?_
    refine b_alen (n := 32) hM (hW.at_ a) 10 9 0 ha (by decide) rfl rfl (by decide) rfl rfl (x := (32 : Int32)) (by decide) dX12_setWatches_50 ?_
    refine lv_iconst (v := (1 : Int32)) hx hb dX12_setWatches_51 (by decide) ?_
    refine lv_isub hx hb dX12_setWatches_52 ?_
    refine lv_iand hx hb dX12_setWatches_53 ?_
    refine lv_topi (fun y3 ey3 => ?_)
    have hf := nm_at ey3 hf
    refine lv_istore (lv' := [(4, .int y3), (0, .ref a), (1, .int x1), (2, .int x2), (3, .int x3)]) hx hb dX12_setWatches_54 hl (by decide) rfl (fun ls hl => ?_)
    refine lv_aload_n hx hb dX12_setWatches_56 rfl (lv_at hl 1 rfl) ?_
    refine b_get hM (hW.at_ a) 10 9 ha rfl rfl (by decide) wi_X12 (wgm fk_RX12_63) (x := .ref (a + 40)) rfl dX12_setWatches_57 ?_
    refine lv_iload_n hx hb dX12_setWatches_60 rfl (lv_at hl 4 rfl) ?_
    obtain ⟨h4, hf⟩ := ck_elim hf
    refine b_iald (n := 32) hM (hW.at_ a) 10 9 ha (by decide) rfl rfl rfl rfl h4 dX12_setWatches_61 ?_
    refine lv_iconst (v := (-1 : Int32)) hx hb dX12_setWatches_62 (by decide) ?_
    refine lv_icmp_eq (tgt := 106) hx hb dX12_setWatches_63 (by decide) (fun c5 => ?_) (fun c5 => ?_)
    · have hf := if_t c5 hf
      exact t_X12_setWatches_106 (fu := fu) hM hml hr hlk hk17 hk34 hf ha hK0 _ _ hW _ (lv_sub hl [1, 2, 3, 4] rfl)
    · have hf := if_f c5 hf
      refine lv_aload_n hx hb dX12_setWatches_66 rfl (lv_at hl 1 rfl) ?_
      refine b_get hM (hW.at_ a) 10 9 ha rfl rfl (by decide) wi_X12 (wgm fk_RX12_63) (x := .ref (a + 40)) rfl dX12_setWatches_67 ?_
      refine lv_iload_n hx hb dX12_setWatches_70 rfl (lv_at hl 4 rfl) ?_
      obtain ⟨h6, hf⟩ := ck_elim hf
      refine b_iald (n := 32) hM (hW.at_ a) 10 9 ha (by decide) rfl rfl rfl rfl h6 dX12_setWatches_71 ?_
      refine lv_iconst (v := (1 : Int32)) hx hb dX12_setWatches_72 (by decide) ?_
      refine lv_iload_n hx hb dX12_setWatches_73 rfl (lv_at hl 2 rfl) ?_
      refine lv_ishl hx hb dX12_setWatches_74 ?_
      refine lv_ior hx hb dX12_setWatches_75 ?_
      refine lv_aload_n hx hb dX12_setWatches_76 rfl (lv_at hl 1 rfl) ?_
      refine b_get hM (hW.at_ a) 10 9 ha rfl rfl (by decide) wi_X12 (wgm fk_RX12_63) (x := .ref (a + 40)) rfl dX12_setWatches_77 ?_
      refine lv_iload hx hb dX12_setWatches_80 (lv_at hl 0 rfl) ?_
      obtain ⟨h7, hf⟩ := ck_elim hf
      refine b_iald (n := 32) hM (hW.at_ a) 10 9 ha (by decide) rfl rfl rfl rfl h7 dX12_setWatches_82 ?_
      obtain ⟨r8, hr8, hf⟩ := bd_elim hf
      refine s_callSi [.int ((gA (S a) 9 x3.toNatClampNeg) ||| ((1 : Int32) <<< (x1 &&& 31))), .int (gA (S a) 9 y3.toNatClampNeg)] [] hM hml hl.1 hW (c_X12_isFewer l G fu _ _ _ hr8) (va_cwS 2 hM.2.2.2.1 (gS mk_RX12_344 sm_X12_isFewer it_RX12 cd_X12_isFewer) rfl rfl rfl (by decide +kernel) ⟨Nat.le_of_ble_eq_true rfl, Nat.le_of_ble_eq_true rfl⟩) rfl rfl (Nat.le_of_ble_eq_true rfl) ⟨Nat.zero_le _, Nat.zero_le _⟩ dX12_setWatches_83 (fun H locs hW hk => ?_)
      refine lv_if_eq (tgt := 106) hx hb dX12_setWatches_86 (by decide) (fun c9 => ?_) (fun c9 => ?_)
      · have hf := if_t c9 hf
        exact t_X12_setWatches_106 (fu := fu) hM hml hr hlk hk17 hk34 hf ha hK0 _ _ hW _ (lv_sub hl [1, 2, 3, 4] rfl)
      · have hf := if_f c9 hf
        refine lv_aload_n hx hb dX12_setWatches_89 rfl (lv_at hl 1 rfl) ?_
        refine b_get hM (hW.at_ a) 10 9 ha rfl rfl (by decide) wi_X12 (wgm fk_RX12_63) (x := .ref (a + 40)) rfl dX12_setWatches_90 ?_
        refine lv_iload hx hb dX12_setWatches_93 (lv_at hl 0 rfl) ?_
        refine lv_aload_n hx hb dX12_setWatches_95 rfl (lv_at hl 1 rfl) ?_
        refine b_get hM (hW.at_ a) 10 9 ha rfl rfl (by decide) wi_X12 (wgm fk_RX12_63) (x := .ref (a + 40)) rfl dX12_setWatches_96 ?_
        refine lv_iload_n hx hb dX12_setWatches_99 rfl (lv_at hl 4 rfl) ?_
        obtain ⟨h10, hf⟩ := ck_elim hf
        refine b_iald (n := 32) hM (hW.at_ a) 10 9 ha (by decide) rfl rfl rfl rfl h10 dX12_setWatches_100 ?_
        refine lv_iconst (v := (1 : Int32)) hx hb dX12_setWatches_101 (by decide) ?_
        refine lv_iload_n hx hb dX12_setWatches_102 rfl (lv_at hl 2 rfl) ?_
        refine lv_ishl hx hb dX12_setWatches_103 ?_
        refine lv_ior hx hb dX12_setWatches_104 ?_
        refine lv_topi (fun y11 ey11 => ?_)
        have hf := nm_at ey11 hf
        obtain ⟨h12, hf⟩ := ck_elim hf
        refine s_iast (n := 32) hM hW 10 9 ha (by decide) rfl rfl rfl rfl h12 dX12_setWatches_105 (fun S13 eS13 hk H locs hW => ?_)
        have hf := nm_at eS13 hf
        have ha := keep1 hk ha
        have hK0 := keep_tr hK0 hk
        exact t_X12_setWatches_106 (fu := fu) hM hml hr hlk hk17 hk34 hf ha hK0 _ _ hW _ (lv_sub hl [1, 2, 3, 4] rfl)
theorem t_X12_setWatches_34 {G : GG} {p : Program} {l : Launch} {e : Env} {s : State} {m : MethodId} {args : Array Value} {below : List Frame} {meth : Method} {c : Code} {S0 : ST} {fu : Nat} {z : ST} {a : Nat} {k17 : Int32 → ST → Option (ST)} {x1 : Int32} {x2 : Int32} (hM : MC G p s m args c cX12_setWatches w_X12_setWatches RX12) (hml : c.maxLocals = 5) (hr : meth.sig.returnType = none) (hlk : meth.locks = false)  (hk17 : ∀ (x1 : Int32) (S : ST), k17 x1 S = some z → (gC (S a) = 11) → (∀ b, gC (S0 b) ≠ 0 → gC (S b) = gC (S0 b)) → ∀ (H : Heap) (locs : List Loc), WB G S s H locs → ∀ (ls : Array Slot), lv_has ls 5 [(0, .ref a), (1, .int x1)] → W p l e RM_X12_setWatches s m args below meth c H locs 0 0 (QR G below args s none S0 z) (F0 m 17 ls [])) : ∀ {n : Nat} (x3 : Int32) (S : ST), f_X12_setWatches_34 fu n k17  a x1 x2 x3 S = some z → (gC (S a) = 11) → (∀ b, gC (S0 b) ≠ 0 → gC (S b) = gC (S0 b)) → ∀ (H : Heap) (locs : List Loc), WB G S s H locs → ∀ (ls : Array Slot), lv_has ls 5 [(0, .ref a), (1, .int x1), (2, .int x2), (3, .int x3)] → W p l e RM_X12_setWatches s m args below meth c H locs 0 0 (QR G below args s none S0 z) (F0 m 34 ls []) := by
  intro n
  induction n with
  | zero => intro x3 S hf; cases hf
  | succ n ih => intro x3 S hf; exact t_X12_setWatches_34s (fu := fu) hM hml hr hlk hk17 (k34 := f_X12_setWatches_34 fu n k17  a x1 x2) ih _ _ hf
noncomputable def f_X12_setWatches_17s (fu : Nat)  (k17 : Int32 → ST → Option (ST)) (a : Nat) (x1 : Int32) (S : ST) : Option (ST) :=
  if (24 : Int32) ≤ x1 then
    (some S)
  else
    (bd (gR (S a) 12) fun q2 =>
    ck (decide (gC (S q2) = 1)) <|
    bd (f_X1_thievesAt fu (S q2) x1) fun r4 =>
    f_X12_setWatches_34 fu fu k17 a x1 r4 (0 : Int32) S)
noncomputable def f_X12_setWatches_17 (fu n : Nat)  (a : Nat) : Int32 → ST → Option (ST) :=
  lq_2 (fun k17 => f_X12_setWatches_17s fu  k17  a) n
set_option maxHeartbeats 4000000 in
set_option maxRecDepth 100000 in
theorem t_X12_setWatches_17s {G : GG} {p : Program} {l : Launch} {e : Env} {s : State} {m : MethodId} {args : Array Value} {below : List Frame} {meth : Method} {c : Code} {S0 : ST} {fu : Nat} {z : ST} {a : Nat}  {k17 : Int32 → ST → Option (ST)} (hM : MC G p s m args c cX12_setWatches w_X12_setWatches RX12) (hml : c.maxLocals = 5) (hr : meth.sig.returnType = none) (hlk : meth.locks = false)   (hk17 : ∀ (x1 : Int32) (S : ST), k17 x1 S = some z → (gC (S a) = 11) → (∀ b, gC (S0 b) ≠ 0 → gC (S b) = gC (S0 b)) → ∀ (H : Heap) (locs : List Loc), WB G S s H locs → ∀ (ls : Array Slot), lv_has ls 5 [(0, .ref a), (1, .int x1)] → W p l e RM_X12_setWatches s m args below meth c H locs 0 0 (QR G below args s none S0 z) (F0 m 17 ls [])) : ∀ (x1 : Int32) (S : ST), f_X12_setWatches_17s fu  k17  a x1 S = some z → (gC (S a) = 11) → (∀ b, gC (S0 b) ≠ 0 → gC (S b) = gC (S0 b)) → ∀ (H : Heap) (locs : List Loc), WB G S s H locs → ∀ (ls : Array Slot), lv_has ls 5 [(0, .ref a), (1, .int x1)] → W p l e RM_X12_setWatches s m args below meth c H locs 0 0 (QR G below args s none S0 z) (F0 m 17 ls []) := by
  intro x1 S hf ha hK0 H locs hW ls hl
  have hx := hM.1
  have hb := hM.2.1
  refine lv_iload_n hx hb dX12_setWatches_17 rfl (lv_at hl 1 rfl) ?_
  refine lv_bipush (v := (24 : Int32)) hx hb dX12_setWatches_18 (by decide) ?_
  refine lv_icmp_ge (tgt := 118) hx hb dX12_setWatches_20 (by decide) (fun c1 => ?_) (fun c1 => ?_)
  · have hf := if_t c1 hf
    cases hf
    exact W.vret hx hb hr (b_ret0 hW hK0 _) hW.2.2.2 dX12_setWatches_118 hlk
  · have hf := if_f c1 hf
    refine lv_aload_n hx hb dX12_setWatches_23 rfl (lv_at hl 0 rfl) ?_
    obtain ⟨q2, hq2, hf⟩ := bd_elim hf
    refine b_get hM (hW.at_ a) 10 12 ha rfl rfl (by decide) wi_X12 (wgm fk_RX12_76) (x := .ref q2) (by show va_rf _ = _; rw [hq2]; rfl) dX12_setWatches_24 ?_
    obtain ⟨h3, hf⟩ := ck_elim hf
    have h3 := of_decide_eq_true h3
    refine lv_iload_n hx hb dX12_setWatches_27 rfl (lv_at hl 1 rfl) ?_
    obtain ⟨r4, hr4, hf⟩ := bd_elim hf
    refine s_callVi [.int x1] [] hM hml hl.1 hW h3 rfl (by decide) (Ct_rd (c_X1_thievesAt l G fu _ q2 (S q2) _ h3 hr4)) (cwV 1 hM.2.2.2.1 (gV mk_RX12_354 im_X1_thievesAt se_X1_thievesAt it_RX1 cd_X1_thievesAt) rfl rfl rfl (by decide +kernel) ⟨Nat.le_of_ble_eq_true rfl, Nat.le_of_ble_eq_true rfl⟩) rfl rfl (Nat.le_of_ble_eq_true rfl) ⟨Nat.zero_le _, Nat.zero_le _⟩ dX12_setWatches_28 (fun H locs hW hk => ?_)
    refine lv_istore_n (lv' := [(2, .int r4), (0, .ref a), (1, .int x1)]) hx hb dX12_setWatches_31 rfl hl (by decide) rfl (fun ls hl => ?_)
    refine lv_iconst (v := (0 : Int32)) hx hb dX12_setWatches_32 (by decide) ?_
    refine lv_istore_n (lv' := [(3, .int (0 : Int32)), (2, .int r4), (0, .ref a), (1, .int x1)]) hx hb dX12_setWatches_33 rfl hl (by decide) rfl (fun ls hl => ?_)
    exact t_X12_setWatches_34 (fu := fu) hM hml hr hlk hk17 _ _ hf ha hK0 _ _ hW _ (lv_sub hl [2, 3, 1, 0] rfl)
theorem t_X12_setWatches_17 {G : GG} {p : Program} {l : Launch} {e : Env} {s : State} {m : MethodId} {args : Array Value} {below : List Frame} {meth : Method} {c : Code} {S0 : ST} {fu : Nat} {z : ST} {a : Nat}  (hM : MC G p s m args c cX12_setWatches w_X12_setWatches RX12) (hml : c.maxLocals = 5) (hr : meth.sig.returnType = none) (hlk : meth.locks = false)   : ∀ {n : Nat} (x1 : Int32) (S : ST), f_X12_setWatches_17 fu n   a x1 S = some z → (gC (S a) = 11) → (∀ b, gC (S0 b) ≠ 0 → gC (S b) = gC (S0 b)) → ∀ (H : Heap) (locs : List Loc), WB G S s H locs → ∀ (ls : Array Slot), lv_has ls 5 [(0, .ref a), (1, .int x1)] → W p l e RM_X12_setWatches s m args below meth c H locs 0 0 (QR G below args s none S0 z) (F0 m 17 ls []) := by
  intro n
  induction n with
  | zero => intro x1 S hf; cases hf
  | succ n ih => intro x1 S hf; exact t_X12_setWatches_17s (fu := fu) hM hml hr hlk (k17 := f_X12_setWatches_17 fu n   a) ih _ _ hf
noncomputable def f_X12_setWatches_0 (fu : Nat)  (S : ST) (a : Nat) : Option (ST) :=
  nm (st S a (sAf (S a) 9 (flA (gA (S a) 9) 32 (-1 : Int32)))) fun S1 =>
  nm (st S1 a (sA (S1 a) 9 (0 : Int32).toNatClampNeg (0 : Int32))) fun S2 =>
  f_X12_setWatches_17 fu fu a (0 : Int32) S2
set_option maxHeartbeats 4000000 in
set_option maxRecDepth 100000 in
theorem t_X12_setWatches_0 {G : GG} {p : Program} {l : Launch} {e : Env} {s : State} {m : MethodId} {args : Array Value} {below : List Frame} {meth : Method} {c : Code} {S0 : ST} {fu : Nat} {z : ST} {a : Nat}  {S : ST} (hM : MC G p s m args c cX12_setWatches w_X12_setWatches RX12) (hml : c.maxLocals = 5) (hr : meth.sig.returnType = none) (hlk : meth.locks = false)   (hf : f_X12_setWatches_0 fu  S a  = some z) : (gC (S a) = 11) → (∀ b, gC (S0 b) ≠ 0 → gC (S b) = gC (S0 b)) → ∀ (H : Heap) (locs : List Loc), WB G S s H locs → ∀ (ls : Array Slot), lv_has ls 5 [(0, .ref a)] → W p l e RM_X12_setWatches s m args below meth c H locs 0 0 (QR G below args s none S0 z) (F0 m 0 ls []) := by
  intro ha hK0 H locs hW ls hl
  have hx := hM.1
  have hb := hM.2.1
  refine lv_aload_n hx hb dX12_setWatches_0 rfl (lv_at hl 0 rfl) ?_
  refine b_get hM (hW.at_ a) 10 9 ha rfl rfl (by decide) wi_X12 (wgm fk_RX12_63) (x := .ref (a + 40)) rfl dX12_setWatches_1 ?_
  refine lv_iconst (v := (-1 : Int32)) hx hb dX12_setWatches_4 (by decide) ?_
  refine s_callSv [.ref (a + 40), .int (-1 : Int32)] [] hM hml hl.1 hW (Ct_self (c_fill l G _ a _ _ 10 9 ha (by decide) rfl rfl rfl (show (32 : Nat) < 2 ^ 31 by decide) rfl)) (va_cwS 2 hM.2.2.2.1 (gS mk_RX12_348 sm_J7_fill_53178 it_RJ7 cd_J7_fill_53178) rfl rfl rfl (by decide +kernel) ⟨Nat.le_of_ble_eq_true rfl, Nat.le_of_ble_eq_true rfl⟩) rfl rfl (Nat.le_of_ble_eq_true rfl) ⟨Nat.zero_le _, Nat.zero_le _⟩ dX12_setWatches_5 (fun H locs hW hk => ?_)
  obtain ⟨S1, eS1⟩ : ∃ y : ST, y = st S a (sAf (S a) 9 (flA (gA (S a) 9) 32 (-1 : Int32))) := ⟨_, rfl⟩
  rw [show alen 10 9 (S a) = 32 from rfl, ← eS1] at hW hk
  have hf := nm_at eS1 hf
  have ha := keep1 hk ha
  have hK0 := keep_tr hK0 hk
  refine lv_aload_n hx hb dX12_setWatches_8 rfl (lv_at hl 0 rfl) ?_
  refine b_get hM (hW.at_ a) 10 9 ha rfl rfl (by decide) wi_X12 (wgm fk_RX12_63) (x := .ref (a + 40)) rfl dX12_setWatches_9 ?_
  refine lv_iconst (v := (0 : Int32)) hx hb dX12_setWatches_12 (by decide) ?_
  refine lv_iconst (v := (0 : Int32)) hx hb dX12_setWatches_13 (by decide) ?_
  refine s_iast (n := 32) hM hW 10 9 ha (by decide) rfl rfl rfl rfl (by decide) dX12_setWatches_14 (fun S2 eS2 hk H locs hW => ?_)
  have hf := nm_at eS2 hf
  have ha := keep1 hk ha
  have hK0 := keep_tr hK0 hk
  refine lv_iconst (v := (0 : Int32)) hx hb dX12_setWatches_15 (by decide) ?_
  refine lv_istore_n (lv' := [(1, .int (0 : Int32)), (0, .ref a)]) hx hb dX12_setWatches_16 rfl hl (by decide) rfl (fun ls hl => ?_)
  exact t_X12_setWatches_17 (fu := fu) hM hml hr hlk _ _ hf ha hK0 _ _ hW _ (lv_sub hl [1, 0] rfl)
noncomputable def f_X12_setWatches (fu : Nat) (S : ST) (a : Nat) : Option (ST) := f_X12_setWatches_0 fu S a
set_option maxHeartbeats 4000000 in
set_option maxRecDepth 100000 in
theorem c_X12_setWatches (l : Launch) (G : GG) (fu : Nat) (S : ST) (a : Nat) {z : ST} (ha : gC (S a) = 11) (hf : f_X12_setWatches fu S a = some z) : Ct l yX12_setWatches w_X12_setWatches RM_X12_setWatches G S [.ref a] none z 0 0 := by
  refine Met.ofW (cc := cX12_setWatches) (maxL := 5) (ret := none) (by decide) rfl ?_
  intro p e s m args below meth c s₁ B hml hv
  obtain ⟨rfl, hB, hK, hz⟩ := hv
  have hM : MC G p s m _ c cX12_setWatches w_X12_setWatches RX12 := ⟨B.exec, B.bytes, findClass_of_methodNamed B.named, atoms_spec (ws := w_X12_setWatches) B.pre, hK, hz⟩
  have hW : WB G S s s.heap [] := ⟨hB, va_S.rf⟩
  have hl := lv_entry ([.ref a]) (n := 5) (Nat.le_of_ble_eq_true rfl)
  rw [lg_entry_eq]
  generalize (lg_sl ([.ref a]) ++ List.replicate (5 - (lg_sl ([.ref a])).length) Slot.unset).toArray = ls at hl ⊢
  have hl : lv_has ls 5 [(0, .ref a)] := hl
  exact t_X12_setWatches_0 (fu := fu) hM hml B.returns B.notSynchronized hf ha (fun _ _ => rfl) _ _ hW _ (lv_sub hl [0] rfl)
abbrev RM_X12_watch : Room := { frames := 3, cells := 0, slots := 0, locals := 66 }
abbrev w_X12_watch : List Cond := Cond.code yX12_watch cX12_watch 5 (some .int) :: wsL_law0
noncomputable def f_X12_watch_86 (fu : Nat) (k19 : Int32 → Int32 → ST → Option (Int32 × ST)) (S : ST) (a : Nat) (x1 : Int32) (x2 : Int32) (x3 : Int32) : Option (Int32 × ST) :=
  nm (x3 + (1 : Int32)) fun y1 =>
  k19 x2 y1 S
set_option maxHeartbeats 4000000 in
set_option maxRecDepth 100000 in
theorem t_X12_watch_86 {G : GG} {p : Program} {l : Launch} {e : Env} {s : State} {m : MethodId} {args : Array Value} {below : List Frame} {meth : Method} {c : Code} {S0 : ST} {fu : Nat} {z : Int32 × ST} {a : Nat} {k19 : Int32 → Int32 → ST → Option (Int32 × ST)} {S : ST} {x1 : Int32} {x2 : Int32} {x3 : Int32} (hM : MC G p s m args c cX12_watch w_X12_watch RX12) (hml : c.maxLocals = 5) (hr : meth.sig.returnType = (some .int)) (hlk : meth.locks = false)  (hk19 : ∀ (x2 : Int32) (x3 : Int32) (S : ST), k19 x2 x3 S = some z → (gC (S a) = 11) → (∀ b, gC (S0 b) ≠ 0 → gC (S b) = gC (S0 b)) → ∀ (H : Heap) (locs : List Loc), WB G S s H locs → ∀ (ls : Array Slot), lv_has ls 5 [(0, .ref a), (1, .int x1), (2, .int x2), (3, .int x3)] → W p l e RM_X12_watch s m args below meth c H locs 0 0 (QR G below args s (some (.int z.1)) S0 z.2) (F0 m 19 ls [])) (hf : f_X12_watch_86 fu k19 S a x1 x2 x3 = some z) : (gC (S a) = 11) → (∀ b, gC (S0 b) ≠ 0 → gC (S b) = gC (S0 b)) → ∀ (H : Heap) (locs : List Loc), WB G S s H locs → ∀ (ls : Array Slot), lv_has ls 5 [(0, .ref a), (1, .int x1), (2, .int x2), (3, .int x3)] → W p l e RM_X12_watch s m args below meth c H locs 0 0 (QR G below args s (some (.int z.1)) S0 z.2) (F0 m 86 ls []) := by
  intro ha hK0 H locs hW ls hl
  have hx := hM.1
  have hb := hM.2.1
  obtain ⟨y1, ey1⟩ : ∃ y : Int32, y = x3 + (1 : Int32) := ⟨_, rfl⟩
  have hf := nm_at ey1 hf
  refine lv_iinc (v := y1) (lv' := [(3, .int y1), (0, .ref a), (1, .int x1), (2, .int x2)]) hx hb dX12_watch_86 hl (k := 3) rfl (by rw [ey1]; rfl) (by decide) rfl (fun ls hl => ?_)
  refine lv_goto (tgt := 19) hx hb dX12_watch_89 (by decide) ?_
  exact hk19 _ _ _ hf ha hK0 _ _ hW _ (lv_sub hl [1, 2, 3, 0] rfl)
noncomputable def f_X12_watch_49 (fu : Nat) (k19 : Int32 → Int32 → ST → Option (Int32 × ST)) (S : ST) (a : Nat) (x1 : Int32) (x2 : Int32) (x3 : Int32) (t0 : Int32) : Option (Int32 × ST) :=
  if t0 = 0 then
    (f_X12_watch_86 fu k19 S a x1 x2 x3)
  else
    (ck (inb x3 32) <|
    if (gA (S a) 9 x3.toNatClampNeg) = (-1 : Int32) then
      (f_X12_watch_86 fu k19 S a x1 x2 x3)
    else
      (ck (inb x3 32) <|
      bd (f_X12_isFewer fu (gA (S a) 9 x3.toNatClampNeg) x2) fun r5 =>
      if r5 = 0 then
        (f_X12_watch_86 fu k19 S a x1 x2 x3)
      else
        (ck (inb x3 32) <|
        nm ((gA (S a) 9 x3.toNatClampNeg)) fun y8 =>
        f_X12_watch_86 fu k19 S a x1 y8 x3)))
set_option maxHeartbeats 4000000 in
set_option maxRecDepth 100000 in
theorem t_X12_watch_49 {G : GG} {p : Program} {l : Launch} {e : Env} {s : State} {m : MethodId} {args : Array Value} {below : List Frame} {meth : Method} {c : Code} {S0 : ST} {fu : Nat} {z : Int32 × ST} {a : Nat} {k19 : Int32 → Int32 → ST → Option (Int32 × ST)} {S : ST} {x1 : Int32} {x2 : Int32} {x3 : Int32} {t0 : Int32} (hM : MC G p s m args c cX12_watch w_X12_watch RX12) (hml : c.maxLocals = 5) (hr : meth.sig.returnType = (some .int)) (hlk : meth.locks = false)  (hk19 : ∀ (x2 : Int32) (x3 : Int32) (S : ST), k19 x2 x3 S = some z → (gC (S a) = 11) → (∀ b, gC (S0 b) ≠ 0 → gC (S b) = gC (S0 b)) → ∀ (H : Heap) (locs : List Loc), WB G S s H locs → ∀ (ls : Array Slot), lv_has ls 5 [(0, .ref a), (1, .int x1), (2, .int x2), (3, .int x3)] → W p l e RM_X12_watch s m args below meth c H locs 0 0 (QR G below args s (some (.int z.1)) S0 z.2) (F0 m 19 ls [])) (hf : f_X12_watch_49 fu k19 S a x1 x2 x3 t0 = some z) : (gC (S a) = 11) → (∀ b, gC (S0 b) ≠ 0 → gC (S b) = gC (S0 b)) → ∀ (H : Heap) (locs : List Loc), WB G S s H locs → ∀ (ls : Array Slot), lv_has ls 5 [(0, .ref a), (1, .int x1), (2, .int x2), (3, .int x3)] → W p l e RM_X12_watch s m args below meth c H locs 0 0 (QR G below args s (some (.int z.1)) S0 z.2) (F0 m 49 ls [.int t0]) := by
  intro ha hK0 H locs hW ls hl
  have hx := hM.1
  have hb := hM.2.1
  refine lv_istore (lv' := [(4, .int t0), (0, .ref a), (1, .int x1), (2, .int x2), (3, .int x3)]) hx hb dX12_watch_49 hl (by decide) rfl (fun ls hl => ?_)
  refine lv_iload hx hb dX12_watch_51 (lv_at hl 0 rfl) ?_
  refine lv_if_eq (tgt := 86) hx hb dX12_watch_53 (by decide) (fun c1 => ?_) (fun c1 => ?_)
  · have hf := if_t c1 hf
    exact t_X12_watch_86 (fu := fu) hM hml hr hlk hk19 hf ha hK0 _ _ hW _ (lv_sub hl [1, 2, 3, 4] rfl)
  · have hf := if_f c1 hf
    refine lv_aload_n hx hb dX12_watch_56 rfl (lv_at hl 1 rfl) ?_
    refine b_get hM (hW.at_ a) 10 9 ha rfl rfl (by decide) wi_X12 (wgm fk_RX12_63) (x := .ref (a + 40)) rfl dX12_watch_57 ?_
    refine lv_iload_n hx hb dX12_watch_60 rfl (lv_at hl 4 rfl) ?_
    obtain ⟨h2, hf⟩ := ck_elim hf
    refine b_iald (n := 32) hM (hW.at_ a) 10 9 ha (by decide) rfl rfl rfl rfl h2 dX12_watch_61 ?_
    refine lv_iconst (v := (-1 : Int32)) hx hb dX12_watch_62 (by decide) ?_
    refine lv_icmp_eq (tgt := 86) hx hb dX12_watch_63 (by decide) (fun c3 => ?_) (fun c3 => ?_)
    · have hf := if_t c3 hf
      exact t_X12_watch_86 (fu := fu) hM hml hr hlk hk19 hf ha hK0 _ _ hW _ (lv_sub hl [1, 2, 3, 4] rfl)
    · have hf := if_f c3 hf
      refine lv_aload_n hx hb dX12_watch_66 rfl (lv_at hl 1 rfl) ?_
      refine b_get hM (hW.at_ a) 10 9 ha rfl rfl (by decide) wi_X12 (wgm fk_RX12_63) (x := .ref (a + 40)) rfl dX12_watch_67 ?_
      refine lv_iload_n hx hb dX12_watch_70 rfl (lv_at hl 4 rfl) ?_
      obtain ⟨h4, hf⟩ := ck_elim hf
      refine b_iald (n := 32) hM (hW.at_ a) 10 9 ha (by decide) rfl rfl rfl rfl h4 dX12_watch_71 ?_
      refine lv_iload_n hx hb dX12_watch_72 rfl (lv_at hl 3 rfl) ?_
      obtain ⟨r5, hr5, hf⟩ := bd_elim hf
      refine s_callSi [.int (gA (S a) 9 x3.toNatClampNeg), .int x2] [] hM hml hl.1 hW (c_X12_isFewer l G fu _ _ _ hr5) (va_cwS 2 hM.2.2.2.1 (gS mk_RX12_344 sm_X12_isFewer it_RX12 cd_X12_isFewer) rfl rfl rfl (by decide +kernel) ⟨Nat.le_of_ble_eq_true rfl, Nat.le_of_ble_eq_true rfl⟩) rfl rfl (Nat.le_of_ble_eq_true rfl) ⟨Nat.zero_le _, Nat.zero_le _⟩ dX12_watch_73 (fun H locs hW hk => ?_)
      refine lv_if_eq (tgt := 86) hx hb dX12_watch_76 (by decide) (fun c6 => ?_) (fun c6 => ?_)
      · have hf := if_t c6 hf
        exact t_X12_watch_86 (fu := fu) hM hml hr hlk hk19 hf ha hK0 _ _ hW _ (lv_sub hl [1, 2, 3, 4] rfl)
      · have hf := if_f c6 hf
        refine lv_aload_n hx hb dX12_watch_79 rfl (lv_at hl 1 rfl) ?_
        refine b_get hM (hW.at_ a) 10 9 ha rfl rfl (by decide) wi_X12 (wgm fk_RX12_63) (x := .ref (a + 40)) rfl dX12_watch_80 ?_
        refine lv_iload_n hx hb dX12_watch_83 rfl (lv_at hl 4 rfl) ?_
        obtain ⟨h7, hf⟩ := ck_elim hf
        refine b_iald (n := 32) hM (hW.at_ a) 10 9 ha (by decide) rfl rfl rfl rfl h7 dX12_watch_84 ?_
        refine lv_topi (fun y8 ey8 => ?_)
        have hf := nm_at ey8 hf
        refine lv_istore_n (lv' := [(2, .int y8), (4, .int t0), (0, .ref a), (1, .int x1), (3, .int x3)]) hx hb dX12_watch_85 rfl hl (by decide) rfl (fun ls hl => ?_)
        exact t_X12_watch_86 (fu := fu) hM hml hr hlk hk19 hf ha hK0 _ _ hW _ (lv_sub hl [2, 3, 0, 4] rfl)
noncomputable def f_X12_watch_19s (fu : Nat)  (k19 : Int32 → Int32 → ST → Option (Int32 × ST)) (a : Nat) (x1 : Int32) (x2 : Int32) (x3 : Int32) (S : ST) : Option (Int32 × ST) :=
  if (32 : Int32) ≤ x3 then
    (some (x2, S))
  else
    (bd (f_J6_bitCount_0f7a4 fu x3) fun r2 =>
    bd (gR (S a) 12) fun q3 =>
    ck (decide (gC (S q3) = 1)) <|
    if r2 < ((gI (S q3) 9) - x1) then
      (f_X12_watch_49 fu k19 S a x1 x2 x3 (0 : Int32))
    else
      (f_X12_watch_49 fu k19 S a x1 x2 x3 (1 : Int32)))
noncomputable def f_X12_watch_19 (fu n : Nat)  (a : Nat) (x1 : Int32) : Int32 → Int32 → ST → Option (Int32 × ST) :=
  lq_3 (fun k19 => f_X12_watch_19s fu  k19  a x1) n
set_option maxHeartbeats 4000000 in
set_option maxRecDepth 100000 in
theorem t_X12_watch_19s {G : GG} {p : Program} {l : Launch} {e : Env} {s : State} {m : MethodId} {args : Array Value} {below : List Frame} {meth : Method} {c : Code} {S0 : ST} {fu : Nat} {z : Int32 × ST} {a : Nat}  {k19 : Int32 → Int32 → ST → Option (Int32 × ST)} {x1 : Int32} (hM : MC G p s m args c cX12_watch w_X12_watch RX12) (hml : c.maxLocals = 5) (hr : meth.sig.returnType = (some .int)) (hlk : meth.locks = false)   (hk19 : ∀ (x2 : Int32) (x3 : Int32) (S : ST), k19 x2 x3 S = some z → (gC (S a) = 11) → (∀ b, gC (S0 b) ≠ 0 → gC (S b) = gC (S0 b)) → ∀ (H : Heap) (locs : List Loc), WB G S s H locs → ∀ (ls : Array Slot), lv_has ls 5 [(0, .ref a), (1, .int x1), (2, .int x2), (3, .int x3)] → W p l e RM_X12_watch s m args below meth c H locs 0 0 (QR G below args s (some (.int z.1)) S0 z.2) (F0 m 19 ls [])) : ∀ (x2 : Int32) (x3 : Int32) (S : ST), f_X12_watch_19s fu  k19  a x1 x2 x3 S = some z → (gC (S a) = 11) → (∀ b, gC (S0 b) ≠ 0 → gC (S b) = gC (S0 b)) → ∀ (H : Heap) (locs : List Loc), WB G S s H locs → ∀ (ls : Array Slot), lv_has ls 5 [(0, .ref a), (1, .int x1), (2, .int x2), (3, .int x3)] → W p l e RM_X12_watch s m args below meth c H locs 0 0 (QR G below args s (some (.int z.1)) S0 z.2) (F0 m 19 ls []) := by
  intro x2 x3 S hf ha hK0 H locs hW ls hl
  have hx := hM.1
  have hb := hM.2.1
  refine lv_iload_n hx hb dX12_watch_19 rfl (lv_at hl 3 rfl) ?_
  refine lv_aload_n hx hb dX12_watch_20 rfl (lv_at hl 0 rfl) ?_
  refine b_get hM (hW.at_ a) 10 9 ha rfl rfl (by decide) wi_X12 (wgm fk_RX12_63) (x := .ref (a + 40)) rfl dX12_watch_21 ?_
  refine b_alen (n := 32) hM (hW.at_ a) 10 9 0 ha (by decide) rfl rfl (by decide) rfl rfl (x := (32 : Int32)) (by decide) dX12_watch_24 ?_
  refine lv_icmp_ge (tgt := 92) hx hb dX12_watch_25 (by decide) (fun c1 => ?_) (fun c1 => ?_)
  · have hf := if_t c1 hf
    refine lv_iload_n hx hb dX12_watch_92 rfl (lv_at hl 2 rfl) ?_
    cases hf
    exact W.iret hx hb hr (b_ret0 hW hK0 _) hW.2.2.2 dX12_watch_93 hlk
  · have hf := if_f c1 hf
    refine lv_iload_n hx hb dX12_watch_28 rfl (lv_at hl 3 rfl) ?_
    obtain ⟨r2, hr2, hf⟩ := bd_elim hf
    refine s_callSi [.int x3] [] hM hml hl.1 hW (c_J6_bitCount_0f7a4 l G fu _ _ hr2) (va_cwS 1 hM.2.2.2.1 (gS mk_RX12_248 sm_J6_bitCount_0f7a4 it_RJ6 cd_J6_bitCount_0f7a4) rfl rfl rfl (by decide +kernel) ⟨Nat.le_of_ble_eq_true rfl, Nat.le_of_ble_eq_true rfl⟩) rfl rfl (Nat.le_of_ble_eq_true rfl) ⟨Nat.zero_le _, Nat.zero_le _⟩ dX12_watch_29 (fun H locs hW hk => ?_)
    refine lv_aload_n hx hb dX12_watch_32 rfl (lv_at hl 0 rfl) ?_
    obtain ⟨q3, hq3, hf⟩ := bd_elim hf
    refine b_get hM (hW.at_ a) 10 12 ha rfl rfl (by decide) wi_X12 (wgm fk_RX12_76) (x := .ref q3) (by show va_rf _ = _; rw [hq3]; rfl) dX12_watch_33 ?_
    obtain ⟨h4, hf⟩ := ck_elim hf
    have h4 := of_decide_eq_true h4
    refine b_get hM (hW.at_ q3) 0 9 h4 rfl rfl (by decide) wi_X1 (wgm fk_RX12_179) (x := .int (gI (S q3) 9)) rfl dX12_watch_36 ?_
    refine lv_iload_n hx hb dX12_watch_39 rfl (lv_at hl 1 rfl) ?_
    refine lv_isub hx hb dX12_watch_40 ?_
    refine lv_icmp_lt (tgt := 48) hx hb dX12_watch_41 (by decide) (fun c5 => ?_) (fun c5 => ?_)
    · have hf := if_t c5 hf
      refine lv_iconst (v := (0 : Int32)) hx hb dX12_watch_48 (by decide) ?_
      exact t_X12_watch_49 (fu := fu) hM hml hr hlk hk19 hf ha hK0 _ _ hW _ (lv_sub hl [0, 1, 2, 3] rfl)
    · have hf := if_f c5 hf
      refine lv_iconst (v := (1 : Int32)) hx hb dX12_watch_44 (by decide) ?_
      refine lv_goto (tgt := 49) hx hb dX12_watch_45 (by decide) ?_
      exact t_X12_watch_49 (fu := fu) hM hml hr hlk hk19 hf ha hK0 _ _ hW _ (lv_sub hl [0, 1, 2, 3] rfl)
theorem t_X12_watch_19 {G : GG} {p : Program} {l : Launch} {e : Env} {s : State} {m : MethodId} {args : Array Value} {below : List Frame} {meth : Method} {c : Code} {S0 : ST} {fu : Nat} {z : Int32 × ST} {a : Nat}  {x1 : Int32} (hM : MC G p s m args c cX12_watch w_X12_watch RX12) (hml : c.maxLocals = 5) (hr : meth.sig.returnType = (some .int)) (hlk : meth.locks = false)   : ∀ {n : Nat} (x2 : Int32) (x3 : Int32) (S : ST), f_X12_watch_19 fu n   a x1 x2 x3 S = some z → (gC (S a) = 11) → (∀ b, gC (S0 b) ≠ 0 → gC (S b) = gC (S0 b)) → ∀ (H : Heap) (locs : List Loc), WB G S s H locs → ∀ (ls : Array Slot), lv_has ls 5 [(0, .ref a), (1, .int x1), (2, .int x2), (3, .int x3)] → W p l e RM_X12_watch s m args below meth c H locs 0 0 (QR G below args s (some (.int z.1)) S0 z.2) (F0 m 19 ls []) := by
  intro n
  induction n with
  | zero => intro x2 x3 S hf; cases hf
  | succ n ih => intro x2 x3 S hf; exact t_X12_watch_19s (fu := fu) hM hml hr hlk (k19 := f_X12_watch_19 fu n   a x1) ih _ _ _ hf
noncomputable def f_X12_watch_9 (fu : Nat)  (S : ST) (a : Nat) : Option (Int32 × ST) :=
  some ((-1 : Int32), S)
set_option maxHeartbeats 4000000 in
set_option maxRecDepth 100000 in
theorem t_X12_watch_9 {G : GG} {p : Program} {l : Launch} {e : Env} {s : State} {m : MethodId} {args : Array Value} {below : List Frame} {meth : Method} {c : Code} {S0 : ST} {fu : Nat} {z : Int32 × ST} {a : Nat}  {S : ST} (hM : MC G p s m args c cX12_watch w_X12_watch RX12) (hml : c.maxLocals = 5) (hr : meth.sig.returnType = (some .int)) (hlk : meth.locks = false)   (hf : f_X12_watch_9 fu  S a  = some z) : (gC (S a) = 11) → (∀ b, gC (S0 b) ≠ 0 → gC (S b) = gC (S0 b)) → ∀ (H : Heap) (locs : List Loc), WB G S s H locs → ∀ (ls : Array Slot), lv_has ls 5 [] → W p l e RM_X12_watch s m args below meth c H locs 0 0 (QR G below args s (some (.int z.1)) S0 z.2) (F0 m 9 ls []) := by
  intro ha hK0 H locs hW ls hl
  have hx := hM.1
  have hb := hM.2.1
  refine lv_iconst (v := (-1 : Int32)) hx hb dX12_watch_9 (by decide) ?_
  cases hf
  exact W.iret hx hb hr (b_ret0 hW hK0 _) hW.2.2.2 dX12_watch_10 hlk
noncomputable def f_X12_watch_0 (fu : Nat)  (S : ST) (a : Nat) (x1 : Int32) : Option (Int32 × ST) :=
  if x1 < 0 then
    (f_X12_watch_9 fu S a)
  else
    (if x1 ≤ (5 : Int32) then
      (bd (f_X12_setWatches fu S a) fun S4 =>
      f_X12_watch_19 fu fu a x1 (-1 : Int32) (0 : Int32) S4)
    else
      (f_X12_watch_9 fu S a))
set_option maxHeartbeats 4000000 in
set_option maxRecDepth 100000 in
theorem t_X12_watch_0 {G : GG} {p : Program} {l : Launch} {e : Env} {s : State} {m : MethodId} {args : Array Value} {below : List Frame} {meth : Method} {c : Code} {S0 : ST} {fu : Nat} {z : Int32 × ST} {a : Nat}  {S : ST} {x1 : Int32} (hM : MC G p s m args c cX12_watch w_X12_watch RX12) (hml : c.maxLocals = 5) (hr : meth.sig.returnType = (some .int)) (hlk : meth.locks = false)   (hf : f_X12_watch_0 fu  S a x1 = some z) : (gC (S a) = 11) → (∀ b, gC (S0 b) ≠ 0 → gC (S b) = gC (S0 b)) → ∀ (H : Heap) (locs : List Loc), WB G S s H locs → ∀ (ls : Array Slot), lv_has ls 5 [(0, .ref a), (1, .int x1)] → W p l e RM_X12_watch s m args below meth c H locs 0 0 (QR G below args s (some (.int z.1)) S0 z.2) (F0 m 0 ls []) := by
  intro ha hK0 H locs hW ls hl
  have hx := hM.1
  have hb := hM.2.1
  refine lv_iload_n hx hb dX12_watch_0 rfl (lv_at hl 1 rfl) ?_
  refine lv_if_lt (tgt := 9) hx hb dX12_watch_1 (by decide) (fun c1 => ?_) (fun c1 => ?_)
  · have hf := if_t c1 hf
    exact t_X12_watch_9 (fu := fu) hM hml hr hlk hf ha hK0 _ _ hW _ (lv_sub hl [] rfl)
  · have hf := if_f c1 hf
    refine lv_iload_n hx hb dX12_watch_4 rfl (lv_at hl 1 rfl) ?_
    refine lv_iconst (v := (5 : Int32)) hx hb dX12_watch_5 (by decide) ?_
    refine lv_icmp_le (tgt := 11) hx hb dX12_watch_6 (by decide) (fun c2 => ?_) (fun c2 => ?_)
    · have hf := if_t c2 hf
      refine lv_aload_n hx hb dX12_watch_11 rfl (lv_at hl 0 rfl) ?_
      obtain ⟨S4, hr3, hf⟩ := bd_elim hf
      refine s_callVv [] [] hM hml hl.1 hW ha rfl (by decide) (c_X12_setWatches l G fu _ a ha hr3) (cwV 0 hM.2.2.2.1 (gV mk_RX12_341 im_X12_setWatches se_X12_setWatches it_RX12 cd_X12_setWatches) rfl rfl rfl (by decide +kernel) ⟨Nat.le_of_ble_eq_true rfl, Nat.le_of_ble_eq_true rfl⟩) rfl rfl (Nat.le_of_ble_eq_true rfl) ⟨Nat.zero_le _, Nat.zero_le _⟩ dX12_watch_12 (fun H locs hW hk => ?_)
      have ha := keep1 hk ha
      have hK0 := keep_tr hK0 hk
      refine lv_iconst (v := (-1 : Int32)) hx hb dX12_watch_15 (by decide) ?_
      refine lv_istore_n (lv' := [(2, .int (-1 : Int32)), (0, .ref a), (1, .int x1)]) hx hb dX12_watch_16 rfl hl (by decide) rfl (fun ls hl => ?_)
      refine lv_iconst (v := (0 : Int32)) hx hb dX12_watch_17 (by decide) ?_
      refine lv_istore_n (lv' := [(3, .int (0 : Int32)), (2, .int (-1 : Int32)), (0, .ref a), (1, .int x1)]) hx hb dX12_watch_18 rfl hl (by decide) rfl (fun ls hl => ?_)
      exact t_X12_watch_19 (fu := fu) hM hml hr hlk _ _ _ hf ha hK0 _ _ hW _ (lv_sub hl [2, 3, 1, 0] rfl)
    · have hf := if_f c2 hf
      exact t_X12_watch_9 (fu := fu) hM hml hr hlk hf ha hK0 _ _ hW _ (lv_sub hl [] rfl)
noncomputable def f_X12_watch (fu : Nat) (S : ST) (a : Nat) (x1 : Int32) : Option (Int32 × ST) := f_X12_watch_0 fu S a x1
set_option maxHeartbeats 4000000 in
set_option maxRecDepth 100000 in
theorem c_X12_watch (l : Launch) (G : GG) (fu : Nat) (S : ST) (a : Nat) (x1 : Int32) {z : Int32} {w : ST} (ha : gC (S a) = 11) (hf : f_X12_watch fu S a x1 = some (z, w)) : Ct l yX12_watch w_X12_watch RM_X12_watch G S [.ref a, .int x1] (some (.int z)) w 0 0 := by
  refine Met.ofW (cc := cX12_watch) (maxL := 5) (ret := (some .int)) (by decide) rfl ?_
  intro p e s m args below meth c s₁ B hml hv
  obtain ⟨rfl, hB, hK, hz⟩ := hv
  have hM : MC G p s m _ c cX12_watch w_X12_watch RX12 := ⟨B.exec, B.bytes, findClass_of_methodNamed B.named, atoms_spec (ws := w_X12_watch) B.pre, hK, hz⟩
  have hW : WB G S s s.heap [] := ⟨hB, va_S.rf⟩
  have hl := lv_entry ([.ref a, .int x1]) (n := 5) (Nat.le_of_ble_eq_true rfl)
  rw [lg_entry_eq]
  generalize (lg_sl ([.ref a, .int x1]) ++ List.replicate (5 - (lg_sl ([.ref a, .int x1])).length) Slot.unset).toArray = ls at hl ⊢
  have hl : lv_has ls 5 [(0, .ref a), (1, .int x1)] := hl
  exact t_X12_watch_0 (fu := fu) hM hml B.returns B.notSynchronized hf ha (fun _ _ => rfl) _ _ hW _ (lv_sub hl [0, 1] rfl)
abbrev RM_X12_shareChances : Room := { frames := 1, cells := 0, slots := 0, locals := 60 }
abbrev w_X12_shareChances : List Cond := Cond.code yX12_shareChances cX12_shareChances 3 none :: wsL_law0
noncomputable def f_X12_shareChances_68 (fu : Nat) (k10 : Int32 → ST → Option (ST)) (S : ST) (a : Nat) (x1 : Int32) (x2 : Int32) : Option (ST) :=
  nm (x2 + (1 : Int32)) fun y1 =>
  k10 y1 S
set_option maxHeartbeats 4000000 in
set_option maxRecDepth 100000 in
theorem t_X12_shareChances_68 {G : GG} {p : Program} {l : Launch} {e : Env} {s : State} {m : MethodId} {args : Array Value} {below : List Frame} {meth : Method} {c : Code} {S0 : ST} {fu : Nat} {z : ST} {a : Nat} {k10 : Int32 → ST → Option (ST)} {S : ST} {x1 : Int32} {x2 : Int32} (hM : MC G p s m args c cX12_shareChances w_X12_shareChances RX12) (hml : c.maxLocals = 3) (hr : meth.sig.returnType = none) (hlk : meth.locks = false)  (hk10 : ∀ (x2 : Int32) (S : ST), k10 x2 S = some z → (gC (S a) = 11) → (∀ b, gC (S0 b) ≠ 0 → gC (S b) = gC (S0 b)) → ∀ (H : Heap) (locs : List Loc), WB G S s H locs → ∀ (ls : Array Slot), lv_has ls 3 [(0, .ref a), (1, .int x1), (2, .int x2)] → W p l e RM_X12_shareChances s m args below meth c H locs 0 0 (QR G below args s none S0 z) (F0 m 10 ls [])) (hf : f_X12_shareChances_68 fu k10 S a x1 x2 = some z) : (gC (S a) = 11) → (∀ b, gC (S0 b) ≠ 0 → gC (S b) = gC (S0 b)) → ∀ (H : Heap) (locs : List Loc), WB G S s H locs → ∀ (ls : Array Slot), lv_has ls 3 [(0, .ref a), (1, .int x1), (2, .int x2)] → W p l e RM_X12_shareChances s m args below meth c H locs 0 0 (QR G below args s none S0 z) (F0 m 68 ls []) := by
  intro ha hK0 H locs hW ls hl
  have hx := hM.1
  have hb := hM.2.1
  obtain ⟨y1, ey1⟩ : ∃ y : Int32, y = x2 + (1 : Int32) := ⟨_, rfl⟩
  have hf := nm_at ey1 hf
  refine lv_iinc (v := y1) (lv' := [(2, .int y1), (0, .ref a), (1, .int x1)]) hx hb dX12_shareChances_68 hl (k := 2) rfl (by rw [ey1]; rfl) (by decide) rfl (fun ls hl => ?_)
  refine lv_goto (tgt := 10) hx hb dX12_shareChances_71 (by decide) ?_
  exact hk10 _ _ hf ha hK0 _ _ hW _ (lv_sub hl [1, 2, 0] rfl)
noncomputable def f_X12_shareChances_43 (fu : Nat) (k10 : Int32 → ST → Option (ST)) (S : ST) (a : Nat) (x1 : Int32) (x2 : Int32) : Option (ST) :=
  if x2 ≤ 0 then
    (f_X12_shareChances_68 fu k10 S a x1 x2)
  else
    (nm ((x2 - (1 : Int32))) fun y2 =>
    ck (inb y2 9) <|
    ck (inb x2 9) <|
    ck (decide (¬ x1 = 0)) <|
    nm (((gA (S a) 11 y2.toNatClampNeg) + (((gA (S a) 10 x2.toNatClampNeg) * x2) / x1))) fun y6 =>
    ck (inb y2 9) <|
    nm (st S a (sA (S a) 11 y2.toNatClampNeg y6)) fun S8 =>
    f_X12_shareChances_68 fu k10 S8 a x1 x2)
set_option maxHeartbeats 4000000 in
set_option maxRecDepth 100000 in
theorem t_X12_shareChances_43 {G : GG} {p : Program} {l : Launch} {e : Env} {s : State} {m : MethodId} {args : Array Value} {below : List Frame} {meth : Method} {c : Code} {S0 : ST} {fu : Nat} {z : ST} {a : Nat} {k10 : Int32 → ST → Option (ST)} {S : ST} {x1 : Int32} {x2 : Int32} (hM : MC G p s m args c cX12_shareChances w_X12_shareChances RX12) (hml : c.maxLocals = 3) (hr : meth.sig.returnType = none) (hlk : meth.locks = false)  (hk10 : ∀ (x2 : Int32) (S : ST), k10 x2 S = some z → (gC (S a) = 11) → (∀ b, gC (S0 b) ≠ 0 → gC (S b) = gC (S0 b)) → ∀ (H : Heap) (locs : List Loc), WB G S s H locs → ∀ (ls : Array Slot), lv_has ls 3 [(0, .ref a), (1, .int x1), (2, .int x2)] → W p l e RM_X12_shareChances s m args below meth c H locs 0 0 (QR G below args s none S0 z) (F0 m 10 ls [])) (hf : f_X12_shareChances_43 fu k10 S a x1 x2 = some z) : (gC (S a) = 11) → (∀ b, gC (S0 b) ≠ 0 → gC (S b) = gC (S0 b)) → ∀ (H : Heap) (locs : List Loc), WB G S s H locs → ∀ (ls : Array Slot), lv_has ls 3 [(0, .ref a), (1, .int x1), (2, .int x2)] → W p l e RM_X12_shareChances s m args below meth c H locs 0 0 (QR G below args s none S0 z) (F0 m 43 ls []) := by
  intro ha hK0 H locs hW ls hl
  have hx := hM.1
  have hb := hM.2.1
  refine lv_iload_n hx hb dX12_shareChances_43 rfl (lv_at hl 2 rfl) ?_
  refine lv_if_le (tgt := 68) hx hb dX12_shareChances_44 (by decide) (fun c1 => ?_) (fun c1 => ?_)
  · have hf := if_t c1 hf
    exact t_X12_shareChances_68 (fu := fu) hM hml hr hlk hk10 hf ha hK0 _ _ hW _ (lv_sub hl [0, 1, 2] rfl)
  · have hf := if_f c1 hf
    refine lv_aload_n hx hb dX12_shareChances_47 rfl (lv_at hl 0 rfl) ?_
    refine b_get hM (hW.at_ a) 10 11 ha rfl rfl (by decide) wi_X12 (wgm fk_RX12_70) (x := .ref (a + 42)) rfl dX12_shareChances_48 ?_
    refine lv_iload_n hx hb dX12_shareChances_51 rfl (lv_at hl 2 rfl) ?_
    refine lv_iconst (v := (1 : Int32)) hx hb dX12_shareChances_52 (by decide) ?_
    refine lv_isub hx hb dX12_shareChances_53 ?_
    refine lv_topi (fun y2 ey2 => ?_)
    have hf := nm_at ey2 hf
    refine lv_dup2_11 hx hb dX12_shareChances_54 rfl rfl ?_
    obtain ⟨h3, hf⟩ := ck_elim hf
    refine b_iald (n := 9) hM (hW.at_ a) 10 11 ha (by decide) rfl rfl rfl rfl h3 dX12_shareChances_55 ?_
    refine lv_aload_n hx hb dX12_shareChances_56 rfl (lv_at hl 0 rfl) ?_
    refine b_get hM (hW.at_ a) 10 10 ha rfl rfl (by decide) wi_X12 (wgm fk_RX12_67) (x := .ref (a + 41)) rfl dX12_shareChances_57 ?_
    refine lv_iload_n hx hb dX12_shareChances_60 rfl (lv_at hl 2 rfl) ?_
    obtain ⟨h4, hf⟩ := ck_elim hf
    refine b_iald (n := 9) hM (hW.at_ a) 10 10 ha (by decide) rfl rfl rfl rfl h4 dX12_shareChances_61 ?_
    refine lv_iload_n hx hb dX12_shareChances_62 rfl (lv_at hl 2 rfl) ?_
    refine lv_imul hx hb dX12_shareChances_63 ?_
    refine lv_iload_n hx hb dX12_shareChances_64 rfl (lv_at hl 1 rfl) ?_
    obtain ⟨h5, hf⟩ := ck_elim hf
    refine lv_idiv hx hb dX12_shareChances_65 (of_decide_eq_true h5) ?_
    refine lv_iadd hx hb dX12_shareChances_66 ?_
    refine lv_topi (fun y6 ey6 => ?_)
    have hf := nm_at ey6 hf
    obtain ⟨h7, hf⟩ := ck_elim hf
    refine s_iast (n := 9) hM hW 10 11 ha (by decide) rfl rfl rfl rfl h7 dX12_shareChances_67 (fun S8 eS8 hk H locs hW => ?_)
    have hf := nm_at eS8 hf
    have ha := keep1 hk ha
    have hK0 := keep_tr hK0 hk
    exact t_X12_shareChances_68 (fu := fu) hM hml hr hlk hk10 hf ha hK0 _ _ hW _ (lv_sub hl [0, 1, 2] rfl)
noncomputable def f_X12_shareChances_10s (fu : Nat)  (k10 : Int32 → ST → Option (ST)) (a : Nat) (x1 : Int32) (x2 : Int32) (S : ST) : Option (ST) :=
  if x1 < x2 then
    (nm (st S a (sAf (S a) 10 (va_cpy (gA (S a) 11) (gA (S a) 10) (0 : Int32).toNatClampNeg (0 : Int32).toNatClampNeg (9 : Int32).toNatClampNeg))) fun S2 =>
    some S2)
  else
    (if x1 ≤ x2 then
      (f_X12_shareChances_43 fu k10 S a x1 x2)
    else
      (nm ((x2 + (1 : Int32))) fun y4 =>
      ck (inb y4 9) <|
      ck (inb x2 9) <|
      ck (decide (¬ x1 = 0)) <|
      nm (((gA (S a) 11 y4.toNatClampNeg) + (((gA (S a) 10 x2.toNatClampNeg) * (x1 - x2)) / x1))) fun y8 =>
      ck (inb y4 9) <|
      nm (st S a (sA (S a) 11 y4.toNatClampNeg y8)) fun S10 =>
      f_X12_shareChances_43 fu k10 S10 a x1 x2))
noncomputable def f_X12_shareChances_10 (fu n : Nat)  (a : Nat) (x1 : Int32) : Int32 → ST → Option (ST) :=
  lq_2 (fun k10 => f_X12_shareChances_10s fu  k10  a x1) n
set_option maxHeartbeats 4000000 in
set_option maxRecDepth 100000 in
theorem t_X12_shareChances_10s {G : GG} {p : Program} {l : Launch} {e : Env} {s : State} {m : MethodId} {args : Array Value} {below : List Frame} {meth : Method} {c : Code} {S0 : ST} {fu : Nat} {z : ST} {a : Nat}  {k10 : Int32 → ST → Option (ST)} {x1 : Int32} (hM : MC G p s m args c cX12_shareChances w_X12_shareChances RX12) (hml : c.maxLocals = 3) (hr : meth.sig.returnType = none) (hlk : meth.locks = false)   (hk10 : ∀ (x2 : Int32) (S : ST), k10 x2 S = some z → (gC (S a) = 11) → (∀ b, gC (S0 b) ≠ 0 → gC (S b) = gC (S0 b)) → ∀ (H : Heap) (locs : List Loc), WB G S s H locs → ∀ (ls : Array Slot), lv_has ls 3 [(0, .ref a), (1, .int x1), (2, .int x2)] → W p l e RM_X12_shareChances s m args below meth c H locs 0 0 (QR G below args s none S0 z) (F0 m 10 ls [])) : ∀ (x2 : Int32) (S : ST), f_X12_shareChances_10s fu  k10  a x1 x2 S = some z → (gC (S a) = 11) → (∀ b, gC (S0 b) ≠ 0 → gC (S b) = gC (S0 b)) → ∀ (H : Heap) (locs : List Loc), WB G S s H locs → ∀ (ls : Array Slot), lv_has ls 3 [(0, .ref a), (1, .int x1), (2, .int x2)] → W p l e RM_X12_shareChances s m args below meth c H locs 0 0 (QR G below args s none S0 z) (F0 m 10 ls []) := by
  intro x2 S hf ha hK0 H locs hW ls hl
  have hx := hM.1
  have hb := hM.2.1
  refine lv_iload_n hx hb dX12_shareChances_10 rfl (lv_at hl 2 rfl) ?_
  refine lv_iload_n hx hb dX12_shareChances_11 rfl (lv_at hl 1 rfl) ?_
  refine lv_icmp_gt (tgt := 74) hx hb dX12_shareChances_12 (by decide) (fun c1 => ?_) (fun c1 => ?_)
  · have hf := if_t c1 hf
    refine lv_aload_n hx hb dX12_shareChances_74 rfl (lv_at hl 0 rfl) ?_
    refine b_get hM (hW.at_ a) 10 11 ha rfl rfl (by decide) wi_X12 (wgm fk_RX12_70) (x := .ref (a + 42)) rfl dX12_shareChances_75 ?_
    refine lv_iconst (v := (0 : Int32)) hx hb dX12_shareChances_78 (by decide) ?_
    refine lv_aload_n hx hb dX12_shareChances_79 rfl (lv_at hl 0 rfl) ?_
    refine b_get hM (hW.at_ a) 10 10 ha rfl rfl (by decide) wi_X12 (wgm fk_RX12_67) (x := .ref (a + 41)) rfl dX12_shareChances_80 ?_
    refine lv_iconst (v := (0 : Int32)) hx hb dX12_shareChances_83 (by decide) ?_
    refine lv_aload_n hx hb dX12_shareChances_84 rfl (lv_at hl 0 rfl) ?_
    refine b_get hM (hW.at_ a) 10 10 ha rfl rfl (by decide) wi_X12 (wgm fk_RX12_67) (x := .ref (a + 41)) rfl dX12_shareChances_85 ?_
    refine b_alen (n := 9) hM (hW.at_ a) 10 10 0 ha (by decide) rfl rfl (by decide) rfl rfl (x := (9 : Int32)) (by decide) dX12_shareChances_88 ?_
    refine s_copy hM hml hl.1 hW mk_RX12_362 10 11 10 10 ha (by decide) rfl rfl ha (by decide) rfl rfl rfl rfl (by decide) (by decide) (by decide) (Nat.le_of_ble_eq_true rfl) (Nat.le_of_ble_eq_true rfl) (Nat.le_of_ble_eq_true rfl) (by decide) dX12_shareChances_89 (fun S2 eS2 hk H locs hW => ?_)
    have hf := nm_at eS2 hf
    have ha := keep1 hk ha
    have hK0 := keep_tr hK0 hk
    cases hf
    exact W.vret hx hb hr (b_ret0 hW hK0 _) hW.2.2.2 dX12_shareChances_92 hlk
  · have hf := if_f c1 hf
    refine lv_iload_n hx hb dX12_shareChances_15 rfl (lv_at hl 2 rfl) ?_
    refine lv_iload_n hx hb dX12_shareChances_16 rfl (lv_at hl 1 rfl) ?_
    refine lv_icmp_ge (tgt := 43) hx hb dX12_shareChances_17 (by decide) (fun c3 => ?_) (fun c3 => ?_)
    · have hf := if_t c3 hf
      exact t_X12_shareChances_43 (fu := fu) hM hml hr hlk hk10 hf ha hK0 _ _ hW _ (lv_sub hl [0, 1, 2] rfl)
    · have hf := if_f c3 hf
      refine lv_aload_n hx hb dX12_shareChances_20 rfl (lv_at hl 0 rfl) ?_
      refine b_get hM (hW.at_ a) 10 11 ha rfl rfl (by decide) wi_X12 (wgm fk_RX12_70) (x := .ref (a + 42)) rfl dX12_shareChances_21 ?_
      refine lv_iload_n hx hb dX12_shareChances_24 rfl (lv_at hl 2 rfl) ?_
      refine lv_iconst (v := (1 : Int32)) hx hb dX12_shareChances_25 (by decide) ?_
      refine lv_iadd hx hb dX12_shareChances_26 ?_
      refine lv_topi (fun y4 ey4 => ?_)
      have hf := nm_at ey4 hf
      refine lv_dup2_11 hx hb dX12_shareChances_27 rfl rfl ?_
      obtain ⟨h5, hf⟩ := ck_elim hf
      refine b_iald (n := 9) hM (hW.at_ a) 10 11 ha (by decide) rfl rfl rfl rfl h5 dX12_shareChances_28 ?_
      refine lv_aload_n hx hb dX12_shareChances_29 rfl (lv_at hl 0 rfl) ?_
      refine b_get hM (hW.at_ a) 10 10 ha rfl rfl (by decide) wi_X12 (wgm fk_RX12_67) (x := .ref (a + 41)) rfl dX12_shareChances_30 ?_
      refine lv_iload_n hx hb dX12_shareChances_33 rfl (lv_at hl 2 rfl) ?_
      obtain ⟨h6, hf⟩ := ck_elim hf
      refine b_iald (n := 9) hM (hW.at_ a) 10 10 ha (by decide) rfl rfl rfl rfl h6 dX12_shareChances_34 ?_
      refine lv_iload_n hx hb dX12_shareChances_35 rfl (lv_at hl 1 rfl) ?_
      refine lv_iload_n hx hb dX12_shareChances_36 rfl (lv_at hl 2 rfl) ?_
      refine lv_isub hx hb dX12_shareChances_37 ?_
      refine lv_imul hx hb dX12_shareChances_38 ?_
      refine lv_iload_n hx hb dX12_shareChances_39 rfl (lv_at hl 1 rfl) ?_
      obtain ⟨h7, hf⟩ := ck_elim hf
      refine lv_idiv hx hb dX12_shareChances_40 (of_decide_eq_true h7) ?_
      refine lv_iadd hx hb dX12_shareChances_41 ?_
      refine lv_topi (fun y8 ey8 => ?_)
      have hf := nm_at ey8 hf
      obtain ⟨h9, hf⟩ := ck_elim hf
      refine s_iast (n := 9) hM hW 10 11 ha (by decide) rfl rfl rfl rfl h9 dX12_shareChances_42 (fun S10 eS10 hk H locs hW => ?_)
      have hf := nm_at eS10 hf
      have ha := keep1 hk ha
      have hK0 := keep_tr hK0 hk
      exact t_X12_shareChances_43 (fu := fu) hM hml hr hlk hk10 hf ha hK0 _ _ hW _ (lv_sub hl [0, 1, 2] rfl)
theorem t_X12_shareChances_10 {G : GG} {p : Program} {l : Launch} {e : Env} {s : State} {m : MethodId} {args : Array Value} {below : List Frame} {meth : Method} {c : Code} {S0 : ST} {fu : Nat} {z : ST} {a : Nat}  {x1 : Int32} (hM : MC G p s m args c cX12_shareChances w_X12_shareChances RX12) (hml : c.maxLocals = 3) (hr : meth.sig.returnType = none) (hlk : meth.locks = false)   : ∀ {n : Nat} (x2 : Int32) (S : ST), f_X12_shareChances_10 fu n   a x1 x2 S = some z → (gC (S a) = 11) → (∀ b, gC (S0 b) ≠ 0 → gC (S b) = gC (S0 b)) → ∀ (H : Heap) (locs : List Loc), WB G S s H locs → ∀ (ls : Array Slot), lv_has ls 3 [(0, .ref a), (1, .int x1), (2, .int x2)] → W p l e RM_X12_shareChances s m args below meth c H locs 0 0 (QR G below args s none S0 z) (F0 m 10 ls []) := by
  intro n
  induction n with
  | zero => intro x2 S hf; cases hf
  | succ n ih => intro x2 S hf; exact t_X12_shareChances_10s (fu := fu) hM hml hr hlk (k10 := f_X12_shareChances_10 fu n   a x1) ih _ _ hf
noncomputable def f_X12_shareChances_0 (fu : Nat)  (S : ST) (a : Nat) (x1 : Int32) : Option (ST) :=
  nm (st S a (sAf (S a) 11 (flA (gA (S a) 11) 9 (0 : Int32)))) fun S1 =>
  f_X12_shareChances_10 fu fu a x1 (0 : Int32) S1
set_option maxHeartbeats 4000000 in
set_option maxRecDepth 100000 in
theorem t_X12_shareChances_0 {G : GG} {p : Program} {l : Launch} {e : Env} {s : State} {m : MethodId} {args : Array Value} {below : List Frame} {meth : Method} {c : Code} {S0 : ST} {fu : Nat} {z : ST} {a : Nat}  {S : ST} {x1 : Int32} (hM : MC G p s m args c cX12_shareChances w_X12_shareChances RX12) (hml : c.maxLocals = 3) (hr : meth.sig.returnType = none) (hlk : meth.locks = false)   (hf : f_X12_shareChances_0 fu  S a x1 = some z) : (gC (S a) = 11) → (∀ b, gC (S0 b) ≠ 0 → gC (S b) = gC (S0 b)) → ∀ (H : Heap) (locs : List Loc), WB G S s H locs → ∀ (ls : Array Slot), lv_has ls 3 [(0, .ref a), (1, .int x1)] → W p l e RM_X12_shareChances s m args below meth c H locs 0 0 (QR G below args s none S0 z) (F0 m 0 ls []) := by
  intro ha hK0 H locs hW ls hl
  have hx := hM.1
  have hb := hM.2.1
  refine lv_aload_n hx hb dX12_shareChances_0 rfl (lv_at hl 0 rfl) ?_
  refine b_get hM (hW.at_ a) 10 11 ha rfl rfl (by decide) wi_X12 (wgm fk_RX12_70) (x := .ref (a + 42)) rfl dX12_shareChances_1 ?_
  refine lv_iconst (v := (0 : Int32)) hx hb dX12_shareChances_4 (by decide) ?_
  refine s_callSv [.ref (a + 42), .int (0 : Int32)] [] hM hml hl.1 hW (Ct_self (c_fill l G _ a _ _ 10 11 ha (by decide) rfl rfl rfl (show (9 : Nat) < 2 ^ 31 by decide) rfl)) (va_cwS 2 hM.2.2.2.1 (gS mk_RX12_348 sm_J7_fill_53178 it_RJ7 cd_J7_fill_53178) rfl rfl rfl (by decide +kernel) ⟨Nat.le_of_ble_eq_true rfl, Nat.le_of_ble_eq_true rfl⟩) rfl rfl (Nat.le_of_ble_eq_true rfl) ⟨Nat.zero_le _, Nat.zero_le _⟩ dX12_shareChances_5 (fun H locs hW hk => ?_)
  obtain ⟨S1, eS1⟩ : ∃ y : ST, y = st S a (sAf (S a) 11 (flA (gA (S a) 11) 9 (0 : Int32))) := ⟨_, rfl⟩
  rw [show alen 10 11 (S a) = 9 from rfl, ← eS1] at hW hk
  have hf := nm_at eS1 hf
  have ha := keep1 hk ha
  have hK0 := keep_tr hK0 hk
  refine lv_iconst (v := (0 : Int32)) hx hb dX12_shareChances_8 (by decide) ?_
  refine lv_istore_n (lv' := [(2, .int (0 : Int32)), (0, .ref a), (1, .int x1)]) hx hb dX12_shareChances_9 rfl hl (by decide) rfl (fun ls hl => ?_)
  exact t_X12_shareChances_10 (fu := fu) hM hml hr hlk _ _ hf ha hK0 _ _ hW _ (lv_sub hl [1, 2, 0] rfl)
noncomputable def f_X12_shareChances (fu : Nat) (S : ST) (a : Nat) (x1 : Int32) : Option (ST) := f_X12_shareChances_0 fu S a x1
set_option maxHeartbeats 4000000 in
set_option maxRecDepth 100000 in
theorem c_X12_shareChances (l : Launch) (G : GG) (fu : Nat) (S : ST) (a : Nat) (x1 : Int32) {z : ST} (ha : gC (S a) = 11) (hf : f_X12_shareChances fu S a x1 = some z) : Ct l yX12_shareChances w_X12_shareChances RM_X12_shareChances G S [.ref a, .int x1] none z 0 0 := by
  refine Met.ofW (cc := cX12_shareChances) (maxL := 3) (ret := none) (by decide) rfl ?_
  intro p e s m args below meth c s₁ B hml hv
  obtain ⟨rfl, hB, hK, hz⟩ := hv
  have hM : MC G p s m _ c cX12_shareChances w_X12_shareChances RX12 := ⟨B.exec, B.bytes, findClass_of_methodNamed B.named, atoms_spec (ws := w_X12_shareChances) B.pre, hK, hz⟩
  have hW : WB G S s s.heap [] := ⟨hB, va_S.rf⟩
  have hl := lv_entry ([.ref a, .int x1]) (n := 3) (Nat.le_of_ble_eq_true rfl)
  rw [lg_entry_eq]
  generalize (lg_sl ([.ref a, .int x1]) ++ List.replicate (3 - (lg_sl ([.ref a, .int x1])).length) Slot.unset).toArray = ls at hl ⊢
  have hl : lv_has ls 3 [(0, .ref a), (1, .int x1)] := hl
  exact t_X12_shareChances_0 (fu := fu) hM hml B.returns B.notSynchronized hf ha (fun _ _ => rfl) _ _ hW _ (lv_sub hl [0, 1] rfl)
abbrev RM_X12_slips : Room := { frames := 2, cells := 0, slots := 0, locals := 82 }
abbrev w_X12_slips : List Cond := Cond.code yX12_slips cX12_slips 6 (some .int) :: wsL_law0
noncomputable def f_X12_slips_64s (fu : Nat)  (k64 : Int32 → ST → Option (Int32 × ST)) (a : Nat) (x1 : Int32) (x2 : Int32) (x3 : Int32) (x5 : Int32) (S : ST) : Option (Int32 × ST) :=
  if x1 ≤ x5 then
    (ck (inb x3 9) <|
    some ((gA (S a) 10 x3.toNatClampNeg), S))
  else
    (bd (f_X12_shareChances fu S a x2) fun S4 =>
    nm (x5 + (1 : Int32)) fun y5 =>
    k64 y5 S4)
noncomputable def f_X12_slips_64 (fu n : Nat)  (a : Nat) (x1 : Int32) (x2 : Int32) (x3 : Int32) : Int32 → ST → Option (Int32 × ST) :=
  lq_2 (fun k64 => f_X12_slips_64s fu  k64  a x1 x2 x3) n
set_option maxHeartbeats 4000000 in
set_option maxRecDepth 100000 in
theorem t_X12_slips_64s {G : GG} {p : Program} {l : Launch} {e : Env} {s : State} {m : MethodId} {args : Array Value} {below : List Frame} {meth : Method} {c : Code} {S0 : ST} {fu : Nat} {z : Int32 × ST} {a : Nat}  {k64 : Int32 → ST → Option (Int32 × ST)} {x1 : Int32} {x2 : Int32} {x3 : Int32} (hM : MC G p s m args c cX12_slips w_X12_slips RX12) (hml : c.maxLocals = 6) (hr : meth.sig.returnType = (some .int)) (hlk : meth.locks = false)   (hk64 : ∀ (x5 : Int32) (S : ST), k64 x5 S = some z → (gC (S a) = 11) → (∀ b, gC (S0 b) ≠ 0 → gC (S b) = gC (S0 b)) → ∀ (H : Heap) (locs : List Loc), WB G S s H locs → ∀ (ls : Array Slot), lv_has ls 6 [(0, .ref a), (1, .int x1), (2, .int x2), (3, .int x3), (5, .int x5)] → W p l e RM_X12_slips s m args below meth c H locs 0 0 (QR G below args s (some (.int z.1)) S0 z.2) (F0 m 64 ls [])) : ∀ (x5 : Int32) (S : ST), f_X12_slips_64s fu  k64  a x1 x2 x3 x5 S = some z → (gC (S a) = 11) → (∀ b, gC (S0 b) ≠ 0 → gC (S b) = gC (S0 b)) → ∀ (H : Heap) (locs : List Loc), WB G S s H locs → ∀ (ls : Array Slot), lv_has ls 6 [(0, .ref a), (1, .int x1), (2, .int x2), (3, .int x3), (5, .int x5)] → W p l e RM_X12_slips s m args below meth c H locs 0 0 (QR G below args s (some (.int z.1)) S0 z.2) (F0 m 64 ls []) := by
  intro x5 S hf ha hK0 H locs hW ls hl
  have hx := hM.1
  have hb := hM.2.1
  refine lv_iload hx hb dX12_slips_64 (lv_at hl 4 rfl) ?_
  refine lv_iload_n hx hb dX12_slips_66 rfl (lv_at hl 1 rfl) ?_
  refine lv_icmp_ge (tgt := 81) hx hb dX12_slips_67 (by decide) (fun c1 => ?_) (fun c1 => ?_)
  · have hf := if_t c1 hf
    refine lv_aload_n hx hb dX12_slips_81 rfl (lv_at hl 0 rfl) ?_
    refine b_get hM (hW.at_ a) 10 10 ha rfl rfl (by decide) wi_X12 (wgm fk_RX12_67) (x := .ref (a + 41)) rfl dX12_slips_82 ?_
    refine lv_iload_n hx hb dX12_slips_85 rfl (lv_at hl 3 rfl) ?_
    obtain ⟨h2, hf⟩ := ck_elim hf
    refine b_iald (n := 9) hM (hW.at_ a) 10 10 ha (by decide) rfl rfl rfl rfl h2 dX12_slips_86 ?_
    cases hf
    exact W.iret hx hb hr (b_ret0 hW hK0 _) hW.2.2.2 dX12_slips_87 hlk
  · have hf := if_f c1 hf
    refine lv_aload_n hx hb dX12_slips_70 rfl (lv_at hl 0 rfl) ?_
    refine lv_iload_n hx hb dX12_slips_71 rfl (lv_at hl 2 rfl) ?_
    obtain ⟨S4, hr3, hf⟩ := bd_elim hf
    refine s_callVv [.int x2] [] hM hml hl.1 hW ha rfl (by decide) (c_X12_shareChances l G fu _ a _ ha hr3) (cwV 1 hM.2.2.2.1 (gV mk_RX12_358 im_X12_shareChances se_X12_shareChances it_RX12 cd_X12_shareChances) rfl rfl rfl (by decide +kernel) ⟨Nat.le_of_ble_eq_true rfl, Nat.le_of_ble_eq_true rfl⟩) rfl rfl (Nat.le_of_ble_eq_true rfl) ⟨Nat.zero_le _, Nat.zero_le _⟩ dX12_slips_72 (fun H locs hW hk => ?_)
    have ha := keep1 hk ha
    have hK0 := keep_tr hK0 hk
    obtain ⟨y5, ey5⟩ : ∃ y : Int32, y = x5 + (1 : Int32) := ⟨_, rfl⟩
    have hf := nm_at ey5 hf
    refine lv_iinc (v := y5) (lv' := [(5, .int y5), (0, .ref a), (1, .int x1), (2, .int x2), (3, .int x3)]) hx hb dX12_slips_75 hl (k := 4) rfl (by rw [ey5]; rfl) (by decide) rfl (fun ls hl => ?_)
    refine lv_goto (tgt := 64) hx hb dX12_slips_78 (by decide) ?_
    exact hk64 _ _ hf ha hK0 _ _ hW _ (lv_sub hl [1, 2, 3, 4, 0] rfl)
theorem t_X12_slips_64 {G : GG} {p : Program} {l : Launch} {e : Env} {s : State} {m : MethodId} {args : Array Value} {below : List Frame} {meth : Method} {c : Code} {S0 : ST} {fu : Nat} {z : Int32 × ST} {a : Nat}  {x1 : Int32} {x2 : Int32} {x3 : Int32} (hM : MC G p s m args c cX12_slips w_X12_slips RX12) (hml : c.maxLocals = 6) (hr : meth.sig.returnType = (some .int)) (hlk : meth.locks = false)   : ∀ {n : Nat} (x5 : Int32) (S : ST), f_X12_slips_64 fu n   a x1 x2 x3 x5 S = some z → (gC (S a) = 11) → (∀ b, gC (S0 b) ≠ 0 → gC (S b) = gC (S0 b)) → ∀ (H : Heap) (locs : List Loc), WB G S s H locs → ∀ (ls : Array Slot), lv_has ls 6 [(0, .ref a), (1, .int x1), (2, .int x2), (3, .int x3), (5, .int x5)] → W p l e RM_X12_slips s m args below meth c H locs 0 0 (QR G below args s (some (.int z.1)) S0 z.2) (F0 m 64 ls []) := by
  intro n
  induction n with
  | zero => intro x5 S hf; cases hf
  | succ n ih => intro x5 S hf; exact t_X12_slips_64s (fu := fu) hM hml hr hlk (k64 := f_X12_slips_64 fu n   a x1 x2 x3) ih _ _ hf
noncomputable def f_X12_slips_42 (fu : Nat)  (S : ST) (a : Nat) : Option (Int32 × ST) :=
  some ((-1 : Int32), S)
set_option maxHeartbeats 4000000 in
set_option maxRecDepth 100000 in
theorem t_X12_slips_42 {G : GG} {p : Program} {l : Launch} {e : Env} {s : State} {m : MethodId} {args : Array Value} {below : List Frame} {meth : Method} {c : Code} {S0 : ST} {fu : Nat} {z : Int32 × ST} {a : Nat}  {S : ST} (hM : MC G p s m args c cX12_slips w_X12_slips RX12) (hml : c.maxLocals = 6) (hr : meth.sig.returnType = (some .int)) (hlk : meth.locks = false)   (hf : f_X12_slips_42 fu  S a  = some z) : (gC (S a) = 11) → (∀ b, gC (S0 b) ≠ 0 → gC (S b) = gC (S0 b)) → ∀ (H : Heap) (locs : List Loc), WB G S s H locs → ∀ (ls : Array Slot), lv_has ls 6 [] → W p l e RM_X12_slips s m args below meth c H locs 0 0 (QR G below args s (some (.int z.1)) S0 z.2) (F0 m 42 ls []) := by
  intro ha hK0 H locs hW ls hl
  have hx := hM.1
  have hb := hM.2.1
  refine lv_iconst (v := (-1 : Int32)) hx hb dX12_slips_42 (by decide) ?_
  cases hf
  exact W.iret hx hb hr (b_ret0 hW hK0 _) hW.2.2.2 dX12_slips_43 hlk
noncomputable def f_X12_slips_26 (fu : Nat)  (S : ST) (a : Nat) (x1 : Int32) (x2 : Int32) (x3 : Int32) (t0 : Int32) : Option (Int32 × ST) :=
  if t0 = 0 then
    (f_X12_slips_42 fu S a)
  else
    (if x3 < 0 then
      (f_X12_slips_42 fu S a)
    else
      (if x3 ≤ x2 then
        (nm (st S a (sAf (S a) 10 (flA (gA (S a) 10) 9 (0 : Int32)))) fun S4 =>
        nm (st S4 a (sA (S4 a) 10 (0 : Int32).toNatClampNeg (1000000 : Int32))) fun S5 =>
        f_X12_slips_64 fu fu a x1 x2 x3 (0 : Int32) S5)
      else
        (f_X12_slips_42 fu S a)))
set_option maxHeartbeats 4000000 in
set_option maxRecDepth 100000 in
theorem t_X12_slips_26 {G : GG} {p : Program} {l : Launch} {e : Env} {s : State} {m : MethodId} {args : Array Value} {below : List Frame} {meth : Method} {c : Code} {S0 : ST} {fu : Nat} {z : Int32 × ST} {a : Nat}  {S : ST} {x1 : Int32} {x2 : Int32} {x3 : Int32} {t0 : Int32} (hM : MC G p s m args c cX12_slips w_X12_slips RX12) (hml : c.maxLocals = 6) (hr : meth.sig.returnType = (some .int)) (hlk : meth.locks = false)   (hf : f_X12_slips_26 fu  S a x1 x2 x3 t0 = some z) : (gC (S a) = 11) → (∀ b, gC (S0 b) ≠ 0 → gC (S b) = gC (S0 b)) → ∀ (H : Heap) (locs : List Loc), WB G S s H locs → ∀ (ls : Array Slot), lv_has ls 6 [(0, .ref a), (1, .int x1), (2, .int x2), (3, .int x3)] → W p l e RM_X12_slips s m args below meth c H locs 0 0 (QR G below args s (some (.int z.1)) S0 z.2) (F0 m 26 ls [.int t0]) := by
  intro ha hK0 H locs hW ls hl
  have hx := hM.1
  have hb := hM.2.1
  refine lv_istore (lv' := [(4, .int t0), (0, .ref a), (1, .int x1), (2, .int x2), (3, .int x3)]) hx hb dX12_slips_26 hl (by decide) rfl (fun ls hl => ?_)
  refine lv_iload hx hb dX12_slips_28 (lv_at hl 0 rfl) ?_
  refine lv_if_eq (tgt := 42) hx hb dX12_slips_30 (by decide) (fun c1 => ?_) (fun c1 => ?_)
  · have hf := if_t c1 hf
    exact t_X12_slips_42 (fu := fu) hM hml hr hlk hf ha hK0 _ _ hW _ (lv_sub hl [] rfl)
  · have hf := if_f c1 hf
    refine lv_iload_n hx hb dX12_slips_33 rfl (lv_at hl 4 rfl) ?_
    refine lv_if_lt (tgt := 42) hx hb dX12_slips_34 (by decide) (fun c2 => ?_) (fun c2 => ?_)
    · have hf := if_t c2 hf
      exact t_X12_slips_42 (fu := fu) hM hml hr hlk hf ha hK0 _ _ hW _ (lv_sub hl [] rfl)
    · have hf := if_f c2 hf
      refine lv_iload_n hx hb dX12_slips_37 rfl (lv_at hl 4 rfl) ?_
      refine lv_iload_n hx hb dX12_slips_38 rfl (lv_at hl 3 rfl) ?_
      refine lv_icmp_le (tgt := 44) hx hb dX12_slips_39 (by decide) (fun c3 => ?_) (fun c3 => ?_)
      · have hf := if_t c3 hf
        refine lv_aload_n hx hb dX12_slips_44 rfl (lv_at hl 1 rfl) ?_
        refine b_get hM (hW.at_ a) 10 10 ha rfl rfl (by decide) wi_X12 (wgm fk_RX12_67) (x := .ref (a + 41)) rfl dX12_slips_45 ?_
        refine lv_iconst (v := (0 : Int32)) hx hb dX12_slips_48 (by decide) ?_
        refine s_callSv [.ref (a + 41), .int (0 : Int32)] [] hM hml hl.1 hW (Ct_self (c_fill l G _ a _ _ 10 10 ha (by decide) rfl rfl rfl (show (9 : Nat) < 2 ^ 31 by decide) rfl)) (va_cwS 2 hM.2.2.2.1 (gS mk_RX12_348 sm_J7_fill_53178 it_RJ7 cd_J7_fill_53178) rfl rfl rfl (by decide +kernel) ⟨Nat.le_of_ble_eq_true rfl, Nat.le_of_ble_eq_true rfl⟩) rfl rfl (Nat.le_of_ble_eq_true rfl) ⟨Nat.zero_le _, Nat.zero_le _⟩ dX12_slips_49 (fun H locs hW hk => ?_)
        obtain ⟨S4, eS4⟩ : ∃ y : ST, y = st S a (sAf (S a) 10 (flA (gA (S a) 10) 9 (0 : Int32))) := ⟨_, rfl⟩
        rw [show alen 10 10 (S a) = 9 from rfl, ← eS4] at hW hk
        have hf := nm_at eS4 hf
        have ha := keep1 hk ha
        have hK0 := keep_tr hK0 hk
        refine lv_aload_n hx hb dX12_slips_52 rfl (lv_at hl 1 rfl) ?_
        refine b_get hM (hW.at_ a) 10 10 ha rfl rfl (by decide) wi_X12 (wgm fk_RX12_67) (x := .ref (a + 41)) rfl dX12_slips_53 ?_
        refine lv_iconst (v := (0 : Int32)) hx hb dX12_slips_56 (by decide) ?_
        refine lv_ldcw (v := (1000000 : Int32)) hx hb hM.2.2.1 (hM.2.2.2.1 _ (wgm ki_RX12_357)) dX12_slips_57 ?_
        refine s_iast (n := 9) hM hW 10 10 ha (by decide) rfl rfl rfl rfl (by decide) dX12_slips_60 (fun S5 eS5 hk H locs hW => ?_)
        have hf := nm_at eS5 hf
        have ha := keep1 hk ha
        have hK0 := keep_tr hK0 hk
        refine lv_iconst (v := (0 : Int32)) hx hb dX12_slips_61 (by decide) ?_
        refine lv_istore (lv' := [(5, .int (0 : Int32)), (4, .int t0), (0, .ref a), (1, .int x1), (2, .int x2), (3, .int x3)]) hx hb dX12_slips_62 hl (by decide) rfl (fun ls hl => ?_)
        exact t_X12_slips_64 (fu := fu) hM hml hr hlk _ _ hf ha hK0 _ _ hW _ (lv_sub hl [2, 3, 4, 5, 0] rfl)
      · have hf := if_f c3 hf
        exact t_X12_slips_42 (fu := fu) hM hml hr hlk hf ha hK0 _ _ hW _ (lv_sub hl [] rfl)
noncomputable def f_X12_slips_25 (fu : Nat)  (S : ST) (a : Nat) (x1 : Int32) (x2 : Int32) (x3 : Int32) : Option (Int32 × ST) :=
  f_X12_slips_26 fu S a x1 x2 x3 (0 : Int32)
set_option maxHeartbeats 4000000 in
set_option maxRecDepth 100000 in
theorem t_X12_slips_25 {G : GG} {p : Program} {l : Launch} {e : Env} {s : State} {m : MethodId} {args : Array Value} {below : List Frame} {meth : Method} {c : Code} {S0 : ST} {fu : Nat} {z : Int32 × ST} {a : Nat}  {S : ST} {x1 : Int32} {x2 : Int32} {x3 : Int32} (hM : MC G p s m args c cX12_slips w_X12_slips RX12) (hml : c.maxLocals = 6) (hr : meth.sig.returnType = (some .int)) (hlk : meth.locks = false)   (hf : f_X12_slips_25 fu  S a x1 x2 x3 = some z) : (gC (S a) = 11) → (∀ b, gC (S0 b) ≠ 0 → gC (S b) = gC (S0 b)) → ∀ (H : Heap) (locs : List Loc), WB G S s H locs → ∀ (ls : Array Slot), lv_has ls 6 [(0, .ref a), (1, .int x1), (2, .int x2), (3, .int x3)] → W p l e RM_X12_slips s m args below meth c H locs 0 0 (QR G below args s (some (.int z.1)) S0 z.2) (F0 m 25 ls []) := by
  intro ha hK0 H locs hW ls hl
  have hx := hM.1
  have hb := hM.2.1
  refine lv_iconst (v := (0 : Int32)) hx hb dX12_slips_25 (by decide) ?_
  exact t_X12_slips_26 (fu := fu) hM hml hr hlk hf ha hK0 _ _ hW _ (lv_sub hl [0, 1, 2, 3] rfl)
noncomputable def f_X12_slips_0 (fu : Nat)  (S : ST) (a : Nat) (x1 : Int32) (x2 : Int32) (x3 : Int32) : Option (Int32 × ST) :=
  if x1 < 0 then
    (f_X12_slips_25 fu S a x1 x2 x3)
  else
    (if (30 : Int32) < x1 then
      (f_X12_slips_25 fu S a x1 x2 x3)
    else
      (if x2 < (1 : Int32) then
        (f_X12_slips_25 fu S a x1 x2 x3)
      else
        (if (8 : Int32) < x2 then
          (f_X12_slips_25 fu S a x1 x2 x3)
        else
          (f_X12_slips_26 fu S a x1 x2 x3 (1 : Int32)))))
set_option maxHeartbeats 4000000 in
set_option maxRecDepth 100000 in
theorem t_X12_slips_0 {G : GG} {p : Program} {l : Launch} {e : Env} {s : State} {m : MethodId} {args : Array Value} {below : List Frame} {meth : Method} {c : Code} {S0 : ST} {fu : Nat} {z : Int32 × ST} {a : Nat}  {S : ST} {x1 : Int32} {x2 : Int32} {x3 : Int32} (hM : MC G p s m args c cX12_slips w_X12_slips RX12) (hml : c.maxLocals = 6) (hr : meth.sig.returnType = (some .int)) (hlk : meth.locks = false)   (hf : f_X12_slips_0 fu  S a x1 x2 x3 = some z) : (gC (S a) = 11) → (∀ b, gC (S0 b) ≠ 0 → gC (S b) = gC (S0 b)) → ∀ (H : Heap) (locs : List Loc), WB G S s H locs → ∀ (ls : Array Slot), lv_has ls 6 [(0, .ref a), (1, .int x1), (2, .int x2), (3, .int x3)] → W p l e RM_X12_slips s m args below meth c H locs 0 0 (QR G below args s (some (.int z.1)) S0 z.2) (F0 m 0 ls []) := by
  intro ha hK0 H locs hW ls hl
  have hx := hM.1
  have hb := hM.2.1
  refine lv_iload_n hx hb dX12_slips_0 rfl (lv_at hl 1 rfl) ?_
  refine lv_if_lt (tgt := 25) hx hb dX12_slips_1 (by decide) (fun c1 => ?_) (fun c1 => ?_)
  · have hf := if_t c1 hf
    exact t_X12_slips_25 (fu := fu) hM hml hr hlk hf ha hK0 _ _ hW _ (lv_sub hl [0, 1, 2, 3] rfl)
  · have hf := if_f c1 hf
    refine lv_iload_n hx hb dX12_slips_4 rfl (lv_at hl 1 rfl) ?_
    refine lv_bipush (v := (30 : Int32)) hx hb dX12_slips_5 (by decide) ?_
    refine lv_icmp_gt (tgt := 25) hx hb dX12_slips_7 (by decide) (fun c2 => ?_) (fun c2 => ?_)
    · have hf := if_t c2 hf
      exact t_X12_slips_25 (fu := fu) hM hml hr hlk hf ha hK0 _ _ hW _ (lv_sub hl [0, 1, 2, 3] rfl)
    · have hf := if_f c2 hf
      refine lv_iload_n hx hb dX12_slips_10 rfl (lv_at hl 2 rfl) ?_
      refine lv_iconst (v := (1 : Int32)) hx hb dX12_slips_11 (by decide) ?_
      refine lv_icmp_lt (tgt := 25) hx hb dX12_slips_12 (by decide) (fun c3 => ?_) (fun c3 => ?_)
      · have hf := if_t c3 hf
        exact t_X12_slips_25 (fu := fu) hM hml hr hlk hf ha hK0 _ _ hW _ (lv_sub hl [0, 1, 2, 3] rfl)
      · have hf := if_f c3 hf
        refine lv_iload_n hx hb dX12_slips_15 rfl (lv_at hl 2 rfl) ?_
        refine lv_bipush (v := (8 : Int32)) hx hb dX12_slips_16 (by decide) ?_
        refine lv_icmp_gt (tgt := 25) hx hb dX12_slips_18 (by decide) (fun c4 => ?_) (fun c4 => ?_)
        · have hf := if_t c4 hf
          exact t_X12_slips_25 (fu := fu) hM hml hr hlk hf ha hK0 _ _ hW _ (lv_sub hl [0, 1, 2, 3] rfl)
        · have hf := if_f c4 hf
          refine lv_iconst (v := (1 : Int32)) hx hb dX12_slips_21 (by decide) ?_
          refine lv_goto (tgt := 26) hx hb dX12_slips_22 (by decide) ?_
          exact t_X12_slips_26 (fu := fu) hM hml hr hlk hf ha hK0 _ _ hW _ (lv_sub hl [0, 1, 2, 3] rfl)
noncomputable def f_X12_slips (fu : Nat) (S : ST) (a : Nat) (x1 : Int32) (x2 : Int32) (x3 : Int32) : Option (Int32 × ST) := f_X12_slips_0 fu S a x1 x2 x3
set_option maxHeartbeats 4000000 in
set_option maxRecDepth 100000 in
theorem c_X12_slips (l : Launch) (G : GG) (fu : Nat) (S : ST) (a : Nat) (x1 : Int32) (x2 : Int32) (x3 : Int32) {z : Int32} {w : ST} (ha : gC (S a) = 11) (hf : f_X12_slips fu S a x1 x2 x3 = some (z, w)) : Ct l yX12_slips w_X12_slips RM_X12_slips G S [.ref a, .int x1, .int x2, .int x3] (some (.int z)) w 0 0 := by
  refine Met.ofW (cc := cX12_slips) (maxL := 6) (ret := (some .int)) (by decide) rfl ?_
  intro p e s m args below meth c s₁ B hml hv
  obtain ⟨rfl, hB, hK, hz⟩ := hv
  have hM : MC G p s m _ c cX12_slips w_X12_slips RX12 := ⟨B.exec, B.bytes, findClass_of_methodNamed B.named, atoms_spec (ws := w_X12_slips) B.pre, hK, hz⟩
  have hW : WB G S s s.heap [] := ⟨hB, va_S.rf⟩
  have hl := lv_entry ([.ref a, .int x1, .int x2, .int x3]) (n := 6) (Nat.le_of_ble_eq_true rfl)
  rw [lg_entry_eq]
  generalize (lg_sl ([.ref a, .int x1, .int x2, .int x3]) ++ List.replicate (6 - (lg_sl ([.ref a, .int x1, .int x2, .int x3])).length) Slot.unset).toArray = ls at hl ⊢
  have hl : lv_has ls 6 [(0, .ref a), (1, .int x1), (2, .int x2), (3, .int x3)] := hl
  exact t_X12_slips_0 (fu := fu) hM hml B.returns B.notSynchronized hf ha (fun _ _ => rfl) _ _ hW _ (lv_sub hl [0, 1, 2, 3] rfl)
