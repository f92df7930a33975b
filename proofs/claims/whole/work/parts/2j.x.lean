abbrev RM_X9_grow : Room := { frames := 11, cells := 0, slots := 0, locals := 297 }
abbrev w_X9_grow : List Cond := Cond.code yX9_grow cX9_grow 4 none :: wsL_law0
noncomputable def f_X9_grow_52 (fu : Nat) (k7 : Int32 → ST → Option (ST)) (S : ST) (a : Nat) (g1 : Nat) (x2 : Int32) (x3 : Int32) : Option (ST) :=
  nm (x3 + (1 : Int32)) fun y1 =>
  k7 y1 S
set_option maxHeartbeats 4000000 in
set_option maxRecDepth 100000 in
theorem t_X9_grow_52 {G : GG} {p : Program} {l : Launch} {e : Env} {s : State} {m : MethodId} {args : Array Value} {below : List Frame} {meth : Method} {c : Code} {S0 : ST} {fu : Nat} {z : ST} {a : Nat} {g1 : Nat} {k7 : Int32 → ST → Option (ST)} {S : ST} {x2 : Int32} {x3 : Int32} (hM : MC G p s m args c cX9_grow w_X9_grow RX9) (hml : c.maxLocals = 4) (hr : meth.sig.returnType = none) (hlk : meth.locks = false)  (hk7 : ∀ (x3 : Int32) (S : ST), k7 x3 S = some z → (gC (S a) = 9) → (gC (S g1) = 3) → (∀ b, gC (S0 b) ≠ 0 → gC (S b) = gC (S0 b)) → ∀ (H : Heap) (locs : List Loc), WB G S s H locs → ∀ (ls : Array Slot), lv_has ls 4 [(0, .ref a), (1, .ref g1), (2, .int x2), (3, .int x3)] → W p l e RM_X9_grow s m args below meth c H locs 0 0 (QR G below args s none S0 z) (F0 m 7 ls [])) (hf : f_X9_grow_52 fu k7 S a g1 x2 x3 = some z) : (gC (S a) = 9) → (gC (S g1) = 3) → (∀ b, gC (S0 b) ≠ 0 → gC (S b) = gC (S0 b)) → ∀ (H : Heap) (locs : List Loc), WB G S s H locs → ∀ (ls : Array Slot), lv_has ls 4 [(0, .ref a), (1, .ref g1), (2, .int x2), (3, .int x3)] → W p l e RM_X9_grow s m args below meth c H locs 0 0 (QR G below args s none S0 z) (F0 m 52 ls []) := by
  intro ha hg1 hK0 H locs hW ls hl
  have hx := hM.1
  have hb := hM.2.1
  obtain ⟨y1, ey1⟩ : ∃ y : Int32, y = x3 + (1 : Int32) := ⟨_, rfl⟩
  have hf := nm_at ey1 hf
  refine lv_iinc (v := y1) (lv' := [(3, .int y1), (0, .ref a), (1, .ref g1), (2, .int x2)]) hx hb dX9_grow_52 hl (k := 3) rfl (by rw [ey1]; rfl) (by decide) rfl (fun ls hl => ?_)
  refine lv_goto (tgt := 7) hx hb dX9_grow_55 (by decide) ?_
  exact hk7 _ _ hf ha hg1 hK0 _ _ hW _ (lv_sub hl [1, 2, 3, 0] rfl)
noncomputable def f_X9_grow_7s (fu : Nat)  (k7 : Int32 → ST → Option (ST)) (a : Nat) (g1 : Nat) (x2 : Int32) (x3 : Int32) (S : ST) : Option (ST) :=
  if (gI (S g1) 7) ≤ x3 then
    (nm (st S a (sI (S a) 4 (1000 : Int32))) fun S2 =>
    nm (st S2 a (sI (S2 a) 5 (0 : Int32))) fun S3 =>
    bd (f_X9_joinD fu 8 S3 a g1 (1 : Int32) (0 : Int32)) fun S5 =>
    some S5)
  else
    (if ((x2 >>> (x3 &&& 31)) &&& (1 : Int32)) = 0 then
      (f_X9_grow_52 fu k7 S a g1 x2 x3)
    else
      (if (6 : Int32) ≤ (gI (S a) 3) then
        (f_X9_grow_52 fu k7 S a g1 x2 x3)
      else
        (ck (inb (gI (S a) 3) 6) <|
        nm (st S a (sA (S a) 0 (gI (S a) 3).toNatClampNeg x3)) fun S9 =>
        nm (st S9 a (sI (S9 a) 3 ((gI (S9 a) 3) + (1 : Int32)))) fun S10 =>
        f_X9_grow_52 fu k7 S10 a g1 x2 x3)))
noncomputable def f_X9_grow_7 (fu n : Nat)  (a : Nat) (g1 : Nat) (x2 : Int32) : Int32 → ST → Option (ST) :=
  lq_2 (fun k7 => f_X9_grow_7s fu  k7  a g1 x2) n
set_option maxHeartbeats 4000000 in
set_option maxRecDepth 100000 in
theorem t_X9_grow_7s {G : GG} {p : Program} {l : Launch} {e : Env} {s : State} {m : MethodId} {args : Array Value} {below : List Frame} {meth : Method} {c : Code} {S0 : ST} {fu : Nat} {z : ST} {a : Nat} {g1 : Nat}  {k7 : Int32 → ST → Option (ST)} {x2 : Int32} (hM : MC G p s m args c cX9_grow w_X9_grow RX9) (hml : c.maxLocals = 4) (hr : meth.sig.returnType = none) (hlk : meth.locks = false)   (hk7 : ∀ (x3 : Int32) (S : ST), k7 x3 S = some z → (gC (S a) = 9) → (gC (S g1) = 3) → (∀ b, gC (S0 b) ≠ 0 → gC (S b) = gC (S0 b)) → ∀ (H : Heap) (locs : List Loc), WB G S s H locs → ∀ (ls : Array Slot), lv_has ls 4 [(0, .ref a), (1, .ref g1), (2, .int x2), (3, .int x3)] → W p l e RM_X9_grow s m args below meth c H locs 0 0 (QR G below args s none S0 z) (F0 m 7 ls [])) : ∀ (x3 : Int32) (S : ST), f_X9_grow_7s fu  k7  a g1 x2 x3 S = some z → (gC (S a) = 9) → (gC (S g1) = 3) → (∀ b, gC (S0 b) ≠ 0 → gC (S b) = gC (S0 b)) → ∀ (H : Heap) (locs : List Loc), WB G S s H locs → ∀ (ls : Array Slot), lv_has ls 4 [(0, .ref a), (1, .ref g1), (2, .int x2), (3, .int x3)] → W p l e RM_X9_grow s m args below meth c H locs 0 0 (QR G below args s none S0 z) (F0 m 7 ls []) := by
  intro x3 S hf ha hg1 hK0 H locs hW ls hl
  have hx := hM.1
  have hb := hM.2.1
  refine lv_iload_n hx hb dX9_grow_7 rfl (lv_at hl 3 rfl) ?_
  refine lv_aload_n hx hb dX9_grow_8 rfl (lv_at hl 1 rfl) ?_
  refine b_get hM (hW.at_ g1) 2 7 hg1 rfl rfl (by decide) wi_X3 (wgm fk_RX9_31) (x := .int (gI (S g1) 7)) rfl dX9_grow_9 ?_
  refine lv_icmp_ge (tgt := 58) hx hb dX9_grow_12 (by decide) (fun c1 => ?_) (fun c1 => ?_)
  · have hf := if_t c1 hf
    refine lv_aload_n hx hb dX9_grow_58 rfl (lv_at hl 0 rfl) ?_
    refine lv_sipush (v := (1000 : Int32)) hx hb dX9_grow_59 (by decide) ?_
    refine s_putI hM hW 8 4 ha rfl rfl (by decide) wi_X9 tyX9 tyX9_ok nmX9 (wgm fk_RX9_25) rfl rfl rfl dX9_grow_62 (fun S2 eS2 hk H locs hW => ?_)
    have hf := nm_at eS2 hf
    have ha := keep1 hk ha
    have hg1 := keep1 hk hg1
    have hK0 := keep_tr hK0 hk
    refine lv_aload_n hx hb dX9_grow_65 rfl (lv_at hl 0 rfl) ?_
    refine lv_iconst (v := (0 : Int32)) hx hb dX9_grow_66 (by decide) ?_
    refine s_putI hM hW 8 5 ha rfl rfl (by decide) wi_X9 tyX9 tyX9_ok nmX9 (wgm fk_RX9_28) rfl rfl rfl dX9_grow_67 (fun S3 eS3 hk H locs hW => ?_)
    have hf := nm_at eS3 hf
    have ha := keep1 hk ha
    have hg1 := keep1 hk hg1
    have hK0 := keep_tr hK0 hk
    refine lv_aload_n hx hb dX9_grow_70 rfl (lv_at hl 0 rfl) ?_
    refine lv_aload_n hx hb dX9_grow_71 rfl (lv_at hl 1 rfl) ?_
    refine lv_iconst (v := (1 : Int32)) hx hb dX9_grow_72 (by decide) ?_
    refine lv_iconst (v := (0 : Int32)) hx hb dX9_grow_73 (by decide) ?_
    obtain ⟨S5, hr4, hf⟩ := bd_elim hf
    refine s_callVv [.ref g1, .int (1 : Int32), .int (0 : Int32)] [] hM hml hl.1 hW ha rfl (by decide) (c_X9_joinD l G fu 8 _ a _ _ _ _ ha hg1 hr4) (cwV 3 hM.2.2.2.1 (gV mk_RX9_36 im_X9_join se_X9_join it_RX9 cd_X9_join) rfl rfl rfl (by decide +kernel) ⟨Nat.le_of_ble_eq_true rfl, Nat.le_of_ble_eq_true rfl⟩) rfl rfl (Nat.le_of_ble_eq_true rfl) ⟨Nat.zero_le _, Nat.zero_le _⟩ dX9_grow_74 (fun H locs hW hk => ?_)
    have ha := keep1 hk ha
    have hg1 := keep1 hk hg1
    have hK0 := keep_tr hK0 hk
    cases hf
    exact W.vret hx hb hr (b_ret0 hW hK0 _) hW.2.2.2 dX9_grow_77 hlk
  · have hf := if_f c1 hf
    refine lv_iload_n hx hb dX9_grow_15 rfl (lv_at hl 2 rfl) ?_
    refine lv_iload_n hx hb dX9_grow_16 rfl (lv_at hl 3 rfl) ?_
    refine lv_ishr hx hb dX9_grow_17 ?_
    refine lv_iconst (v := (1 : Int32)) hx hb dX9_grow_18 (by decide) ?_
    refine lv_iand hx hb dX9_grow_19 ?_
    refine lv_if_eq (tgt := 52) hx hb dX9_grow_20 (by decide) (fun c6 => ?_) (fun c6 => ?_)
    · have hf := if_t c6 hf
      exact t_X9_grow_52 (fu := fu) hM hml hr hlk hk7 hf ha hg1 hK0 _ _ hW _ (lv_sub hl [0, 1, 2, 3] rfl)
    · have hf := if_f c6 hf
      refine lv_aload_n hx hb dX9_grow_23 rfl (lv_at hl 0 rfl) ?_
      refine b_get hM (hW.at_ a) 8 3 ha rfl rfl (by decide) wi_X9 (wgm fk_RX9_21) (x := .int (gI (S a) 3)) rfl dX9_grow_24 ?_
      refine lv_bipush (v := (6 : Int32)) hx hb dX9_grow_27 (by decide) ?_
      refine lv_icmp_ge (tgt := 52) hx hb dX9_grow_29 (by decide) (fun c7 => ?_) (fun c7 => ?_)
      · have hf := if_t c7 hf
        exact t_X9_grow_52 (fu := fu) hM hml hr hlk hk7 hf ha hg1 hK0 _ _ hW _ (lv_sub hl [0, 1, 2, 3] rfl)
      · have hf := if_f c7 hf
        refine lv_aload_n hx hb dX9_grow_32 rfl (lv_at hl 0 rfl) ?_
        refine b_get hM (hW.at_ a) 8 0 ha rfl rfl (by decide) wi_X9 (wgm fk_RX9_11) (x := .ref (a + 1)) rfl dX9_grow_33 ?_
        refine lv_aload_n hx hb dX9_grow_36 rfl (lv_at hl 0 rfl) ?_
        refine b_get hM (hW.at_ a) 8 3 ha rfl rfl (by decide) wi_X9 (wgm fk_RX9_21) (x := .int (gI (S a) 3)) rfl dX9_grow_37 ?_
        refine lv_iload_n hx hb dX9_grow_40 rfl (lv_at hl 3 rfl) ?_
        obtain ⟨h8, hf⟩ := ck_elim hf
        refine s_iast (n := 6) hM hW 8 0 ha (by decide) rfl rfl rfl rfl h8 dX9_grow_41 (fun S9 eS9 hk H locs hW => ?_)
        have hf := nm_at eS9 hf
        have ha := keep1 hk ha
        have hg1 := keep1 hk hg1
        have hK0 := keep_tr hK0 hk
        refine lv_aload_n hx hb dX9_grow_42 rfl (lv_at hl 0 rfl) ?_
        refine lv_dup hx hb dX9_grow_43 rfl ?_
        refine b_get hM (hW.at_ a) 8 3 ha rfl rfl (by decide) wi_X9 (wgm fk_RX9_21) (x := .int (gI (S9 a) 3)) rfl dX9_grow_44 ?_
        refine lv_iconst (v := (1 : Int32)) hx hb dX9_grow_47 (by decide) ?_
        refine lv_iadd hx hb dX9_grow_48 ?_
        refine s_putI hM hW 8 3 ha rfl rfl (by decide) wi_X9 tyX9 tyX9_ok nmX9 (wgm fk_RX9_21) rfl rfl rfl dX9_grow_49 (fun S10 eS10 hk H locs hW => ?_)
        have hf := nm_at eS10 hf
        have ha := keep1 hk ha
        have hg1 := keep1 hk hg1
        have hK0 := keep_tr hK0 hk
        exact t_X9_grow_52 (fu := fu) hM hml hr hlk hk7 hf ha hg1 hK0 _ _ hW _ (lv_sub hl [0, 1, 2, 3] rfl)
theorem t_X9_grow_7 {G : GG} {p : Program} {l : Launch} {e : Env} {s : State} {m : MethodId} {args : Array Value} {below : List Frame} {meth : Method} {c : Code} {S0 : ST} {fu : Nat} {z : ST} {a : Nat} {g1 : Nat}  {x2 : Int32} (hM : MC G p s m args c cX9_grow w_X9_grow RX9) (hml : c.maxLocals = 4) (hr : meth.sig.returnType = none) (hlk : meth.locks = false)   : ∀ {n : Nat} (x3 : Int32) (S : ST), f_X9_grow_7 fu n   a g1 x2 x3 S = some z → (gC (S a) = 9) → (gC (S g1) = 3) → (∀ b, gC (S0 b) ≠ 0 → gC (S b) = gC (S0 b)) → ∀ (H : Heap) (locs : List Loc), WB G S s H locs → ∀ (ls : Array Slot), lv_has ls 4 [(0, .ref a), (1, .ref g1), (2, .int x2), (3, .int x3)] → W p l e RM_X9_grow s m args below meth c H locs 0 0 (QR G below args s none S0 z) (F0 m 7 ls []) := by
  intro n
  induction n with
  | zero => intro x3 S hf; cases hf
  | succ n ih => intro x3 S hf; exact t_X9_grow_7s (fu := fu) hM hml hr hlk (k7 := f_X9_grow_7 fu n   a g1 x2) ih _ _ hf
noncomputable def f_X9_grow_0 (fu : Nat)  (S : ST) (a : Nat) (g1 : Nat) (x2 : Int32) : Option (ST) :=
  nm (st S a (sI (S a) 3 (0 : Int32))) fun S1 =>
  f_X9_grow_7 fu fu a g1 x2 (0 : Int32) S1
set_option maxHeartbeats 4000000 in
set_option maxRecDepth 100000 in
theorem t_X9_grow_0 {G : GG} {p : Program} {l : Launch} {e : Env} {s : State} {m : MethodId} {args : Array Value} {below : List Frame} {meth : Method} {c : Code} {S0 : ST} {fu : Nat} {z : ST} {a : Nat} {g1 : Nat}  {S : ST} {x2 : Int32} (hM : MC G p s m args c cX9_grow w_X9_grow RX9) (hml : c.maxLocals = 4) (hr : meth.sig.returnType = none) (hlk : meth.locks = false)   (hf : f_X9_grow_0 fu  S a g1 x2 = some z) : (gC (S a) = 9) → (gC (S g1) = 3) → (∀ b, gC (S0 b) ≠ 0 → gC (S b) = gC (S0 b)) → ∀ (H : Heap) (locs : List Loc), WB G S s H locs → ∀ (ls : Array Slot), lv_has ls 4 [(0, .ref a), (1, .ref g1), (2, .int x2)] → W p l e RM_X9_grow s m args below meth c H locs 0 0 (QR G below args s none S0 z) (F0 m 0 ls []) := by
  intro ha hg1 hK0 H locs hW ls hl
  have hx := hM.1
  have hb := hM.2.1
  refine lv_aload_n hx hb dX9_grow_0 rfl (lv_at hl 0 rfl) ?_
  refine lv_iconst (v := (0 : Int32)) hx hb dX9_grow_1 (by decide) ?_
  refine s_putI hM hW 8 3 ha rfl rfl (by decide) wi_X9 tyX9 tyX9_ok nmX9 (wgm fk_RX9_21) rfl rfl rfl dX9_grow_2 (fun S1 eS1 hk H locs hW => ?_)
  have hf := nm_at eS1 hf
  have ha := keep1 hk ha
  have hg1 := keep1 hk hg1
  have hK0 := keep_tr hK0 hk
  refine lv_iconst (v := (0 : Int32)) hx hb dX9_grow_5 (by decide) ?_
  refine lv_istore_n (lv' := [(3, .int (0 : Int32)), (0, .ref a), (1, .ref g1), (2, .int x2)]) hx hb dX9_grow_6 rfl hl (by decide) rfl (fun ls hl => ?_)
  exact t_X9_grow_7 (fu := fu) hM hml hr hlk _ _ hf ha hg1 hK0 _ _ hW _ (lv_sub hl [1, 2, 3, 0] rfl)
noncomputable def f_X9_grow (fu : Nat) (S : ST) (a : Nat) (g1 : Nat) (x2 : Int32) : Option (ST) := f_X9_grow_0 fu S a g1 x2
set_option maxHeartbeats 4000000 in
set_option maxRecDepth 100000 in
theorem c_X9_grow (l : Launch) (G : GG) (fu : Nat) (S : ST) (a : Nat) (g1 : Nat) (x2 : Int32) {z : ST} (ha : gC (S a) = 9) (hg1 : gC (S g1) = 3) (hf : f_X9_grow fu S a g1 x2 = some z) : Ct l yX9_grow w_X9_grow RM_X9_grow G S [.ref a, .ref g1, .int x2] none z 0 0 := by
  refine Met.ofW (cc := cX9_grow) (maxL := 4) (ret := none) (by decide) rfl ?_
  intro p e s m args below meth c s₁ B hml hv
  obtain ⟨rfl, hB, hK, hz⟩ := hv
  have hM : MC G p s m _ c cX9_grow w_X9_grow RX9 := ⟨B.exec, B.bytes, findClass_of_methodNamed B.named, atoms_spec (ws := w_X9_grow) B.pre, hK, hz⟩
  have hW : WB G S s s.heap [] := ⟨hB, va_S.rf⟩
  have hl := lv_entry ([.ref a, .ref g1, .int x2]) (n := 4) (Nat.le_of_ble_eq_true rfl)
  rw [lg_entry_eq]
  generalize (lg_sl ([.ref a, .ref g1, .int x2]) ++ List.replicate (4 - (lg_sl ([.ref a, .ref g1, .int x2])).length) Slot.unset).toArray = ls at hl ⊢
  have hl : lv_has ls 4 [(0, .ref a), (1, .ref g1), (2, .int x2)] := hl
  exact t_X9_grow_0 (fu := fu) hM hml B.returns B.notSynchronized hf ha hg1 (fun _ _ => rfl) _ _ hW _ (lv_sub hl [0, 1, 2] rfl)
abbrev RM_X9_joinedTo : Room := { frames := 0, cells := 0, slots := 0, locals := 0 }
abbrev w_X9_joinedTo : List Cond := Cond.code yX9_joinedTo cX9_joinedTo 2 (some .int) :: wsL_law0
noncomputable def f_X9_joinedTo_13 (fu : Nat)  (v : GV) : Option (Int32) :=
  some ((-1 : Int32))
set_option maxHeartbeats 4000000 in
set_option maxRecDepth 100000 in
theorem t_X9_joinedTo_13 {G : GG} {p : Program} {l : Launch} {e : Env} {s : State} {m : MethodId} {args : Array Value} {below : List Frame} {meth : Method} {c : Code} {S : ST} {fu : Nat} {z : Int32} {a : Nat} {v : GV}  (hM : MC G p s m args c cX9_joinedTo w_X9_joinedTo RX9) (hml : c.maxLocals = 2) (hr : meth.sig.returnType = (some .int)) (hlk : meth.locks = false) (hc0 : gC v = 9)  (hf : f_X9_joinedTo_13 fu  v   = some z) : ∀ (H : Heap) (locs : List Loc), WB G (st S a v) s H locs → ∀ (ls : Array Slot), lv_has ls 2 [] → W p l e RM_X9_joinedTo s m args below meth c H locs 0 0 (QR G below args s (some (.int z)) (st S a v) (st S a v)) (F0 m 13 ls []) := by
  intro  H locs hW ls hl
  have hx := hM.1
  have hb := hM.2.1
  have hc := hc0
  refine lv_iconst (v := (-1 : Int32)) hx hb dX9_joinedTo_13 (by decide) ?_
  cases hf
  exact W.iret hx hb hr (b_ret0 hW (fun _ _ => rfl) _) hW.2.2.2 dX9_joinedTo_14 hlk
noncomputable def f_X9_joinedTo_0 (fu : Nat)  (v : GV) (x1 : Int32) : Option (Int32) :=
  if x1 < (1 : Int32) then
    (f_X9_joinedTo_13 fu v)
  else
    (if x1 < (gI v 3) then
      (ck (inb x1 6) <|
      nm ((gA v 2 x1.toNatClampNeg)) fun y4 =>
      ck (inb y4 6) <|
      some ((gA v 0 y4.toNatClampNeg)))
    else
      (f_X9_joinedTo_13 fu v))
set_option maxHeartbeats 4000000 in
set_option maxRecDepth 100000 in
theorem t_X9_joinedTo_0 {G : GG} {p : Program} {l : Launch} {e : Env} {s : State} {m : MethodId} {args : Array Value} {below : List Frame} {meth : Method} {c : Code} {S : ST} {fu : Nat} {z : Int32} {a : Nat} {v : GV}  {x1 : Int32} (hM : MC G p s m args c cX9_joinedTo w_X9_joinedTo RX9) (hml : c.maxLocals = 2) (hr : meth.sig.returnType = (some .int)) (hlk : meth.locks = false) (hc0 : gC v = 9)  (hf : f_X9_joinedTo_0 fu  v  x1 = some z) : ∀ (H : Heap) (locs : List Loc), WB G (st S a v) s H locs → ∀ (ls : Array Slot), lv_has ls 2 [(0, .ref a), (1, .int x1)] → W p l e RM_X9_joinedTo s m args below meth c H locs 0 0 (QR G below args s (some (.int z)) (st S a v) (st S a v)) (F0 m 0 ls []) := by
  intro  H locs hW ls hl
  have hx := hM.1
  have hb := hM.2.1
  have hc := hc0
  refine lv_iload_n hx hb dX9_joinedTo_0 rfl (lv_at hl 1 rfl) ?_
  refine lv_iconst (v := (1 : Int32)) hx hb dX9_joinedTo_1 (by decide) ?_
  refine lv_icmp_lt (tgt := 13) hx hb dX9_joinedTo_2 (by decide) (fun c1 => ?_) (fun c1 => ?_)
  · have hf := if_t c1 hf
    exact t_X9_joinedTo_13 (fu := fu) hM hml hr hlk hc0 hf _ _ hW _ (lv_sub hl [] rfl)
  · have hf := if_f c1 hf
    refine lv_iload_n hx hb dX9_joinedTo_5 rfl (lv_at hl 1 rfl) ?_
    refine lv_aload_n hx hb dX9_joinedTo_6 rfl (lv_at hl 0 rfl) ?_
    refine b_get hM hW 8 3 hc rfl rfl (by decide) wi_X9 (wgm fk_RX9_21) (x := .int (gI v 3)) rfl dX9_joinedTo_7 ?_
    refine lv_icmp_lt (tgt := 15) hx hb dX9_joinedTo_10 (by decide) (fun c2 => ?_) (fun c2 => ?_)
    · have hf := if_t c2 hf
      refine lv_aload_n hx hb dX9_joinedTo_15 rfl (lv_at hl 0 rfl) ?_
      refine b_get hM hW 8 0 hc rfl rfl (by decide) wi_X9 (wgm fk_RX9_11) (x := .ref (a + 1)) rfl dX9_joinedTo_16 ?_
      refine lv_aload_n hx hb dX9_joinedTo_19 rfl (lv_at hl 0 rfl) ?_
      refine b_get hM hW 8 2 hc rfl rfl (by decide) wi_X9 (wgm fk_RX9_18) (x := .ref (a + 3)) rfl dX9_joinedTo_20 ?_
      refine lv_iload_n hx hb dX9_joinedTo_23 rfl (lv_at hl 1 rfl) ?_
      obtain ⟨h3, hf⟩ := ck_elim hf
      refine b_iald (n := 6) hM hW 8 2 hc (by decide) rfl rfl rfl rfl h3 dX9_joinedTo_24 ?_
      refine lv_topi (fun y4 ey4 => ?_)
      have hf := nm_at ey4 hf
      obtain ⟨h5, hf⟩ := ck_elim hf
      refine b_iald (n := 6) hM hW 8 0 hc (by decide) rfl rfl rfl rfl h5 dX9_joinedTo_25 ?_
      cases hf
      exact W.iret hx hb hr (b_ret0 hW (fun _ _ => rfl) _) hW.2.2.2 dX9_joinedTo_26 hlk
    · have hf := if_f c2 hf
      exact t_X9_joinedTo_13 (fu := fu) hM hml hr hlk hc0 hf _ _ hW _ (lv_sub hl [] rfl)
noncomputable def f_X9_joinedTo (fu : Nat) (v : GV) (x1 : Int32) : Option (Int32) := f_X9_joinedTo_0 fu v x1
set_option maxHeartbeats 4000000 in
set_option maxRecDepth 100000 in
theorem c_X9_joinedTo (l : Launch) (G : GG) (fu : Nat) (S : ST) (a : Nat) (v : GV) (x1 : Int32) {z : Int32} (hc : gC v = 9) (hf : f_X9_joinedTo fu v x1 = some z) : Ct l yX9_joinedTo w_X9_joinedTo RM_X9_joinedTo G (st S a v) [.ref a, .int x1] (some (.int z)) (st S a v) 0 0 := by
  refine Met.ofW (cc := cX9_joinedTo) (maxL := 2) (ret := (some .int)) (by decide) rfl ?_
  intro p e s m args below meth c s₁ B hml hv
  obtain ⟨rfl, hB, hK, hz⟩ := hv
  have hM : MC G p s m _ c cX9_joinedTo w_X9_joinedTo RX9 := ⟨B.exec, B.bytes, findClass_of_methodNamed B.named, atoms_spec (ws := w_X9_joinedTo) B.pre, hK, hz⟩
  have hW : WB G (st S a v) s s.heap [] := ⟨hB, va_S.rf⟩
  have hl := lv_entry ([.ref a, .int x1]) (n := 2) (Nat.le_of_ble_eq_true rfl)
  rw [lg_entry_eq]
  generalize (lg_sl ([.ref a, .int x1]) ++ List.replicate (2 - (lg_sl ([.ref a, .int x1])).length) Slot.unset).toArray = ls at hl ⊢
  have hl : lv_has ls 2 [(0, .ref a), (1, .int x1)] := hl
  exact t_X9_joinedTo_0 (fu := fu) hM hml B.returns B.notSynchronized hc hf _ _ hW _ (lv_sub hl [0, 1] rfl)
abbrev RM_X11_draw : Room := { frames := 0, cells := 0, slots := 0, locals := 0 }
abbrev w_X11_draw : List Cond := Cond.code yX11_draw cX11_draw 2 (some .int) :: wsL_law0
noncomputable def f_X11_draw_0 (fu : Nat)  (v : GV) (x1 : Int32) : Option (Int32 × GV) :=
  nm (sJ v 1 ((((gJ v 1) * (1103515245 : Int64)) + (12345 : Int64)) - (((gJ v 1) * (1103515245 : Int64)) + (12345 : Int64)) / (2147483648 : Int64) * (2147483648 : Int64))) fun v1 =>
  if x1 ≤ 0 then
    (some ((0 : Int32), v1))
  else
    (nm ((x1).toInt64) fun y3 =>
    ck (decide (¬ y3 = 0)) <|
    some (((((gJ v1 1) / (65536 : Int64)) - ((gJ v1 1) / (65536 : Int64)) / y3 * y3)).toInt32, v1))
set_option maxHeartbeats 4000000 in
set_option maxRecDepth 100000 in
theorem t_X11_draw_0 {G : GG} {p : Program} {l : Launch} {e : Env} {s : State} {m : MethodId} {args : Array Value} {below : List Frame} {meth : Method} {c : Code} {S : ST} {fu : Nat} {z : Int32 × GV} {a : Nat} {v0 : GV}  {v : GV} {x1 : Int32} (hM : MC G p s m args c cX11_draw w_X11_draw RX11) (hml : c.maxLocals = 2) (hr : meth.sig.returnType = (some .int)) (hlk : meth.locks = false) (hc0 : gC v0 = 10)  (hf : f_X11_draw_0 fu  v  x1 = some z) : (gC v = 10) → ∀ (H : Heap) (locs : List Loc), WB G (st S a v) s H locs → ∀ (ls : Array Slot), lv_has ls 2 [(0, .ref a), (1, .int x1)] → W p l e RM_X11_draw s m args below meth c H locs 0 0 (QR G below args s (some (.int z.1)) (st S a v0) (st S a z.2)) (F0 m 0 ls []) := by
  intro hc H locs hW ls hl
  have hx := hM.1
  have hb := hM.2.1
  refine lv_aload_n hx hb dX11_draw_0 rfl (lv_at hl 0 rfl) ?_
  refine lv_aload_n hx hb dX11_draw_1 rfl (lv_at hl 0 rfl) ?_
  refine b_get hM hW 9 1 hc rfl rfl (by decide) wi_X11 (wgm fk_RX11_18) (x := .long (gJ v 1)) rfl dX11_draw_2 ?_
  refine lv_ldc2 (v := (1103515245 : Int64)) hx hb hM.2.2.1 (hM.2.2.2.1 _ (wgm kj_RX11_46)) dX11_draw_5 ?_
  refine lv_lmul hx hb dX11_draw_8 ?_
  refine lv_ldc2 (v := (12345 : Int64)) hx hb hM.2.2.1 (hM.2.2.2.1 _ (wgm kj_RX11_48)) dX11_draw_9 ?_
  refine lv_ladd hx hb dX11_draw_12 ?_
  refine lv_ldc2 (v := (2147483648 : Int64)) hx hb hM.2.2.1 (hM.2.2.2.1 _ (wgm kj_RX11_50)) dX11_draw_13 ?_
  refine lv_lrem hx hb dX11_draw_16 (by decide) ?_
  refine b_putJ hM hW 9 1 hc rfl rfl (by decide) wi_X11 tyX11 tyX11_ok nmX11 (wgm fk_RX11_18) rfl rfl rfl dX11_draw_17 (fun v1 ev1 hc H locs hW => ?_)
  have hf := nm_at ev1 hf
  refine lv_iload_n hx hb dX11_draw_20 rfl (lv_at hl 1 rfl) ?_
  refine lv_if_le (tgt := 39) hx hb dX11_draw_21 (by decide) (fun c2 => ?_) (fun c2 => ?_)
  · have hf := if_t c2 hf
    refine lv_iconst (v := (0 : Int32)) hx hb dX11_draw_39 (by decide) ?_
    cases hf
    exact W.iret hx hb hr (b_ret0 hW (keep_s2 hc0 hc) _) hW.2.2.2 dX11_draw_40 hlk
  · have hf := if_f c2 hf
    refine lv_aload_n hx hb dX11_draw_24 rfl (lv_at hl 0 rfl) ?_
    refine b_get hM hW 9 1 hc rfl rfl (by decide) wi_X11 (wgm fk_RX11_18) (x := .long (gJ v1 1)) rfl dX11_draw_25 ?_
    refine lv_ldc2 (v := (65536 : Int64)) hx hb hM.2.2.1 (hM.2.2.2.1 _ (wgm kj_RX11_52)) dX11_draw_28 ?_
    refine lv_ldiv hx hb dX11_draw_31 (by decide) ?_
    refine lv_iload_n hx hb dX11_draw_32 rfl (lv_at hl 1 rfl) ?_
    refine lv_i2l hx hb dX11_draw_33 rfl ?_
    refine lv_topl (fun y3 ey3 => ?_)
    have hf := nm_at ey3 hf
    obtain ⟨h4, hf⟩ := ck_elim hf
    refine lv_lrem hx hb dX11_draw_34 (of_decide_eq_true h4) ?_
    refine lv_l2i hx hb dX11_draw_35 rfl ?_
    refine lv_goto (tgt := 40) hx hb dX11_draw_36 (by decide) ?_
    cases hf
    exact W.iret hx hb hr (b_ret0 hW (keep_s2 hc0 hc) _) hW.2.2.2 dX11_draw_40 hlk
noncomputable def f_X11_draw (fu : Nat) (v : GV) (x1 : Int32) : Option (Int32 × GV) := f_X11_draw_0 fu v x1
set_option maxHeartbeats 4000000 in
set_option maxRecDepth 100000 in
theorem c_X11_draw (l : Launch) (G : GG) (fu : Nat) (S : ST) (a : Nat) (v : GV) (x1 : Int32) {z : Int32} {w : GV} (hc : gC v = 10) (hf : f_X11_draw fu v x1 = some (z, w)) : Ct l yX11_draw w_X11_draw RM_X11_draw G (st S a v) [.ref a, .int x1] (some (.int z)) (st S a w) 0 0 := by
  refine Met.ofW (cc := cX11_draw) (maxL := 2) (ret := (some .int)) (by decide) rfl ?_
  intro p e s m args below meth c s₁ B hml hv
  obtain ⟨rfl, hB, hK, hz⟩ := hv
  have hM : MC G p s m _ c cX11_draw w_X11_draw RX11 := ⟨B.exec, B.bytes, findClass_of_methodNamed B.named, atoms_spec (ws := w_X11_draw) B.pre, hK, hz⟩
  have hW : WB G (st S a v) s s.heap [] := ⟨hB, va_S.rf⟩
  have hl := lv_entry ([.ref a, .int x1]) (n := 2) (Nat.le_of_ble_eq_true rfl)
  rw [lg_entry_eq]
  generalize (lg_sl ([.ref a, .int x1]) ++ List.replicate (2 - (lg_sl ([.ref a, .int x1])).length) Slot.unset).toArray = ls at hl ⊢
  have hl : lv_has ls 2 [(0, .ref a), (1, .int x1)] := hl
  exact t_X11_draw_0 (fu := fu) hM hml B.returns B.notSynchronized hc hf hc _ _ hW _ (lv_sub hl [0, 1] rfl)
abbrev RM_J6_numberOfLeadingZeros_0f7a4 : Room := { frames := 0, cells := 0, slots := 0, locals := 0 }
abbrev w_J6_numberOfLeadingZeros_0f7a4 : List Cond := Cond.code yJ6_numberOfLeadingZeros_0f7a4 cJ6_numberOfLeadingZeros_0f7a4 2 (some .int) :: wsL_law0
noncomputable def f_J6_numberOfLeadingZeros_0f7a4_73 (fu : Nat)  (x0 : Int32) (x1 : Int32) : Option (Int32) :=
  some ((x1 - (x0.toUInt32 >>> ((1 : Int32).toUInt32 &&& Int32.toUInt32 31)).toInt32))
set_option maxHeartbeats 4000000 in
set_option maxRecDepth 100000 in
theorem t_J6_numberOfLeadingZeros_0f7a4_73 {G : GG} {p : Program} {l : Launch} {e : Env} {s : State} {m : MethodId} {args : Array Value} {below : List Frame} {meth : Method} {c : Code} {S : ST} {fu : Nat} {z : Int32}  {x0 : Int32} {x1 : Int32} (hM : MC G p s m args c cJ6_numberOfLeadingZeros_0f7a4 w_J6_numberOfLeadingZeros_0f7a4 RJ6) (hml : c.maxLocals = 2) (hr : meth.sig.returnType = (some .int)) (hlk : meth.locks = false)   (hf : f_J6_numberOfLeadingZeros_0f7a4_73 fu    x0 x1 = some z) : ∀ (H : Heap) (locs : List Loc), WB G S s H locs → ∀ (ls : Array Slot), lv_has ls 2 [(0, .int x0), (1, .int x1)] → W p l e RM_J6_numberOfLeadingZeros_0f7a4 s m args below meth c H locs 0 0 (QR G below args s (some (.int z)) S S) (F0 m 73 ls []) := by
  intro  H locs hW ls hl
  have hx := hM.1
  have hb := hM.2.1
  refine lv_iload_n hx hb dJ6_numberOfLeadingZeros_0f7a4_73 rfl (lv_at hl 1 rfl) ?_
  refine lv_iload_n hx hb dJ6_numberOfLeadingZeros_0f7a4_74 rfl (lv_at hl 0 rfl) ?_
  refine lv_iconst (v := (1 : Int32)) hx hb dJ6_numberOfLeadingZeros_0f7a4_75 (by decide) ?_
  refine lv_iushr hx hb dJ6_numberOfLeadingZeros_0f7a4_76 rfl ?_
  refine lv_isub hx hb dJ6_numberOfLeadingZeros_0f7a4_77 ?_
  cases hf
  exact W.iret hx hb hr (b_ret0 hW (fun _ _ => rfl) _) hW.2.2.2 dJ6_numberOfLeadingZeros_0f7a4_78 hlk
noncomputable def f_J6_numberOfLeadingZeros_0f7a4_61 (fu : Nat)  (x0 : Int32) (x1 : Int32) : Option (Int32) :=
  if x0 < (4 : Int32) then
    (f_J6_numberOfLeadingZeros_0f7a4_73 fu x0 x1)
  else
    (nm (x1 + (-2 : Int32)) fun y2 =>
    nm ((x0.toUInt32 >>> ((2 : Int32).toUInt32 &&& Int32.toUInt32 31)).toInt32) fun y3 =>
    f_J6_numberOfLeadingZeros_0f7a4_73 fu y3 y2)
set_option maxHeartbeats 4000000 in
set_option maxRecDepth 100000 in
theorem t_J6_numberOfLeadingZeros_0f7a4_61 {G : GG} {p : Program} {l : Launch} {e : Env} {s : State} {m : MethodId} {args : Array Value} {below : List Frame} {meth : Method} {c : Code} {S : ST} {fu : Nat} {z : Int32}  {x0 : Int32} {x1 : Int32} (hM : MC G p s m args c cJ6_numberOfLeadingZeros_0f7a4 w_J6_numberOfLeadingZeros_0f7a4 RJ6) (hml : c.maxLocals = 2) (hr : meth.sig.returnType = (some .int)) (hlk : meth.locks = false)   (hf : f_J6_numberOfLeadingZeros_0f7a4_61 fu    x0 x1 = some z) : ∀ (H : Heap) (locs : List Loc), WB G S s H locs → ∀ (ls : Array Slot), lv_has ls 2 [(0, .int x0), (1, .int x1)] → W p l e RM_J6_numberOfLeadingZeros_0f7a4 s m args below meth c H locs 0 0 (QR G below args s (some (.int z)) S S) (F0 m 61 ls []) := by
  intro  H locs hW ls hl
  have hx := hM.1
  have hb := hM.2.1
  refine lv_iload_n hx hb dJ6_numberOfLeadingZeros_0f7a4_61 rfl (lv_at hl 0 rfl) ?_
  refine lv_iconst (v := (4 : Int32)) hx hb dJ6_numberOfLeadingZeros_0f7a4_62 (by decide) ?_
  refine lv_icmp_lt (tgt := 73) hx hb dJ6_numberOfLeadingZeros_0f7a4_63 (by decide) (fun c1 => ?_) (fun c1 => ?_)
  · have hf := if_t c1 hf
    exact t_J6_numberOfLeadingZeros_0f7a4_73 (fu := fu) hM hml hr hlk hf _ _ hW _ (lv_sub hl [0, 1] rfl)
  · have hf := if_f c1 hf
    obtain ⟨y2, ey2⟩ : ∃ y : Int32, y = x1 + (-2 : Int32) := ⟨_, rfl⟩
    have hf := nm_at ey2 hf
    refine lv_iinc (v := y2) (lv' := [(1, .int y2), (0, .int x0)]) hx hb dJ6_numberOfLeadingZeros_0f7a4_66 hl (k := 1) rfl (by rw [ey2]; rfl) (by decide) rfl (fun ls hl => ?_)
    refine lv_iload_n hx hb dJ6_numberOfLeadingZeros_0f7a4_69 rfl (lv_at hl 1 rfl) ?_
    refine lv_iconst (v := (2 : Int32)) hx hb dJ6_numberOfLeadingZeros_0f7a4_70 (by decide) ?_
    refine lv_iushr hx hb dJ6_numberOfLeadingZeros_0f7a4_71 rfl ?_
    refine lv_topi (fun y3 ey3 => ?_)
    have hf := nm_at ey3 hf
    refine lv_istore_n (lv' := [(0, .int y3), (1, .int y2)]) hx hb dJ6_numberOfLeadingZeros_0f7a4_72 rfl hl (by decide) rfl (fun ls hl => ?_)
    exact t_J6_numberOfLeadingZeros_0f7a4_73 (fu := fu) hM hml hr hlk hf _ _ hW _ (lv_sub hl [0, 1] rfl)
noncomputable def f_J6_numberOfLeadingZeros_0f7a4_48 (fu : Nat)  (x0 : Int32) (x1 : Int32) : Option (Int32) :=
  if x0 < (16 : Int32) then
    (f_J6_numberOfLeadingZeros_0f7a4_61 fu x0 x1)
  else
    (nm (x1 + (-4 : Int32)) fun y2 =>
    nm ((x0.toUInt32 >>> ((4 : Int32).toUInt32 &&& Int32.toUInt32 31)).toInt32) fun y3 =>
    f_J6_numberOfLeadingZeros_0f7a4_61 fu y3 y2)
set_option maxHeartbeats 4000000 in
set_option maxRecDepth 100000 in
theorem t_J6_numberOfLeadingZeros_0f7a4_48 {G : GG} {p : Program} {l : Launch} {e : Env} {s : State} {m : MethodId} {args : Array Value} {below : List Frame} {meth : Method} {c : Code} {S : ST} {fu : Nat} {z : Int32}  {x0 : Int32} {x1 : Int32} (hM : MC G p s m args c cJ6_numberOfLeadingZeros_0f7a4 w_J6_numberOfLeadingZeros_0f7a4 RJ6) (hml : c.maxLocals = 2) (hr : meth.sig.returnType = (some .int)) (hlk : meth.locks = false)   (hf : f_J6_numberOfLeadingZeros_0f7a4_48 fu    x0 x1 = some z) : ∀ (H : Heap) (locs : List Loc), WB G S s H locs → ∀ (ls : Array Slot), lv_has ls 2 [(0, .int x0), (1, .int x1)] → W p l e RM_J6_numberOfLeadingZeros_0f7a4 s m args below meth c H locs 0 0 (QR G below args s (some (.int z)) S S) (F0 m 48 ls []) := by
  intro  H locs hW ls hl
  have hx := hM.1
  have hb := hM.2.1
  refine lv_iload_n hx hb dJ6_numberOfLeadingZeros_0f7a4_48 rfl (lv_at hl 0 rfl) ?_
  refine lv_bipush (v := (16 : Int32)) hx hb dJ6_numberOfLeadingZeros_0f7a4_49 (by decide) ?_
  refine lv_icmp_lt (tgt := 61) hx hb dJ6_numberOfLeadingZeros_0f7a4_51 (by decide) (fun c1 => ?_) (fun c1 => ?_)
  · have hf := if_t c1 hf
    exact t_J6_numberOfLeadingZeros_0f7a4_61 (fu := fu) hM hml hr hlk hf _ _ hW _ (lv_sub hl [0, 1] rfl)
  · have hf := if_f c1 hf
    obtain ⟨y2, ey2⟩ : ∃ y : Int32, y = x1 + (-4 : Int32) := ⟨_, rfl⟩
    have hf := nm_at ey2 hf
    refine lv_iinc (v := y2) (lv' := [(1, .int y2), (0, .int x0)]) hx hb dJ6_numberOfLeadingZeros_0f7a4_54 hl (k := 1) rfl (by rw [ey2]; rfl) (by decide) rfl (fun ls hl => ?_)
    refine lv_iload_n hx hb dJ6_numberOfLeadingZeros_0f7a4_57 rfl (lv_at hl 1 rfl) ?_
    refine lv_iconst (v := (4 : Int32)) hx hb dJ6_numberOfLeadingZeros_0f7a4_58 (by decide) ?_
    refine lv_iushr hx hb dJ6_numberOfLeadingZeros_0f7a4_59 rfl ?_
    refine lv_topi (fun y3 ey3 => ?_)
    have hf := nm_at ey3 hf
    refine lv_istore_n (lv' := [(0, .int y3), (1, .int y2)]) hx hb dJ6_numberOfLeadingZeros_0f7a4_60 rfl hl (by decide) rfl (fun ls hl => ?_)
    exact t_J6_numberOfLeadingZeros_0f7a4_61 (fu := fu) hM hml hr hlk hf _ _ hW _ (lv_sub hl [0, 1] rfl)
noncomputable def f_J6_numberOfLeadingZeros_0f7a4_33 (fu : Nat)  (x0 : Int32) (x1 : Int32) : Option (Int32) :=
  if x0 < (256 : Int32) then
    (f_J6_numberOfLeadingZeros_0f7a4_48 fu x0 x1)
  else
    (nm (x1 + (-8 : Int32)) fun y2 =>
    nm ((x0.toUInt32 >>> ((8 : Int32).toUInt32 &&& Int32.toUInt32 31)).toInt32) fun y3 =>
    f_J6_numberOfLeadingZeros_0f7a4_48 fu y3 y2)
set_option maxHeartbeats 4000000 in
set_option maxRecDepth 100000 in
theorem t_J6_numberOfLeadingZeros_0f7a4_33 {G : GG} {p : Program} {l : Launch} {e : Env} {s : State} {m : MethodId} {args : Array Value} {below : List Frame} {meth : Method} {c : Code} {S : ST} {fu : Nat} {z : Int32}  {x0 : Int32} {x1 : Int32} (hM : MC G p s m args c cJ6_numberOfLeadingZeros_0f7a4 w_J6_numberOfLeadingZeros_0f7a4 RJ6) (hml : c.maxLocals = 2) (hr : meth.sig.returnType = (some .int)) (hlk : meth.locks = false)   (hf : f_J6_numberOfLeadingZeros_0f7a4_33 fu    x0 x1 = some z) : ∀ (H : Heap) (locs : List Loc), WB G S s H locs → ∀ (ls : Array Slot), lv_has ls 2 [(0, .int x0), (1, .int x1)] → W p l e RM_J6_numberOfLeadingZeros_0f7a4 s m args below meth c H locs 0 0 (QR G below args s (some (.int z)) S S) (F0 m 33 ls []) := by
  intro  H locs hW ls hl
  have hx := hM.1
  have hb := hM.2.1
  refine lv_iload_n hx hb dJ6_numberOfLeadingZeros_0f7a4_33 rfl (lv_at hl 0 rfl) ?_
  refine lv_sipush (v := (256 : Int32)) hx hb dJ6_numberOfLeadingZeros_0f7a4_34 (by decide) ?_
  refine lv_icmp_lt (tgt := 48) hx hb dJ6_numberOfLeadingZeros_0f7a4_37 (by decide) (fun c1 => ?_) (fun c1 => ?_)
  · have hf := if_t c1 hf
    exact t_J6_numberOfLeadingZeros_0f7a4_48 (fu := fu) hM hml hr hlk hf _ _ hW _ (lv_sub hl [0, 1] rfl)
  · have hf := if_f c1 hf
    obtain ⟨y2, ey2⟩ : ∃ y : Int32, y = x1 + (-8 : Int32) := ⟨_, rfl⟩
    have hf := nm_at ey2 hf
    refine lv_iinc (v := y2) (lv' := [(1, .int y2), (0, .int x0)]) hx hb dJ6_numberOfLeadingZeros_0f7a4_40 hl (k := 1) rfl (by rw [ey2]; rfl) (by decide) rfl (fun ls hl => ?_)
    refine lv_iload_n hx hb dJ6_numberOfLeadingZeros_0f7a4_43 rfl (lv_at hl 1 rfl) ?_
    refine lv_bipush (v := (8 : Int32)) hx hb dJ6_numberOfLeadingZeros_0f7a4_44 (by decide) ?_
    refine lv_iushr hx hb dJ6_numberOfLeadingZeros_0f7a4_46 rfl ?_
    refine lv_topi (fun y3 ey3 => ?_)
    have hf := nm_at ey3 hf
    refine lv_istore_n (lv' := [(0, .int y3), (1, .int y2)]) hx hb dJ6_numberOfLeadingZeros_0f7a4_47 rfl hl (by decide) rfl (fun ls hl => ?_)
    exact t_J6_numberOfLeadingZeros_0f7a4_48 (fu := fu) hM hml hr hlk hf _ _ hW _ (lv_sub hl [0, 1] rfl)
noncomputable def f_J6_numberOfLeadingZeros_0f7a4_0 (fu : Nat)  (x0 : Int32) : Option (Int32) :=
  if 0 < x0 then
    (if x0 < (65536 : Int32) then
      (f_J6_numberOfLeadingZeros_0f7a4_33 fu x0 (31 : Int32))
    else
      (nm ((31 : Int32) + (-16 : Int32)) fun y3 =>
      nm ((x0.toUInt32 >>> ((16 : Int32).toUInt32 &&& Int32.toUInt32 31)).toInt32) fun y4 =>
      f_J6_numberOfLeadingZeros_0f7a4_33 fu y4 y3))
  else
    (if x0 = 0 then
      (some ((32 : Int32)))
    else
      (some ((0 : Int32))))
set_option maxHeartbeats 4000000 in
set_option maxRecDepth 100000 in
theorem t_J6_numberOfLeadingZeros_0f7a4_0 {G : GG} {p : Program} {l : Launch} {e : Env} {s : State} {m : MethodId} {args : Array Value} {below : List Frame} {meth : Method} {c : Code} {S : ST} {fu : Nat} {z : Int32}  {x0 : Int32} (hM : MC G p s m args c cJ6_numberOfLeadingZeros_0f7a4 w_J6_numberOfLeadingZeros_0f7a4 RJ6) (hml : c.maxLocals = 2) (hr : meth.sig.returnType = (some .int)) (hlk : meth.locks = false)   (hf : f_J6_numberOfLeadingZeros_0f7a4_0 fu    x0 = some z) : ∀ (H : Heap) (locs : List Loc), WB G S s H locs → ∀ (ls : Array Slot), lv_has ls 2 [(0, .int x0)] → W p l e RM_J6_numberOfLeadingZeros_0f7a4 s m args below meth c H locs 0 0 (QR G below args s (some (.int z)) S S) (F0 m 0 ls []) := by
  intro  H locs hW ls hl
  have hx := hM.1
  have hb := hM.2.1
  refine lv_iload_n hx hb dJ6_numberOfLeadingZeros_0f7a4_0 rfl (lv_at hl 0 rfl) ?_
  refine lv_if_gt (tgt := 15) hx hb dJ6_numberOfLeadingZeros_0f7a4_1 (by decide) (fun c1 => ?_) (fun c1 => ?_)
  · have hf := if_t c1 hf
    refine lv_bipush (v := (31 : Int32)) hx hb dJ6_numberOfLeadingZeros_0f7a4_15 (by decide) ?_
    refine lv_istore_n (lv' := [(1, .int (31 : Int32)), (0, .int x0)]) hx hb dJ6_numberOfLeadingZeros_0f7a4_17 rfl hl (by decide) rfl (fun ls hl => ?_)
    refine lv_iload_n hx hb dJ6_numberOfLeadingZeros_0f7a4_18 rfl (lv_at hl 1 rfl) ?_
    refine lv_ldcw (v := (65536 : Int32)) hx hb hM.2.2.1 (hM.2.2.2.1 _ (wgm ki_RJ6_264)) dJ6_numberOfLeadingZeros_0f7a4_19 ?_
    refine lv_icmp_lt (tgt := 33) hx hb dJ6_numberOfLeadingZeros_0f7a4_22 (by decide) (fun c2 => ?_) (fun c2 => ?_)
    · have hf := if_t c2 hf
      exact t_J6_numberOfLeadingZeros_0f7a4_33 (fu := fu) hM hml hr hlk hf _ _ hW _ (lv_sub hl [1, 0] rfl)
    · have hf := if_f c2 hf
      obtain ⟨y3, ey3⟩ : ∃ y : Int32, y = (31 : Int32) + (-16 : Int32) := ⟨_, rfl⟩
      have hf := nm_at ey3 hf
      refine lv_iinc (v := y3) (lv' := [(1, .int y3), (0, .int x0)]) hx hb dJ6_numberOfLeadingZeros_0f7a4_25 hl (k := 0) rfl (by rw [ey3]; rfl) (by decide) rfl (fun ls hl => ?_)
      refine lv_iload_n hx hb dJ6_numberOfLeadingZeros_0f7a4_28 rfl (lv_at hl 1 rfl) ?_
      refine lv_bipush (v := (16 : Int32)) hx hb dJ6_numberOfLeadingZeros_0f7a4_29 (by decide) ?_
      refine lv_iushr hx hb dJ6_numberOfLeadingZeros_0f7a4_31 rfl ?_
      refine lv_topi (fun y4 ey4 => ?_)
      have hf := nm_at ey4 hf
      refine lv_istore_n (lv' := [(0, .int y4), (1, .int y3)]) hx hb dJ6_numberOfLeadingZeros_0f7a4_32 rfl hl (by decide) rfl (fun ls hl => ?_)
      exact t_J6_numberOfLeadingZeros_0f7a4_33 (fu := fu) hM hml hr hlk hf _ _ hW _ (lv_sub hl [0, 1] rfl)
  · have hf := if_f c1 hf
    refine lv_iload_n hx hb dJ6_numberOfLeadingZeros_0f7a4_4 rfl (lv_at hl 0 rfl) ?_
    refine lv_if_ne (tgt := 13) hx hb dJ6_numberOfLeadingZeros_0f7a4_5 (by decide) (fun c5 => ?_) (fun c5 => ?_)
    · have hf := if_f c5 hf
      refine lv_iconst (v := (0 : Int32)) hx hb dJ6_numberOfLeadingZeros_0f7a4_13 (by decide) ?_
      cases hf
      exact W.iret hx hb hr (b_ret0 hW (fun _ _ => rfl) _) hW.2.2.2 dJ6_numberOfLeadingZeros_0f7a4_14 hlk
    · have hf := if_t c5 hf
      refine lv_bipush (v := (32 : Int32)) hx hb dJ6_numberOfLeadingZeros_0f7a4_8 (by decide) ?_
      refine lv_goto (tgt := 14) hx hb dJ6_numberOfLeadingZeros_0f7a4_10 (by decide) ?_
      cases hf
      exact W.iret hx hb hr (b_ret0 hW (fun _ _ => rfl) _) hW.2.2.2 dJ6_numberOfLeadingZeros_0f7a4_14 hlk
noncomputable def f_J6_numberOfLeadingZeros_0f7a4 (fu : Nat) (x0 : Int32) : Option (Int32) := f_J6_numberOfLeadingZeros_0f7a4_0 fu x0
set_option maxHeartbeats 4000000 in
set_option maxRecDepth 100000 in
theorem c_J6_numberOfLeadingZeros_0f7a4 (l : Launch) (G : GG) (fu : Nat) (S : ST) (x0 : Int32) {z : Int32} (hf : f_J6_numberOfLeadingZeros_0f7a4 fu x0 = some z) : Ct l yJ6_numberOfLeadingZeros_0f7a4 w_J6_numberOfLeadingZeros_0f7a4 RM_J6_numberOfLeadingZeros_0f7a4 G S [.int x0] (some (.int z)) S 0 0 := by
  refine Met.ofW (cc := cJ6_numberOfLeadingZeros_0f7a4) (maxL := 2) (ret := (some .int)) (by decide) rfl ?_
  intro p e s m args below meth c s₁ B hml hv
  obtain ⟨rfl, hB, hK, hz⟩ := hv
  have hM : MC G p s m _ c cJ6_numberOfLeadingZeros_0f7a4 w_J6_numberOfLeadingZeros_0f7a4 RJ6 := ⟨B.exec, B.bytes, findClass_of_methodNamed B.named, atoms_spec (ws := w_J6_numberOfLeadingZeros_0f7a4) B.pre, hK, hz⟩
  have hW : WB G S s s.heap [] := ⟨hB, va_S.rf⟩
  have hl := lv_entry ([.int x0]) (n := 2) (Nat.le_of_ble_eq_true rfl)
  rw [lg_entry_eq]
  generalize (lg_sl ([.int x0]) ++ List.replicate (2 - (lg_sl ([.int x0])).length) Slot.unset).toArray = ls at hl ⊢
  have hl : lv_has ls 2 [(0, .int x0)] := hl
  exact t_J6_numberOfLeadingZeros_0f7a4_0 (fu := fu) hM hml B.returns B.notSynchronized hf _ _ hW _ (lv_sub hl [0] rfl)
abbrev RM_X11_act : Room := { frames := 4, cells := 0, slots := 0, locals := 98 }
abbrev w_X11_act : List Cond := Cond.code yX11_act cX11_act 8 none :: wsL_law0
noncomputable def f_X11_act_118 (fu : Nat)  (S : ST) (a : Nat) (g1 : Nat) (x2 : Int32) (t0 : Int32) : Option (ST) :=
  ck (decide (gC (S (a + 1)) = 3)) <|
  bd2 (f_X11_draw fu (S a) (gI (S g1) 8)) fun r2 v3 =>
  nm (st S a v3) fun Sv3 =>
  bd2 (f_X3_copyOf fu Sv3 (a + 1) g1 x2 t0 r2) fun r4 S5 =>
  some S5
set_option maxHeartbeats 4000000 in
set_option maxRecDepth 100000 in
theorem t_X11_act_118 {G : GG} {p : Program} {l : Launch} {e : Env} {s : State} {m : MethodId} {args : Array Value} {below : List Frame} {meth : Method} {c : Code} {S0 : ST} {fu : Nat} {z : ST} {a : Nat} {g1 : Nat}  {S : ST} {x2 : Int32} {t0 : Int32} (hM : MC G p s m args c cX11_act w_X11_act RX11) (hml : c.maxLocals = 8) (hr : meth.sig.returnType = none) (hlk : meth.locks = false)   (hf : f_X11_act_118 fu  S a g1 x2 t0 = some z) : (gC (S a) = 10) → (gC (S g1) = 1) → (∀ b, gC (S0 b) ≠ 0 → gC (S b) = gC (S0 b)) → ∀ (H : Heap) (locs : List Loc), WB G S s H locs → ∀ (ls : Array Slot), lv_has ls 8 [(0, .ref a), (1, .ref g1), (2, .int x2)] → W p l e RM_X11_act s m args below meth c H locs 0 0 (QR G below args s none S0 z) (F0 m 118 ls [.int t0]) := by
  intro ha hg1 hK0 H locs hW ls hl
  have hx := hM.1
  have hb := hM.2.1
  refine lv_istore (lv' := [(7, .int t0), (0, .ref a), (1, .ref g1), (2, .int x2)]) hx hb dX11_act_118 hl (by decide) rfl (fun ls hl => ?_)
  refine lv_aload_n hx hb dX11_act_120 rfl (lv_at hl 1 rfl) ?_
  refine b_get hM (hW.at_ a) 9 0 ha rfl rfl (by decide) wi_X11 (wgm fk_RX11_12) (x := .ref (a + 1)) rfl dX11_act_121 ?_
  obtain ⟨h1, hf⟩ := ck_elim hf
  have h1 := of_decide_eq_true h1
  refine lv_aload_n hx hb dX11_act_124 rfl (lv_at hl 2 rfl) ?_
  refine lv_iload_n hx hb dX11_act_125 rfl (lv_at hl 3 rfl) ?_
  refine lv_iload hx hb dX11_act_126 (lv_at hl 0 rfl) ?_
  refine lv_aload_n hx hb dX11_act_128 rfl (lv_at hl 1 rfl) ?_
  refine lv_aload_n hx hb dX11_act_129 rfl (lv_at hl 2 rfl) ?_
  refine b_get hM (hW.at_ g1) 0 8 hg1 rfl rfl (by decide) wi_X1 (wgm fk_RX11_72) (x := .int (gI (S g1) 8)) rfl dX11_act_130 ?_
  obtain ⟨r2, v3, hr2, hf⟩ := bd2_elim hf
  refine s_callNi [.int (gI (S g1) 8)] [.int t0, .int x2, .ref g1, .ref (a + 1)] hM hml hl.1 hW ha rfl (by decide) (Ct_self (c_X11_draw l G fu _ a (S a) _ ha hr2)) (cwV 1 hM.2.2.2.1 (gV mk_RX11_35 im_X11_draw se_X11_draw it_RX11 cd_X11_draw) rfl rfl rfl (by decide +kernel) ⟨Nat.le_of_ble_eq_true rfl, Nat.le_of_ble_eq_true rfl⟩) rfl rfl (Nat.le_of_ble_eq_true rfl) ⟨Nat.zero_le _, Nat.zero_le _⟩ dX11_act_133 (fun Sv3 ev3 hk H locs hW => ?_)
  have hf := nm_at ev3 hf
  have ha := keep1 hk ha
  have hg1 := keep1 hk hg1
  have h1 := keep1 hk h1
  have hK0 := keep_tr hK0 hk
  obtain ⟨r4, S5, hr4, hf⟩ := bd2_elim hf
  refine s_callVi [.ref g1, .int x2, .int t0, .int r2] [] hM hml hl.1 hW h1 rfl (by decide) (c_X3_copyOf l G fu _ (a + 1) _ _ _ _ h1 hg1 hr4) (cwV 4 hM.2.2.2.1 (gV mk_RX11_82 im_X3_copyOf se_X3_copyOf it_RX3 cd_X3_copyOf) rfl rfl rfl (by decide +kernel) ⟨Nat.le_of_ble_eq_true rfl, Nat.le_of_ble_eq_true rfl⟩) rfl rfl (Nat.le_of_ble_eq_true rfl) ⟨Nat.zero_le _, Nat.zero_le _⟩ dX11_act_136 (fun H locs hW hk => ?_)
  have ha := keep1 hk ha
  have hg1 := keep1 hk hg1
  have h1 := keep1 hk h1
  have hK0 := keep_tr hK0 hk
  refine lv_pop hx hb dX11_act_139 rfl ?_
  cases hf
  exact W.vret hx hb hr (b_ret0 hW hK0 _) hW.2.2.2 dX11_act_140 hlk
noncomputable def f_X11_act_82 (fu : Nat)  (S : ST) (a : Nat) (g1 : Nat) (t1 : Int32) (t2 : Int32) : Option (ST) :=
  nm (st S a (sI (S a) 2 (t1 + t2))) fun S1 =>
  some S1
set_option maxHeartbeats 4000000 in
set_option maxRecDepth 100000 in
theorem t_X11_act_82 {G : GG} {p : Program} {l : Launch} {e : Env} {s : State} {m : MethodId} {args : Array Value} {below : List Frame} {meth : Method} {c : Code} {S0 : ST} {fu : Nat} {z : ST} {a : Nat} {g1 : Nat}  {S : ST} {t1 : Int32} {t2 : Int32} (hM : MC G p s m args c cX11_act w_X11_act RX11) (hml : c.maxLocals = 8) (hr : meth.sig.returnType = none) (hlk : meth.locks = false)   (hf : f_X11_act_82 fu  S a g1 t1 t2 = some z) : (gC (S a) = 10) → (gC (S g1) = 1) → (∀ b, gC (S0 b) ≠ 0 → gC (S b) = gC (S0 b)) → ∀ (H : Heap) (locs : List Loc), WB G S s H locs → ∀ (ls : Array Slot), lv_has ls 8 [] → W p l e RM_X11_act s m args below meth c H locs 0 0 (QR G below args s none S0 z) (F0 m 82 ls [.int t2, .int t1, .ref a]) := by
  intro ha hg1 hK0 H locs hW ls hl
  have hx := hM.1
  have hb := hM.2.1
  refine lv_iadd hx hb dX11_act_82 ?_
  refine s_putI hM hW 9 2 ha rfl rfl (by decide) wi_X11 tyX11 tyX11_ok nmX11 (wgm fk_RX11_22) rfl rfl rfl dX11_act_83 (fun S1 eS1 hk H locs hW => ?_)
  have hf := nm_at eS1 hf
  have ha := keep1 hk ha
  have hg1 := keep1 hk hg1
  have hK0 := keep_tr hK0 hk
  refine lv_goto (tgt := 140) hx hb dX11_act_86 (by decide) ?_
  cases hf
  exact W.vret hx hb hr (b_ret0 hW hK0 _) hW.2.2.2 dX11_act_140 hlk
noncomputable def f_X11_act_0 (fu : Nat)  (S : ST) (a : Nat) (g1 : Nat) (x2 : Int32) : Option (ST) :=
  bd2 (f_X11_draw fu (S a) (4 : Int32)) fun r1 v2 =>
  nm (st S a v2) fun Sv2 =>
  ck (decide (gC (Sv2 (a + 1)) = 3)) <|
  bd (f_X3_heldBy fu (Sv2 (a + 1)) x2) fun r4 =>
  bd (f_J6_numberOfTrailingZeros_0f7a4 fu r4) fun r5 =>
  bd (f_J6_numberOfLeadingZeros_0f7a4 fu r4) fun r6 =>
  nm (((31 : Int32) - r6)) fun y7 =>
  if r1 = (1 : Int32) then
    (bd2 (f_X3_sale fu Sv2 (a + 1) g1 x2 y7) fun r16 S17 =>
    some S17)
  else
    (if r1 = 0 then
      (if (gI (Sv2 g1) 8) ≤ 0 then
        (some Sv2)
      else
        (ck (inb x2 5) <|
        if (gA (Sv2 g1) 3 x2.toNatClampNeg) = (3 : Int32) then
          (f_X11_act_118 fu Sv2 a g1 x2 (gI (Sv2 (a + 1)) 8))
        else
          (f_X11_act_118 fu Sv2 a g1 x2 r5)))
    else
      (bd2 (f_X3_swap fu Sv2 (a + 1) g1 x2 r5) fun r13 S14 =>
      if r13 = (-1 : Int32) then
        (f_X11_act_82 fu S14 a g1 (gI (Sv2 a) 2) (0 : Int32))
      else
        (f_X11_act_82 fu S14 a g1 (gI (Sv2 a) 2) (1 : Int32))))
set_option maxHeartbeats 4000000 in
set_option maxRecDepth 100000 in
theorem t_X11_act_0 {G : GG} {p : Program} {l : Launch} {e : Env} {s : State} {m : MethodId} {args : Array Value} {below : List Frame} {meth : Method} {c : Code} {S0 : ST} {fu : Nat} {z : ST} {a : Nat} {g1 : Nat}  {S : ST} {x2 : Int32} (hM : MC G p s m args c cX11_act w_X11_act RX11) (hml : c.maxLocals = 8) (hr : meth.sig.returnType = none) (hlk : meth.locks = false)   (hf : f_X11_act_0 fu  S a g1 x2 = some z) : (gC (S a) = 10) → (gC (S g1) = 1) → (∀ b, gC (S0 b) ≠ 0 → gC (S b) = gC (S0 b)) → ∀ (H : Heap) (locs : List Loc), WB G S s H locs → ∀ (ls : Array Slot), lv_has ls 8 [(0, .ref a), (1, .ref g1), (2, .int x2)] → W p l e RM_X11_act s m args below meth c H locs 0 0 (QR G below args s none S0 z) (F0 m 0 ls []) := by
  intro ha hg1 hK0 H locs hW ls hl
  have hx := hM.1
  have hb := hM.2.1
  refine lv_aload_n hx hb dX11_act_0 rfl (lv_at hl 0 rfl) ?_
  refine lv_iconst (v := (4 : Int32)) hx hb dX11_act_1 (by decide) ?_
  obtain ⟨r1, v2, hr1, hf⟩ := bd2_elim hf
  refine s_callNi [.int (4 : Int32)] [] hM hml hl.1 hW ha rfl (by decide) (Ct_self (c_X11_draw l G fu _ a (S a) _ ha hr1)) (cwV 1 hM.2.2.2.1 (gV mk_RX11_35 im_X11_draw se_X11_draw it_RX11 cd_X11_draw) rfl rfl rfl (by decide +kernel) ⟨Nat.le_of_ble_eq_true rfl, Nat.le_of_ble_eq_true rfl⟩) rfl rfl (Nat.le_of_ble_eq_true rfl) ⟨Nat.zero_le _, Nat.zero_le _⟩ dX11_act_2 (fun Sv2 ev2 hk H locs hW => ?_)
  have hf := nm_at ev2 hf
  have ha := keep1 hk ha
  have hg1 := keep1 hk hg1
  have hK0 := keep_tr hK0 hk
  refine lv_istore_n (lv' := [(3, .int r1), (0, .ref a), (1, .ref g1), (2, .int x2)]) hx hb dX11_act_5 rfl hl (by decide) rfl (fun ls hl => ?_)
  refine lv_aload_n hx hb dX11_act_6 rfl (lv_at hl 1 rfl) ?_
  refine b_get hM (hW.at_ a) 9 0 ha rfl rfl (by decide) wi_X11 (wgm fk_RX11_12) (x := .ref (a + 1)) rfl dX11_act_7 ?_
  obtain ⟨h3, hf⟩ := ck_elim hf
  have h3 := of_decide_eq_true h3
  refine lv_iload_n hx hb dX11_act_10 rfl (lv_at hl 3 rfl) ?_
  obtain ⟨r4, hr4, hf⟩ := bd_elim hf
  refine s_callVi [.int x2] [] hM hml hl.1 hW h3 rfl (by decide) (Ct_rd (c_X3_heldBy l G fu _ (a + 1) (Sv2 (a + 1)) _ h3 hr4)) (cwV 1 hM.2.2.2.1 (gV mk_RX11_54 im_X3_heldBy se_X3_heldBy it_RX3 cd_X3_heldBy) rfl rfl rfl (by decide +kernel) ⟨Nat.le_of_ble_eq_true rfl, Nat.le_of_ble_eq_true rfl⟩) rfl rfl (Nat.le_of_ble_eq_true rfl) ⟨Nat.zero_le _, Nat.zero_le _⟩ dX11_act_11 (fun H locs hW hk => ?_)
  refine lv_istore (lv' := [(4, .int r4), (3, .int r1), (0, .ref a), (1, .ref g1), (2, .int x2)]) hx hb dX11_act_14 hl (by decide) rfl (fun ls hl => ?_)
  refine lv_iload hx hb dX11_act_16 (lv_at hl 0 rfl) ?_
  obtain ⟨r5, hr5, hf⟩ := bd_elim hf
  refine s_callSi [.int r4] [] hM hml hl.1 hW (c_J6_numberOfTrailingZeros_0f7a4 l G fu _ _ hr5) (va_cwS 1 hM.2.2.2.1 (gS mk_RX11_57 sm_J6_numberOfTrailingZeros_0f7a4 it_RJ6 cd_J6_numberOfTrailingZeros_0f7a4) rfl rfl rfl (by decide +kernel) ⟨Nat.le_of_ble_eq_true rfl, Nat.le_of_ble_eq_true rfl⟩) rfl rfl (Nat.le_of_ble_eq_true rfl) ⟨Nat.zero_le _, Nat.zero_le _⟩ dX11_act_18 (fun H locs hW hk => ?_)
  refine lv_istore (lv' := [(5, .int r5), (4, .int r4), (3, .int r1), (0, .ref a), (1, .ref g1), (2, .int x2)]) hx hb dX11_act_21 hl (by decide) rfl (fun ls hl => ?_)
  refine lv_bipush (v := (31 : Int32)) hx hb dX11_act_23 (by decide) ?_
  refine lv_iload hx hb dX11_act_25 (lv_at hl 1 rfl) ?_
  obtain ⟨r6, hr6, hf⟩ := bd_elim hf
  refine s_callSi [.int r4] [.int (31 : Int32)] hM hml hl.1 hW (c_J6_numberOfLeadingZeros_0f7a4 l G fu _ _ hr6) (va_cwS 1 hM.2.2.2.1 (gS mk_RX11_62 sm_J6_numberOfLeadingZeros_0f7a4 it_RJ6 cd_J6_numberOfLeadingZeros_0f7a4) rfl rfl rfl (by decide +kernel) ⟨Nat.le_of_ble_eq_true rfl, Nat.le_of_ble_eq_true rfl⟩) rfl rfl (Nat.le_of_ble_eq_true rfl) ⟨Nat.zero_le _, Nat.zero_le _⟩ dX11_act_27 (fun H locs hW hk => ?_)
  refine lv_isub hx hb dX11_act_30 ?_
  refine lv_topi (fun y7 ey7 => ?_)
  have hf := nm_at ey7 hf
  refine lv_istore (lv' := [(6, .int y7), (5, .int r5), (4, .int r4), (3, .int r1), (0, .ref a), (1, .ref g1), (2, .int x2)]) hx hb dX11_act_31 hl (by decide) rfl (fun ls hl => ?_)
  refine lv_iload_n hx hb dX11_act_33 rfl (lv_at hl 3 rfl) ?_
  refine lv_iconst (v := (1 : Int32)) hx hb dX11_act_34 (by decide) ?_
  refine lv_icmp_ne (tgt := 53) hx hb dX11_act_35 (by decide) (fun c8 => ?_) (fun c8 => ?_)
  · have hf := if_f c8 hf
    refine lv_iload_n hx hb dX11_act_53 rfl (lv_at hl 3 rfl) ?_
    refine lv_if_eq (tgt := 89) hx hb dX11_act_54 (by decide) (fun c9 => ?_) (fun c9 => ?_)
    · have hf := if_t c9 hf
      refine lv_aload_n hx hb dX11_act_89 rfl (lv_at hl 5 rfl) ?_
      refine b_get hM (hW.at_ g1) 0 8 hg1 rfl rfl (by decide) wi_X1 (wgm fk_RX11_72) (x := .int (gI (Sv2 g1) 8)) rfl dX11_act_90 ?_
      refine lv_if_le (tgt := 140) hx hb dX11_act_93 (by decide) (fun c10 => ?_) (fun c10 => ?_)
      · have hf := if_t c10 hf
        cases hf
        exact W.vret hx hb hr (b_ret0 hW hK0 _) hW.2.2.2 dX11_act_140 hlk
      · have hf := if_f c10 hf
        refine lv_aload_n hx hb dX11_act_96 rfl (lv_at hl 5 rfl) ?_
        refine b_get hM (hW.at_ g1) 0 3 hg1 rfl rfl (by decide) wi_X1 (wgm fk_RX11_75) (x := .ref (g1 + 4)) rfl dX11_act_97 ?_
        refine lv_iload_n hx hb dX11_act_100 rfl (lv_at hl 6 rfl) ?_
        obtain ⟨h11, hf⟩ := ck_elim hf
        refine b_iald (n := 5) hM (hW.at_ g1) 0 3 hg1 (by decide) rfl rfl rfl rfl h11 dX11_act_101 ?_
        refine lv_iconst (v := (3 : Int32)) hx hb dX11_act_102 (by decide) ?_
        refine lv_icmp_ne (tgt := 116) hx hb dX11_act_103 (by decide) (fun c12 => ?_) (fun c12 => ?_)
        · have hf := if_f c12 hf
          refine lv_iload hx hb dX11_act_116 (lv_at hl 1 rfl) ?_
          exact t_X11_act_118 (fu := fu) hM hml hr hlk hf ha hg1 hK0 _ _ hW _ (lv_sub hl [4, 5, 6] rfl)
        · have hf := if_t c12 hf
          refine lv_aload_n hx hb dX11_act_106 rfl (lv_at hl 4 rfl) ?_
          refine b_get hM (hW.at_ a) 9 0 ha rfl rfl (by decide) wi_X11 (wgm fk_RX11_12) (x := .ref (a + 1)) rfl dX11_act_107 ?_
          refine b_get hM (hW.at_ (a + 1)) 2 8 h3 rfl rfl (by decide) wi_X3 (wgm fk_RX11_79) (x := .int (gI (Sv2 (a + 1)) 8)) rfl dX11_act_110 ?_
          refine lv_goto (tgt := 118) hx hb dX11_act_113 (by decide) ?_
          exact t_X11_act_118 (fu := fu) hM hml hr hlk hf ha hg1 hK0 _ _ hW _ (lv_sub hl [4, 5, 6] rfl)
    · have hf := if_f c9 hf
      refine lv_aload_n hx hb dX11_act_57 rfl (lv_at hl 4 rfl) ?_
      refine lv_dup hx hb dX11_act_58 rfl ?_
      refine b_get hM (hW.at_ a) 9 2 ha rfl rfl (by decide) wi_X11 (wgm fk_RX11_22) (x := .int (gI (Sv2 a) 2)) rfl dX11_act_59 ?_
      refine lv_aload_n hx hb dX11_act_62 rfl (lv_at hl 4 rfl) ?_
      refine b_get hM (hW.at_ a) 9 0 ha rfl rfl (by decide) wi_X11 (wgm fk_RX11_12) (x := .ref (a + 1)) rfl dX11_act_63 ?_
      refine lv_aload_n hx hb dX11_act_66 rfl (lv_at hl 5 rfl) ?_
      refine lv_iload_n hx hb dX11_act_67 rfl (lv_at hl 6 rfl) ?_
      refine lv_iload hx hb dX11_act_68 (lv_at hl 1 rfl) ?_
      obtain ⟨r13, S14, hr13, hf⟩ := bd2_elim hf
      refine s_callVi [.ref g1, .int x2, .int r5] [.int (gI (Sv2 a) 2), .ref a] hM hml hl.1 hW h3 rfl (by decide) (c_X3_swap l G fu _ (a + 1) _ _ _ h3 hg1 hr13) (cwV 3 hM.2.2.2.1 (gV mk_RX11_69 im_X3_swap se_X3_swap it_RX3 cd_X3_swap) rfl rfl rfl (by decide +kernel) ⟨Nat.le_of_ble_eq_true rfl, Nat.le_of_ble_eq_true rfl⟩) rfl rfl (Nat.le_of_ble_eq_true rfl) ⟨Nat.zero_le _, Nat.zero_le _⟩ dX11_act_70 (fun H locs hW hk => ?_)
      have ha := keep1 hk ha
      have hg1 := keep1 hk hg1
      have h3 := keep1 hk h3
      have hK0 := keep_tr hK0 hk
      refine lv_iconst (v := (-1 : Int32)) hx hb dX11_act_73 (by decide) ?_
      refine lv_icmp_eq (tgt := 81) hx hb dX11_act_74 (by decide) (fun c15 => ?_) (fun c15 => ?_)
      · have hf := if_t c15 hf
        refine lv_iconst (v := (0 : Int32)) hx hb dX11_act_81 (by decide) ?_
        exact t_X11_act_82 (fu := fu) hM hml hr hlk hf ha hg1 hK0 _ _ hW _ (lv_sub hl [] rfl)
      · have hf := if_f c15 hf
        refine lv_iconst (v := (1 : Int32)) hx hb dX11_act_77 (by decide) ?_
        refine lv_goto (tgt := 82) hx hb dX11_act_78 (by decide) ?_
        exact t_X11_act_82 (fu := fu) hM hml hr hlk hf ha hg1 hK0 _ _ hW _ (lv_sub hl [] rfl)
  · have hf := if_t c8 hf
    refine lv_aload_n hx hb dX11_act_38 rfl (lv_at hl 4 rfl) ?_
    refine b_get hM (hW.at_ a) 9 0 ha rfl rfl (by decide) wi_X11 (wgm fk_RX11_12) (x := .ref (a + 1)) rfl dX11_act_39 ?_
    refine lv_aload_n hx hb dX11_act_42 rfl (lv_at hl 5 rfl) ?_
    refine lv_iload_n hx hb dX11_act_43 rfl (lv_at hl 6 rfl) ?_
    refine lv_iload hx hb dX11_act_44 (lv_at hl 0 rfl) ?_
    obtain ⟨r16, S17, hr16, hf⟩ := bd2_elim hf
    refine s_callVi [.ref g1, .int x2, .int y7] [] hM hml hl.1 hW h3 rfl (by decide) (c_X3_sale l G fu _ (a + 1) _ _ _ h3 hg1 hr16) (cwV 3 hM.2.2.2.1 (gV mk_RX11_65 im_X3_sale se_X3_sale it_RX3 cd_X3_sale) rfl rfl rfl (by decide +kernel) ⟨Nat.le_of_ble_eq_true rfl, Nat.le_of_ble_eq_true rfl⟩) rfl rfl (Nat.le_of_ble_eq_true rfl) ⟨Nat.zero_le _, Nat.zero_le _⟩ dX11_act_46 (fun H locs hW hk => ?_)
    have ha := keep1 hk ha
    have hg1 := keep1 hk hg1
    have h3 := keep1 hk h3
    have hK0 := keep_tr hK0 hk
    refine lv_pop hx hb dX11_act_49 rfl ?_
    refine lv_goto (tgt := 140) hx hb dX11_act_50 (by decide) ?_
    cases hf
    exact W.vret hx hb hr (b_ret0 hW hK0 _) hW.2.2.2 dX11_act_140 hlk
noncomputable def f_X11_act (fu : Nat) (S : ST) (a : Nat) (g1 : Nat) (x2 : Int32) : Option (ST) := f_X11_act_0 fu S a g1 x2
set_option maxHeartbeats 4000000 in
set_option maxRecDepth 100000 in
theorem c_X11_act (l : Launch) (G : GG) (fu : Nat) (S : ST) (a : Nat) (g1 : Nat) (x2 : Int32) {z : ST} (ha : gC (S a) = 10) (hg1 : gC (S g1) = 1) (hf : f_X11_act fu S a g1 x2 = some z) : Ct l yX11_act w_X11_act RM_X11_act G S [.ref a, .ref g1, .int x2] none z 0 0 := by
  refine Met.ofW (cc := cX11_act) (maxL := 8) (ret := none) (by decide) rfl ?_
  intro p e s m args below meth c s₁ B hml hv
  obtain ⟨rfl, hB, hK, hz⟩ := hv
  have hM : MC G p s m _ c cX11_act w_X11_act RX11 := ⟨B.exec, B.bytes, findClass_of_methodNamed B.named, atoms_spec (ws := w_X11_act) B.pre, hK, hz⟩
  have hW : WB G S s s.heap [] := ⟨hB, va_S.rf⟩
  have hl := lv_entry ([.ref a, .ref g1, .int x2]) (n := 8) (Nat.le_of_ble_eq_true rfl)
  rw [lg_entry_eq]
  generalize (lg_sl ([.ref a, .ref g1, .int x2]) ++ List.replicate (8 - (lg_sl ([.ref a, .ref g1, .int x2])).length) Slot.unset).toArray = ls at hl ⊢
  have hl : lv_has ls 8 [(0, .ref a), (1, .ref g1), (2, .int x2)] := hl
  exact t_X11_act_0 (fu := fu) hM hml B.returns B.notSynchronized hf ha hg1 (fun _ _ => rfl) _ _ hW _ (lv_sub hl [0, 1, 2] rfl)
abbrev RM_X11_pass : Room := { frames := 5, cells := 0, slots := 0, locals := 125 }
abbrev w_X11_pass : List Cond := Cond.code yX11_pass cX11_pass 6 none :: wsL_law0
noncomputable def f_X11_pass_49 (fu : Nat) (k22 : Int32 → ST → Option (ST)) (S : ST) (a : Nat) (g1 : Nat) (g2 : Nat) (x4 : Int32) (x5 : Int32) : Option (ST) :=
  ck (decide (gC (S (a + 1)) = 3)) <|
  bd (f_X3_passNight fu (S (a + 1))) fun v3 =>
  nm (st S (a + 1) v3) fun Sv3 =>
  nm (x5 + (1 : Int32)) fun y4 =>
  k22 y4 Sv3
set_option maxHeartbeats 4000000 in
set_option maxRecDepth 100000 in
theorem t_X11_pass_49 {G : GG} {p : Program} {l : Launch} {e : Env} {s : State} {m : MethodId} {args : Array Value} {below : List Frame} {meth : Method} {c : Code} {S0 : ST} {fu : Nat} {z : ST} {a : Nat} {g1 : Nat} {g2 : Nat} {k22 : Int32 → ST → Option (ST)} {S : ST} {x4 : Int32} {x5 : Int32} (hM : MC G p s m args c cX11_pass w_X11_pass RX11) (hml : c.maxLocals = 6) (hr : meth.sig.returnType = none) (hlk : meth.locks = false)  (hk22 : ∀ (x5 : Int32) (S : ST), k22 x5 S = some z → (gC (S a) = 10) → (gC (S g1) = 3) → (gC (S g2) = 1) → (∀ b, gC (S0 b) ≠ 0 → gC (S b) = gC (S0 b)) → ∀ (H : Heap) (locs : List Loc), WB G S s H locs → ∀ (ls : Array Slot), lv_has ls 6 [(0, .ref a), (2, .ref g2), (4, .int x4), (5, .int x5)] → W p l e RM_X11_pass s m args below meth c H locs 0 0 (QR G below args s none S0 z) (F0 m 22 ls [])) (hf : f_X11_pass_49 fu k22 S a g1 g2 x4 x5 = some z) : (gC (S a) = 10) → (gC (S g1) = 3) → (gC (S g2) = 1) → (∀ b, gC (S0 b) ≠ 0 → gC (S b) = gC (S0 b)) → ∀ (H : Heap) (locs : List Loc), WB G S s H locs → ∀ (ls : Array Slot), lv_has ls 6 [(0, .ref a), (2, .ref g2), (4, .int x4), (5, .int x5)] → W p l e RM_X11_pass s m args below meth c H locs 0 0 (QR G below args s none S0 z) (F0 m 49 ls []) := by
  intro ha hg1 hg2 hK0 H locs hW ls hl
  have hx := hM.1
  have hb := hM.2.1
  refine lv_aload_n hx hb dX11_pass_49 rfl (lv_at hl 0 rfl) ?_
  refine b_get hM (hW.at_ a) 9 0 ha rfl rfl (by decide) wi_X11 (wgm fk_RX11_12) (x := .ref (a + 1)) rfl dX11_pass_50 ?_
  obtain ⟨h1, hf⟩ := ck_elim hf
  have h1 := of_decide_eq_true h1
  obtain ⟨v3, hr2, hf⟩ := bd_elim hf
  refine s_callNv [] [] hM hml hl.1 hW h1 rfl (by decide) (Ct_self (c_X3_passNight l G fu _ (a + 1) (S (a + 1)) h1 hr2)) (cwV 0 hM.2.2.2.1 (gV mk_RX11_43 im_X3_passNight se_X3_passNight it_RX3 cd_X3_passNight) rfl rfl rfl (by decide +kernel) ⟨Nat.le_of_ble_eq_true rfl, Nat.le_of_ble_eq_true rfl⟩) rfl rfl (Nat.le_of_ble_eq_true rfl) ⟨Nat.zero_le _, Nat.zero_le _⟩ dX11_pass_53 (fun Sv3 ev3 hk H locs hW => ?_)
  have hf := nm_at ev3 hf
  have ha := keep1 hk ha
  have hg1 := keep1 hk hg1
  have hg2 := keep1 hk hg2
  have h1 := keep1 hk h1
  have hK0 := keep_tr hK0 hk
  obtain ⟨y4, ey4⟩ : ∃ y : Int32, y = x5 + (1 : Int32) := ⟨_, rfl⟩
  have hf := nm_at ey4 hf
  refine lv_iinc (v := y4) (lv' := [(5, .int y4), (0, .ref a), (2, .ref g2), (4, .int x4)]) hx hb dX11_pass_56 hl (k := 3) rfl (by rw [ey4]; rfl) (by decide) rfl (fun ls hl => ?_)
  refine lv_goto (tgt := 22) hx hb dX11_pass_59 (by decide) ?_
  exact hk22 _ _ hf ha hg1 hg2 hK0 _ _ hW _ (lv_sub hl [1, 2, 3, 0] rfl)
noncomputable def f_X11_pass_22s (fu : Nat)  (k22 : Int32 → ST → Option (ST)) (a : Nat) (g1 : Nat) (g2 : Nat) (x4 : Int32) (x5 : Int32) (S : ST) : Option (ST) :=
  if x4 ≤ x5 then
    (some S)
  else
    (if (gI (S g2) 9) ≤ 0 then
      (f_X11_pass_49 fu k22 S a g1 g2 x4 x5)
    else
      (bd2 (f_X11_draw fu (S a) (gI (S g2) 9)) fun r3 v4 =>
      nm (st S a v4) fun Sv4 =>
      bd (f_X11_act fu Sv4 a g2 r3) fun S6 =>
      f_X11_pass_49 fu k22 S6 a g1 g2 x4 x5))
noncomputable def f_X11_pass_22 (fu n : Nat)  (a : Nat) (g1 : Nat) (g2 : Nat) (x4 : Int32) : Int32 → ST → Option (ST) :=
  lq_2 (fun k22 => f_X11_pass_22s fu  k22  a g1 g2 x4) n
set_option maxHeartbeats 4000000 in
set_option maxRecDepth 100000 in
theorem t_X11_pass_22s {G : GG} {p : Program} {l : Launch} {e : Env} {s : State} {m : MethodId} {args : Array Value} {below : List Frame} {meth : Method} {c : Code} {S0 : ST} {fu : Nat} {z : ST} {a : Nat} {g1 : Nat} {g2 : Nat}  {k22 : Int32 → ST → Option (ST)} {x4 : Int32} (hM : MC G p s m args c cX11_pass w_X11_pass RX11) (hml : c.maxLocals = 6) (hr : meth.sig.returnType = none) (hlk : meth.locks = false)   (hk22 : ∀ (x5 : Int32) (S : ST), k22 x5 S = some z → (gC (S a) = 10) → (gC (S g1) = 3) → (gC (S g2) = 1) → (∀ b, gC (S0 b) ≠ 0 → gC (S b) = gC (S0 b)) → ∀ (H : Heap) (locs : List Loc), WB G S s H locs → ∀ (ls : Array Slot), lv_has ls 6 [(0, .ref a), (2, .ref g2), (4, .int x4), (5, .int x5)] → W p l e RM_X11_pass s m args below meth c H locs 0 0 (QR G below args s none S0 z) (F0 m 22 ls [])) : ∀ (x5 : Int32) (S : ST), f_X11_pass_22s fu  k22  a g1 g2 x4 x5 S = some z → (gC (S a) = 10) → (gC (S g1) = 3) → (gC (S g2) = 1) → (∀ b, gC (S0 b) ≠ 0 → gC (S b) = gC (S0 b)) → ∀ (H : Heap) (locs : List Loc), WB G S s H locs → ∀ (ls : Array Slot), lv_has ls 6 [(0, .ref a), (2, .ref g2), (4, .int x4), (5, .int x5)] → W p l e RM_X11_pass s m args below meth c H locs 0 0 (QR G below args s none S0 z) (F0 m 22 ls []) := by
  intro x5 S hf ha hg1 hg2 hK0 H locs hW ls hl
  have hx := hM.1
  have hb := hM.2.1
  refine lv_iload hx hb dX11_pass_22 (lv_at hl 3 rfl) ?_
  refine lv_iload hx hb dX11_pass_24 (lv_at hl 2 rfl) ?_
  refine lv_icmp_ge (tgt := 62) hx hb dX11_pass_26 (by decide) (fun c1 => ?_) (fun c1 => ?_)
  · have hf := if_t c1 hf
    cases hf
    exact W.vret hx hb hr (b_ret0 hW hK0 _) hW.2.2.2 dX11_pass_62 hlk
  · have hf := if_f c1 hf
    refine lv_aload_n hx hb dX11_pass_29 rfl (lv_at hl 1 rfl) ?_
    refine b_get hM (hW.at_ g2) 0 9 hg2 rfl rfl (by decide) wi_X1 (wgm fk_RX11_30) (x := .int (gI (S g2) 9)) rfl dX11_pass_30 ?_
    refine lv_if_le (tgt := 49) hx hb dX11_pass_33 (by decide) (fun c2 => ?_) (fun c2 => ?_)
    · have hf := if_t c2 hf
      exact t_X11_pass_49 (fu := fu) hM hml hr hlk hk22 hf ha hg1 hg2 hK0 _ _ hW _ (lv_sub hl [0, 1, 2, 3] rfl)
    · have hf := if_f c2 hf
      refine lv_aload_n hx hb dX11_pass_36 rfl (lv_at hl 0 rfl) ?_
      refine lv_aload_n hx hb dX11_pass_37 rfl (lv_at hl 1 rfl) ?_
      refine lv_aload_n hx hb dX11_pass_38 rfl (lv_at hl 0 rfl) ?_
      refine lv_aload_n hx hb dX11_pass_39 rfl (lv_at hl 1 rfl) ?_
      refine b_get hM (hW.at_ g2) 0 9 hg2 rfl rfl (by decide) wi_X1 (wgm fk_RX11_30) (x := .int (gI (S g2) 9)) rfl dX11_pass_40 ?_
      obtain ⟨r3, v4, hr3, hf⟩ := bd2_elim hf
      refine s_callNi [.int (gI (S g2) 9)] [.ref g2, .ref a] hM hml hl.1 hW ha rfl (by decide) (Ct_self (c_X11_draw l G fu _ a (S a) _ ha hr3)) (cwV 1 hM.2.2.2.1 (gV mk_RX11_35 im_X11_draw se_X11_draw it_RX11 cd_X11_draw) rfl rfl rfl (by decide +kernel) ⟨Nat.le_of_ble_eq_true rfl, Nat.le_of_ble_eq_true rfl⟩) rfl rfl (Nat.le_of_ble_eq_true rfl) ⟨Nat.zero_le _, Nat.zero_le _⟩ dX11_pass_43 (fun Sv4 ev4 hk H locs hW => ?_)
      have hf := nm_at ev4 hf
      have ha := keep1 hk ha
      have hg1 := keep1 hk hg1
      have hg2 := keep1 hk hg2
      have hK0 := keep_tr hK0 hk
      obtain ⟨S6, hr5, hf⟩ := bd_elim hf
      refine s_callVv [.ref g2, .int r3] [] hM hml hl.1 hW ha rfl (by decide) (c_X11_act l G fu _ a _ _ ha hg2 hr5) (cwV 2 hM.2.2.2.1 (gV mk_RX11_39 im_X11_act se_X11_act it_RX11 cd_X11_act) rfl rfl rfl (by decide +kernel) ⟨Nat.le_of_ble_eq_true rfl, Nat.le_of_ble_eq_true rfl⟩) rfl rfl (Nat.le_of_ble_eq_true rfl) ⟨Nat.zero_le _, Nat.zero_le _⟩ dX11_pass_46 (fun H locs hW hk => ?_)
      have ha := keep1 hk ha
      have hg1 := keep1 hk hg1
      have hg2 := keep1 hk hg2
      have hK0 := keep_tr hK0 hk
      exact t_X11_pass_49 (fu := fu) hM hml hr hlk hk22 hf ha hg1 hg2 hK0 _ _ hW _ (lv_sub hl [0, 1, 2, 3] rfl)
theorem t_X11_pass_22 {G : GG} {p : Program} {l : Launch} {e : Env} {s : State} {m : MethodId} {args : Array Value} {below : List Frame} {meth : Method} {c : Code} {S0 : ST} {fu : Nat} {z : ST} {a : Nat} {g1 : Nat} {g2 : Nat}  {x4 : Int32} (hM : MC G p s m args c cX11_pass w_X11_pass RX11) (hml : c.maxLocals = 6) (hr : meth.sig.returnType = none) (hlk : meth.locks = false)   : ∀ {n : Nat} (x5 : Int32) (S : ST), f_X11_pass_22 fu n   a g1 g2 x4 x5 S = some z → (gC (S a) = 10) → (gC (S g1) = 3) → (gC (S g2) = 1) → (∀ b, gC (S0 b) ≠ 0 → gC (S b) = gC (S0 b)) → ∀ (H : Heap) (locs : List Loc), WB G S s H locs → ∀ (ls : Array Slot), lv_has ls 6 [(0, .ref a), (2, .ref g2), (4, .int x4), (5, .int x5)] → W p l e RM_X11_pass s m args below meth c H locs 0 0 (QR G below args s none S0 z) (F0 m 22 ls []) := by
  intro n
  induction n with
  | zero => intro x5 S hf; cases hf
  | succ n ih => intro x5 S hf; exact t_X11_pass_22s (fu := fu) hM hml hr hlk (k22 := f_X11_pass_22 fu n   a g1 g2 x4) ih _ _ hf
noncomputable def f_X11_pass_0 (fu : Nat)  (S : ST) (a : Nat) (g1 : Nat) (g2 : Nat) (x3 : Int32) (x4 : Int32) : Option (ST) :=
  ck (decide (gC (S (a + 1)) = 3)) <|
  bd (f_X3_takeNights fu S (a + 1) g1) fun S3 =>
  nm (st S3 a (sJ (S3 a) 1 (x3).toInt64)) fun S4 =>
  nm (st S4 a (sI (S4 a) 2 (0 : Int32))) fun S5 =>
  f_X11_pass_22 fu fu a g1 g2 x4 (0 : Int32) S5
set_option maxHeartbeats 4000000 in
set_option maxRecDepth 100000 in
theorem t_X11_pass_0 {G : GG} {p : Program} {l : Launch} {e : Env} {s : State} {m : MethodId} {args : Array Value} {below : List Frame} {meth : Method} {c : Code} {S0 : ST} {fu : Nat} {z : ST} {a : Nat} {g1 : Nat} {g2 : Nat}  {S : ST} {x3 : Int32} {x4 : Int32} (hM : MC G p s m args c cX11_pass w_X11_pass RX11) (hml : c.maxLocals = 6) (hr : meth.sig.returnType = none) (hlk : meth.locks = false)   (hf : f_X11_pass_0 fu  S a g1 g2 x3 x4 = some z) : (gC (S a) = 10) → (gC (S g1) = 3) → (gC (S g2) = 1) → (∀ b, gC (S0 b) ≠ 0 → gC (S b) = gC (S0 b)) → ∀ (H : Heap) (locs : List Loc), WB G S s H locs → ∀ (ls : Array Slot), lv_has ls 6 [(0, .ref a), (1, .ref g1), (2, .ref g2), (3, .int x3), (4, .int x4)] → W p l e RM_X11_pass s m args below meth c H locs 0 0 (QR G below args s none S0 z) (F0 m 0 ls []) := by
  intro ha hg1 hg2 hK0 H locs hW ls hl
  have hx := hM.1
  have hb := hM.2.1
  refine lv_aload_n hx hb dX11_pass_0 rfl (lv_at hl 0 rfl) ?_
  refine b_get hM (hW.at_ a) 9 0 ha rfl rfl (by decide) wi_X11 (wgm fk_RX11_12) (x := .ref (a + 1)) rfl dX11_pass_1 ?_
  obtain ⟨h1, hf⟩ := ck_elim hf
  have h1 := of_decide_eq_true h1
  refine lv_aload_n hx hb dX11_pass_4 rfl (lv_at hl 1 rfl) ?_
  obtain ⟨S3, hr2, hf⟩ := bd_elim hf
  refine s_callVv [.ref g1] [] hM hml hl.1 hW h1 rfl (by decide) (c_X3_takeNights l G fu _ (a + 1) _ h1 hg1 hr2) (cwV 1 hM.2.2.2.1 (gV mk_RX11_26 im_X3_takeNights se_X3_takeNights it_RX3 cd_X3_takeNights) rfl rfl rfl (by decide +kernel) ⟨Nat.le_of_ble_eq_true rfl, Nat.le_of_ble_eq_true rfl⟩) rfl rfl (Nat.le_of_ble_eq_true rfl) ⟨Nat.zero_le _, Nat.zero_le _⟩ dX11_pass_5 (fun H locs hW hk => ?_)
  have ha := keep1 hk ha
  have hg1 := keep1 hk hg1
  have hg2 := keep1 hk hg2
  have h1 := keep1 hk h1
  have hK0 := keep_tr hK0 hk
  refine lv_aload_n hx hb dX11_pass_8 rfl (lv_at hl 0 rfl) ?_
  refine lv_iload_n hx hb dX11_pass_9 rfl (lv_at hl 3 rfl) ?_
  refine lv_i2l hx hb dX11_pass_10 rfl ?_
  refine s_putJ hM hW 9 1 ha rfl rfl (by decide) wi_X11 tyX11 tyX11_ok nmX11 (wgm fk_RX11_18) rfl rfl rfl dX11_pass_11 (fun S4 eS4 hk H locs hW => ?_)
  have hf := nm_at eS4 hf
  have ha := keep1 hk ha
  have hg1 := keep1 hk hg1
  have hg2 := keep1 hk hg2
  have h1 := keep1 hk h1
  have hK0 := keep_tr hK0 hk
  refine lv_aload_n hx hb dX11_pass_14 rfl (lv_at hl 0 rfl) ?_
  refine lv_iconst (v := (0 : Int32)) hx hb dX11_pass_15 (by decide) ?_
  refine s_putI hM hW 9 2 ha rfl rfl (by decide) wi_X11 tyX11 tyX11_ok nmX11 (wgm fk_RX11_22) rfl rfl rfl dX11_pass_16 (fun S5 eS5 hk H locs hW => ?_)
  have hf := nm_at eS5 hf
  have ha := keep1 hk ha
  have hg1 := keep1 hk hg1
  have hg2 := keep1 hk hg2
  have h1 := keep1 hk h1
  have hK0 := keep_tr hK0 hk
  refine lv_iconst (v := (0 : Int32)) hx hb dX11_pass_19 (by decide) ?_
  refine lv_istore (lv' := [(5, .int (0 : Int32)), (0, .ref a), (1, .ref g1), (2, .ref g2), (3, .int x3), (4, .int x4)]) hx hb dX11_pass_20 hl (by decide) rfl (fun ls hl => ?_)
  exact t_X11_pass_22 (fu := fu) hM hml hr hlk _ _ hf ha hg1 hg2 hK0 _ _ hW _ (lv_sub hl [1, 3, 5, 0] rfl)
noncomputable def f_X11_pass (fu : Nat) (S : ST) (a : Nat) (g1 : Nat) (g2 : Nat) (x3 : Int32) (x4 : Int32) : Option (ST) := f_X11_pass_0 fu S a g1 g2 x3 x4
set_option maxHeartbeats 4000000 in
set_option maxRecDepth 100000 in
theorem c_X11_pass (l : Launch) (G : GG) (fu : Nat) (S : ST) (a : Nat) (g1 : Nat) (g2 : Nat) (x3 : Int32) (x4 : Int32) {z : ST} (ha : gC (S a) = 10) (hg1 : gC (S g1) = 3) (hg2 : gC (S g2) = 1) (hf : f_X11_pass fu S a g1 g2 x3 x4 = some z) : Ct l yX11_pass w_X11_pass RM_X11_pass G S [.ref a, .ref g1, .ref g2, .int x3, .int x4] none z 0 0 := by
  refine Met.ofW (cc := cX11_pass) (maxL := 6) (ret := none) (by decide) rfl ?_
  intro p e s m args below meth c s₁ B hml hv
  obtain ⟨rfl, hB, hK, hz⟩ := hv
  have hM : MC G p s m _ c cX11_pass w_X11_pass RX11 := ⟨B.exec, B.bytes, findClass_of_methodNamed B.named, atoms_spec (ws := w_X11_pass) B.pre, hK, hz⟩
  have hW : WB G S s s.heap [] := ⟨hB, va_S.rf⟩
  have hl := lv_entry ([.ref a, .ref g1, .ref g2, .int x3, .int x4]) (n := 6) (Nat.le_of_ble_eq_true rfl)
  rw [lg_entry_eq]
  generalize (lg_sl ([.ref a, .ref g1, .ref g2, .int x3, .int x4]) ++ List.replicate (6 - (lg_sl ([.ref a, .ref g1, .ref g2, .int x3, .int x4])).length) Slot.unset).toArray = ls at hl ⊢
  have hl : lv_has ls 6 [(0, .ref a), (1, .ref g1), (2, .ref g2), (3, .int x3), (4, .int x4)] := hl
  exact t_X11_pass_0 (fu := fu) hM hml B.returns B.notSynchronized hf ha hg1 hg2 (fun _ _ => rfl) _ _ hW _ (lv_sub hl [0, 1, 2, 3, 4] rfl)
abbrev RM_X12_feed : Room := { frames := 1, cells := 0, slots := 0, locals := 25 }
abbrev w_X12_feed : List Cond := Cond.code yX12_feed cX12_feed 7 (some .int) :: wsL_law0
noncomputable def f_X12_feed_0 (fu : Nat)  (S : ST) (a : Nat) (x1 : Int64) (x3 : Int64) (x5 : Int64) : Option (Int32 × ST) :=
  ck (decide (gC (S (a + 1)) = 8)) <|
  bd (f_X8_append fu (S (a + 1)) x1) fun v3 =>
  nm (st S (a + 1) v3) fun Sv3 =>
  bd (f_X8_append fu (Sv3 (a + 1)) x3) fun v5 =>
  nm (st Sv3 (a + 1) v5) fun Sv5 =>
  bd (f_X8_append fu (Sv5 (a + 1)) x5) fun v7 =>
  nm (st Sv5 (a + 1) v7) fun Sv7 =>
  some ((gI (Sv7 (a + 1)) 6), Sv7)
set_option maxHeartbeats 4000000 in
set_option maxRecDepth 100000 in
theorem t_X12_feed_0 {G : GG} {p : Program} {l : Launch} {e : Env} {s : State} {m : MethodId} {args : Array Value} {below : List Frame} {meth : Method} {c : Code} {S0 : ST} {fu : Nat} {z : Int32 × ST} {a : Nat}  {S : ST} {x1 : Int64} {x3 : Int64} {x5 : Int64} (hM : MC G p s m args c cX12_feed w_X12_feed RX12) (hml : c.maxLocals = 7) (hr : meth.sig.returnType = (some .int)) (hlk : meth.locks = false)   (hf : f_X12_feed_0 fu  S a x1 x3 x5 = some z) : (gC (S a) = 11) → (∀ b, gC (S0 b) ≠ 0 → gC (S b) = gC (S0 b)) → ∀ (H : Heap) (locs : List Loc), WB G S s H locs → ∀ (ls : Array Slot), lv_has ls 7 [(0, .ref a), (1, .long x1), (3, .long x3), (5, .long x5)] → W p l e RM_X12_feed s m args below meth c H locs 0 0 (QR G below args s (some (.int z.1)) S0 z.2) (F0 m 0 ls []) := by
  intro ha hK0 H locs hW ls hl
  have hx := hM.1
  have hb := hM.2.1
  refine lv_aload_n hx hb dX12_feed_0 rfl (lv_at hl 0 rfl) ?_
  refine b_get hM (hW.at_ a) 10 0 ha rfl rfl (by decide) wi_X12 (wgm fk_RX12_12) (x := .ref (a + 1)) rfl dX12_feed_1 ?_
  obtain ⟨h1, hf⟩ := ck_elim hf
  have h1 := of_decide_eq_true h1
  refine lv_lload_n hx hb dX12_feed_4 rfl (lv_at hl 1 rfl) ?_
  obtain ⟨v3, hr2, hf⟩ := bd_elim hf
  refine s_callNv [.long x1] [] hM hml hl.1 hW h1 rfl (by decide) (Ct_self (c_X8_append l G fu _ (a + 1) (S (a + 1)) _ h1 hr2)) (cwV 1 hM.2.2.2.1 (gV mk_RX12_103 im_X8_append se_X8_append it_RX8 cd_X8_append) rfl rfl rfl (by decide +kernel) ⟨Nat.le_of_ble_eq_true rfl, Nat.le_of_ble_eq_true rfl⟩) rfl rfl (Nat.le_of_ble_eq_true rfl) ⟨Nat.zero_le _, Nat.zero_le _⟩ dX12_feed_5 (fun Sv3 ev3 hk H locs hW => ?_)
  have hf := nm_at ev3 hf
  have ha := keep1 hk ha
  have h1 := keep1 hk h1
  have hK0 := keep_tr hK0 hk
  refine lv_aload_n hx hb dX12_feed_8 rfl (lv_at hl 0 rfl) ?_
  refine b_get hM (hW.at_ a) 10 0 ha rfl rfl (by decide) wi_X12 (wgm fk_RX12_12) (x := .ref (a + 1)) rfl dX12_feed_9 ?_
  refine lv_lload_n hx hb dX12_feed_12 rfl (lv_at hl 2 rfl) ?_
  obtain ⟨v5, hr4, hf⟩ := bd_elim hf
  refine s_callNv [.long x3] [] hM hml hl.1 hW h1 rfl (by decide) (Ct_self (c_X8_append l G fu _ (a + 1) (Sv3 (a + 1)) _ h1 hr4)) (cwV 1 hM.2.2.2.1 (gV mk_RX12_103 im_X8_append se_X8_append it_RX8 cd_X8_append) rfl rfl rfl (by decide +kernel) ⟨Nat.le_of_ble_eq_true rfl, Nat.le_of_ble_eq_true rfl⟩) rfl rfl (Nat.le_of_ble_eq_true rfl) ⟨Nat.zero_le _, Nat.zero_le _⟩ dX12_feed_13 (fun Sv5 ev5 hk H locs hW => ?_)
  have hf := nm_at ev5 hf
  have ha := keep1 hk ha
  have h1 := keep1 hk h1
  have hK0 := keep_tr hK0 hk
  refine lv_aload_n hx hb dX12_feed_16 rfl (lv_at hl 0 rfl) ?_
  refine b_get hM (hW.at_ a) 10 0 ha rfl rfl (by decide) wi_X12 (wgm fk_RX12_12) (x := .ref (a + 1)) rfl dX12_feed_17 ?_
  refine lv_lload hx hb dX12_feed_20 (lv_at hl 3 rfl) ?_
  obtain ⟨v7, hr6, hf⟩ := bd_elim hf
  refine s_callNv [.long x5] [] hM hml hl.1 hW h1 rfl (by decide) (Ct_self (c_X8_append l G fu _ (a + 1) (Sv5 (a + 1)) _ h1 hr6)) (cwV 1 hM.2.2.2.1 (gV mk_RX12_103 im_X8_append se_X8_append it_RX8 cd_X8_append) rfl rfl rfl (by decide +kernel) ⟨Nat.le_of_ble_eq_true rfl, Nat.le_of_ble_eq_true rfl⟩) rfl rfl (Nat.le_of_ble_eq_true rfl) ⟨Nat.zero_le _, Nat.zero_le _⟩ dX12_feed_22 (fun Sv7 ev7 hk H locs hW => ?_)
  have hf := nm_at ev7 hf
  have ha := keep1 hk ha
  have h1 := keep1 hk h1
  have hK0 := keep_tr hK0 hk
  refine lv_aload_n hx hb dX12_feed_25 rfl (lv_at hl 0 rfl) ?_
  refine b_get hM (hW.at_ a) 10 0 ha rfl rfl (by decide) wi_X12 (wgm fk_RX12_12) (x := .ref (a + 1)) rfl dX12_feed_26 ?_
  refine b_get hM (hW.at_ (a + 1)) 7 6 h1 rfl rfl (by decide) wi_X8 (wgm fk_RX12_107) (x := .int (gI (Sv7 (a + 1)) 6)) rfl dX12_feed_29 ?_
  cases hf
  exact W.iret hx hb hr (b_ret0 hW hK0 _) hW.2.2.2 dX12_feed_32 hlk
noncomputable def f_X12_feed (fu : Nat) (S : ST) (a : Nat) (x1 : Int64) (x3 : Int64) (x5 : Int64) : Option (Int32 × ST) := f_X12_feed_0 fu S a x1 x3 x5
set_option maxHeartbeats 4000000 in
set_option maxRecDepth 100000 in
theorem c_X12_feed (l : Launch) (G : GG) (fu : Nat) (S : ST) (a : Nat) (x1 : Int64) (x3 : Int64) (x5 : Int64) {z : Int32} {w : ST} (ha : gC (S a) = 11) (hf : f_X12_feed fu S a x1 x3 x5 = some (z, w)) : Ct l yX12_feed w_X12_feed RM_X12_feed G S [.ref a, .long x1, .long x3, .long x5] (some (.int z)) w 0 0 := by
  refine Met.ofW (cc := cX12_feed) (maxL := 7) (ret := (some .int)) (by decide) rfl ?_
  intro p e s m args below meth c s₁ B hml hv
  obtain ⟨rfl, hB, hK, hz⟩ := hv
  have hM : MC G p s m _ c cX12_feed w_X12_feed RX12 := ⟨B.exec, B.bytes, findClass_of_methodNamed B.named, atoms_spec (ws := w_X12_feed) B.pre, hK, hz⟩
  have hW : WB G S s s.heap [] := ⟨hB, va_S.rf⟩
  have hl := lv_entry ([.ref a, .long x1, .long x3, .long x5]) (n := 7) (Nat.le_of_ble_eq_true rfl)
  rw [lg_entry_eq]
  generalize (lg_sl ([.ref a, .long x1, .long x3, .long x5]) ++ List.replicate (7 - (lg_sl ([.ref a, .long x1, .long x3, .long x5])).length) Slot.unset).toArray = ls at hl ⊢
  have hl : lv_has ls 7 [(0, .ref a), (1, .long x1), (3, .long x3), (5, .long x5)] := hl
  exact t_X12_feed_0 (fu := fu) hM hml B.returns B.notSynchronized hf ha (fun _ _ => rfl) _ _ hW _ (lv_sub hl [0, 1, 2, 3] rfl)
abbrev RM_X12_startAnew : Room := { frames := 3, cells := 0, slots := 0, locals := 102 }
abbrev w_X12_startAnew : List Cond := Cond.code yX12_startAnew cX12_startAnew 1 none :: wsL_law0
noncomputable def f_X12_startAnew_0 (fu : Nat)  (S : ST) (a : Nat) : Option (ST) :=
  ck (decide (gC (S (a + 9)) = 3)) <|
  bd (gR (S a) 12) fun q2 =>
  ck (decide (gC (S q2) = 1)) <|
  ck (decide (gC (S (q2 + 8)) = 3)) <|
  bd (f_X3_takeAll fu S (a + 9) (q2 + 8)) fun S6 =>
  bd (gR (S6 a) 14) fun q7 =>
  ck (decide (gC (S6 q7) = 6)) <|
  nm (st S6 q7 (sI (S6 q7) 4 (0 : Int32))) fun S9 =>
  nm (st S9 a (sI (S9 a) 17 (0 : Int32))) fun S10 =>
  nm (st S10 a (sI (S10 a) 18 (0 : Int32))) fun S11 =>
  some S11
set_option maxHeartbeats 4000000 in
set_option maxRecDepth 100000 in
theorem t_X12_startAnew_0 {G : GG} {p : Program} {l : Launch} {e : Env} {s : State} {m : MethodId} {args : Array Value} {below : List Frame} {meth : Method} {c : Code} {S0 : ST} {fu : Nat} {z : ST} {a : Nat}  {S : ST} (hM : MC G p s m args c cX12_startAnew w_X12_startAnew RX12) (hml : c.maxLocals = 1) (hr : meth.sig.returnType = none) (hlk : meth.locks = false)   (hf : f_X12_startAnew_0 fu  S a  = some z) : (gC (S a) = 11) → (∀ b, gC (S0 b) ≠ 0 → gC (S b) = gC (S0 b)) → ∀ (H : Heap) (locs : List Loc), WB G S s H locs → ∀ (ls : Array Slot), lv_has ls 1 [(0, .ref a)] → W p l e RM_X12_startAnew s m args below meth c H locs 0 0 (QR G below args s none S0 z) (F0 m 0 ls []) := by
  intro ha hK0 H locs hW ls hl
  have hx := hM.1
  have hb := hM.2.1
  refine lv_aload_n hx hb dX12_startAnew_0 rfl (lv_at hl 0 rfl) ?_
  refine b_get hM (hW.at_ a) 10 2 ha rfl rfl (by decide) wi_X12 (wgm fk_RX12_28) (x := .ref (a + 9)) rfl dX12_startAnew_1 ?_
  obtain ⟨h1, hf⟩ := ck_elim hf
  have h1 := of_decide_eq_true h1
  refine lv_aload_n hx hb dX12_startAnew_4 rfl (lv_at hl 0 rfl) ?_
  obtain ⟨q2, hq2, hf⟩ := bd_elim hf
  refine b_get hM (hW.at_ a) 10 12 ha rfl rfl (by decide) wi_X12 (wgm fk_RX12_76) (x := .ref q2) (by show va_rf _ = _; rw [hq2]; rfl) dX12_startAnew_5 ?_
  obtain ⟨h3, hf⟩ := ck_elim hf
  have h3 := of_decide_eq_true h3
  refine b_get hM (hW.at_ q2) 0 7 h3 rfl rfl (by decide) wi_X1 (wgm fk_RX12_117) (x := .ref (q2 + 8)) rfl dX12_startAnew_8 ?_
  obtain ⟨h4, hf⟩ := ck_elim hf
  have h4 := of_decide_eq_true h4
  obtain ⟨S6, hr5, hf⟩ := bd_elim hf
  refine s_callVv [.ref (q2 + 8)] [] hM hml hl.1 hW h1 rfl (by decide) (c_X3_takeAll l G fu _ (a + 9) _ h1 h4 hr5) (cwV 1 hM.2.2.2.1 (gV mk_RX12_120 im_X3_takeAll se_X3_takeAll it_RX3 cd_X3_takeAll) rfl rfl rfl (by decide +kernel) ⟨Nat.le_of_ble_eq_true rfl, Nat.le_of_ble_eq_true rfl⟩) rfl rfl (Nat.le_of_ble_eq_true rfl) ⟨Nat.zero_le _, Nat.zero_le _⟩ dX12_startAnew_11 (fun H locs hW hk => ?_)
  have ha := keep1 hk ha
  have h1 := keep1 hk h1
  have h3 := keep1 hk h3
  have h4 := keep1 hk h4
  have hK0 := keep_tr hK0 hk
  refine lv_aload_n hx hb dX12_startAnew_14 rfl (lv_at hl 0 rfl) ?_
  obtain ⟨q7, hq7, hf⟩ := bd_elim hf
  refine b_get hM (hW.at_ a) 10 14 ha rfl rfl (by decide) wi_X12 (wgm fk_RX12_86) (x := .ref q7) (by show va_rf _ = _; rw [hq7]; rfl) dX12_startAnew_15 ?_
  obtain ⟨h8, hf⟩ := ck_elim hf
  have h8 := of_decide_eq_true h8
  refine lv_iconst (v := (0 : Int32)) hx hb dX12_startAnew_18 (by decide) ?_
  refine s_putI hM hW 5 4 h8 rfl rfl (by decide) wi_X6 tyX6 tyX6_ok nmX6 (wgm fk_RX12_124) rfl rfl rfl dX12_startAnew_19 (fun S9 eS9 hk H locs hW => ?_)
  have hf := nm_at eS9 hf
  have ha := keep1 hk ha
  have h1 := keep1 hk h1
  have h3 := keep1 hk h3
  have h4 := keep1 hk h4
  have h8 := keep1 hk h8
  have hK0 := keep_tr hK0 hk
  refine lv_aload_n hx hb dX12_startAnew_22 rfl (lv_at hl 0 rfl) ?_
  refine lv_iconst (v := (0 : Int32)) hx hb dX12_startAnew_23 (by decide) ?_
  refine s_putI hM hW 10 17 ha rfl rfl (by decide) wi_X12 tyX12 tyX12_ok nmX12 (wgm fk_RX12_97) rfl rfl rfl dX12_startAnew_24 (fun S10 eS10 hk H locs hW => ?_)
  have hf := nm_at eS10 hf
  have ha := keep1 hk ha
  have h1 := keep1 hk h1
  have h3 := keep1 hk h3
  have h4 := keep1 hk h4
  have h8 := keep1 hk h8
  have hK0 := keep_tr hK0 hk
  refine lv_aload_n hx hb dX12_startAnew_27 rfl (lv_at hl 0 rfl) ?_
  refine lv_iconst (v := (0 : Int32)) hx hb dX12_startAnew_28 (by decide) ?_
  refine s_putI hM hW 10 18 ha rfl rfl (by decide) wi_X12 tyX12 tyX12_ok nmX12 (wgm fk_RX12_100) rfl rfl rfl dX12_startAnew_29 (fun S11 eS11 hk H locs hW => ?_)
  have hf := nm_at eS11 hf
  have ha := keep1 hk ha
  have h1 := keep1 hk h1
  have h3 := keep1 hk h3
  have h4 := keep1 hk h4
  have h8 := keep1 hk h8
  have hK0 := keep_tr hK0 hk
  cases hf
  exact W.vret hx hb hr (b_ret0 hW hK0 _) hW.2.2.2 dX12_startAnew_32 hlk
noncomputable def f_X12_startAnew (fu : Nat) (S : ST) (a : Nat) : Option (ST) := f_X12_startAnew_0 fu S a
set_option maxHeartbeats 4000000 in
set_option maxRecDepth 100000 in
theorem c_X12_startAnew (l : Launch) (G : GG) (fu : Nat) (S : ST) (a : Nat) {z : ST} (ha : gC (S a) = 11) (hf : f_X12_startAnew fu S a = some z) : Ct l yX12_startAnew w_X12_startAnew RM_X12_startAnew G S [.ref a] none z 0 0 := by
  refine Met.ofW (cc := cX12_startAnew) (maxL := 1) (ret := none) (by decide) rfl ?_
  intro p e s m args below meth c s₁ B hml hv
  obtain ⟨rfl, hB, hK, hz⟩ := hv
  have hM : MC G p s m _ c cX12_startAnew w_X12_startAnew RX12 := ⟨B.exec, B.bytes, findClass_of_methodNamed B.named, atoms_spec (ws := w_X12_startAnew) B.pre, hK, hz⟩
  have hW : WB G S s s.heap [] := ⟨hB, va_S.rf⟩
  have hl := lv_entry ([.ref a]) (n := 1) (Nat.le_of_ble_eq_true rfl)
  rw [lg_entry_eq]
  generalize (lg_sl ([.ref a]) ++ List.replicate (1 - (lg_sl ([.ref a])).length) Slot.unset).toArray = ls at hl ⊢
  have hl : lv_has ls 1 [(0, .ref a)] := hl
  exact t_X12_startAnew_0 (fu := fu) hM hml B.returns B.notSynchronized hf ha (fun _ _ => rfl) _ _ hW _ (lv_sub hl [0] rfl)
abbrev RM_X12_nights : Room := { frames := 7, cells := 0, slots := 0, locals := 158 }
abbrev w_X12_nights : List Cond := Cond.code yX12_nights cX12_nights 3 (some .int) :: wsL_law0
noncomputable def f_X12_nights_38 (fu : Nat)  (S : ST) (a : Nat) (x1 : Int32) : Option (Int32 × ST) :=
  some (x1, S)
set_option maxHeartbeats 4000000 in
set_option maxRecDepth 100000 in
theorem t_X12_nights_38 {G : GG} {p : Program} {l : Launch} {e : Env} {s : State} {m : MethodId} {args : Array Value} {below : List Frame} {meth : Method} {c : Code} {S0 : ST} {fu : Nat} {z : Int32 × ST} {a : Nat}  {S : ST} {x1 : Int32} (hM : MC G p s m args c cX12_nights w_X12_nights RX12) (hml : c.maxLocals = 3) (hr : meth.sig.returnType = (some .int)) (hlk : meth.locks = false)   (hf : f_X12_nights_38 fu  S a x1 = some z) : (gC (S a) = 11) → (∀ b, gC (S0 b) ≠ 0 → gC (S b) = gC (S0 b)) → ∀ (H : Heap) (locs : List Loc), WB G S s H locs → ∀ (ls : Array Slot), lv_has ls 3 [(1, .int x1)] → W p l e RM_X12_nights s m args below meth c H locs 0 0 (QR G below args s (some (.int z.1)) S0 z.2) (F0 m 38 ls []) := by
  intro ha hK0 H locs hW ls hl
  have hx := hM.1
  have hb := hM.2.1
  refine lv_iload_n hx hb dX12_nights_38 rfl (lv_at hl 0 rfl) ?_
  cases hf
  exact W.iret hx hb hr (b_ret0 hW hK0 _) hW.2.2.2 dX12_nights_39 hlk
noncomputable def f_X12_nights_0 (fu : Nat)  (S : ST) (a : Nat) : Option (Int32 × ST) :=
  bd (gR (S a) 15) fun q1 =>
  ck (decide (gC (S q1) = 6)) <|
  ck (decide (gC (S (a + 1)) = 8)) <|
  bd (gR (S a) 12) fun q4 =>
  ck (decide (gC (S q4) = 1)) <|
  bd2 (f_X6_read fu S q1 (a + 1) q4) fun r6 S7 =>
  if r6 = 0 then
    (bd (gR (S7 a) 14) fun q9 =>
    ck (decide (gC (S7 q9) = 6)) <|
    bd (gR (S7 a) 15) fun q11 =>
    ck (decide (gC (S7 q11) = 6)) <|
    nm (st S7 a (sR (S7 a) 14 (some q11))) fun S13 =>
    nm (st S13 a (sR (S13 a) 15 (some q9))) fun S14 =>
    f_X12_nights_38 fu S14 a r6)
  else
    (f_X12_nights_38 fu S7 a r6)
set_option maxHeartbeats 4000000 in
set_option maxRecDepth 100000 in
theorem t_X12_nights_0 {G : GG} {p : Program} {l : Launch} {e : Env} {s : State} {m : MethodId} {args : Array Value} {below : List Frame} {meth : Method} {c : Code} {S0 : ST} {fu : Nat} {z : Int32 × ST} {a : Nat}  {S : ST} (hM : MC G p s m args c cX12_nights w_X12_nights RX12) (hml : c.maxLocals = 3) (hr : meth.sig.returnType = (some .int)) (hlk : meth.locks = false)   (hf : f_X12_nights_0 fu  S a  = some z) : (gC (S a) = 11) → (∀ b, gC (S0 b) ≠ 0 → gC (S b) = gC (S0 b)) → ∀ (H : Heap) (locs : List Loc), WB G S s H locs → ∀ (ls : Array Slot), lv_has ls 3 [(0, .ref a)] → W p l e RM_X12_nights s m args below meth c H locs 0 0 (QR G below args s (some (.int z.1)) S0 z.2) (F0 m 0 ls []) := by
  intro ha hK0 H locs hW ls hl
  have hx := hM.1
  have hb := hM.2.1
  refine lv_aload_n hx hb dX12_nights_0 rfl (lv_at hl 0 rfl) ?_
  obtain ⟨q1, hq1, hf⟩ := bd_elim hf
  refine b_get hM (hW.at_ a) 10 15 ha rfl rfl (by decide) wi_X12 (wgm fk_RX12_90) (x := .ref q1) (by show va_rf _ = _; rw [hq1]; rfl) dX12_nights_1 ?_
  obtain ⟨h2, hf⟩ := ck_elim hf
  have h2 := of_decide_eq_true h2
  refine lv_aload_n hx hb dX12_nights_4 rfl (lv_at hl 0 rfl) ?_
  refine b_get hM (hW.at_ a) 10 0 ha rfl rfl (by decide) wi_X12 (wgm fk_RX12_12) (x := .ref (a + 1)) rfl dX12_nights_5 ?_
  obtain ⟨h3, hf⟩ := ck_elim hf
  have h3 := of_decide_eq_true h3
  refine lv_aload_n hx hb dX12_nights_8 rfl (lv_at hl 0 rfl) ?_
  obtain ⟨q4, hq4, hf⟩ := bd_elim hf
  refine b_get hM (hW.at_ a) 10 12 ha rfl rfl (by decide) wi_X12 (wgm fk_RX12_76) (x := .ref q4) (by show va_rf _ = _; rw [hq4]; rfl) dX12_nights_9 ?_
  obtain ⟨h5, hf⟩ := ck_elim hf
  have h5 := of_decide_eq_true h5
  obtain ⟨r6, S7, hr6, hf⟩ := bd2_elim hf
  refine s_callVi [.ref (a + 1), .ref q4] [] hM hml hl.1 hW h2 rfl (by decide) (c_X6_read l G fu _ q1 _ _ h2 h3 h5 hr6) (cwV 2 hM.2.2.2.1 (gV mk_RX12_127 im_X6_read se_X6_read it_RX6 cd_X6_read) rfl rfl rfl (by decide +kernel) ⟨Nat.le_of_ble_eq_true rfl, Nat.le_of_ble_eq_true rfl⟩) rfl rfl (Nat.le_of_ble_eq_true rfl) ⟨Nat.zero_le _, Nat.zero_le _⟩ dX12_nights_12 (fun H locs hW hk => ?_)
  have ha := keep1 hk ha
  have h2 := keep1 hk h2
  have h3 := keep1 hk h3
  have h5 := keep1 hk h5
  have hK0 := keep_tr hK0 hk
  refine lv_istore_n (lv' := [(1, .int r6), (0, .ref a)]) hx hb dX12_nights_15 rfl hl (by decide) rfl (fun ls hl => ?_)
  refine lv_iload_n hx hb dX12_nights_16 rfl (lv_at hl 0 rfl) ?_
  refine lv_if_ne (tgt := 38) hx hb dX12_nights_17 (by decide) (fun c8 => ?_) (fun c8 => ?_)
  · have hf := if_f c8 hf
    exact t_X12_nights_38 (fu := fu) hM hml hr hlk hf ha hK0 _ _ hW _ (lv_sub hl [0] rfl)
  · have hf := if_t c8 hf
    refine lv_aload_n hx hb dX12_nights_20 rfl (lv_at hl 1 rfl) ?_
    obtain ⟨q9, hq9, hf⟩ := bd_elim hf
    refine b_get hM (hW.at_ a) 10 14 ha rfl rfl (by decide) wi_X12 (wgm fk_RX12_86) (x := .ref q9) (by show va_rf _ = _; rw [hq9]; rfl) dX12_nights_21 ?_
    obtain ⟨h10, hf⟩ := ck_elim hf
    have h10 := of_decide_eq_true h10
    refine lv_astore_n (lv' := [(2, .ref q9), (1, .int r6), (0, .ref a)]) hx hb dX12_nights_24 rfl hl (by decide) rfl (fun ls hl => ?_)
    refine lv_aload_n hx hb dX12_nights_25 rfl (lv_at hl 2 rfl) ?_
    refine lv_aload_n hx hb dX12_nights_26 rfl (lv_at hl 2 rfl) ?_
    obtain ⟨q11, hq11, hf⟩ := bd_elim hf
    refine b_get hM (hW.at_ a) 10 15 ha rfl rfl (by decide) wi_X12 (wgm fk_RX12_90) (x := .ref q11) (by show va_rf _ = _; rw [hq11]; rfl) dX12_nights_27 ?_
    obtain ⟨h12, hf⟩ := ck_elim hf
    have h12 := of_decide_eq_true h12
    refine s_putR hM hW 10 14 ha rfl rfl (by decide) wi_X12 tyX12 tyX12_ok nmX12 (wgm fk_RX12_86) rfl rfl _ rfl (some q11) rfl dX12_nights_30 (fun S13 eS13 hk H locs hW => ?_)
    have hf := nm_at eS13 hf
    have ha := keep1 hk ha
    have h2 := keep1 hk h2
    have h3 := keep1 hk h3
    have h5 := keep1 hk h5
    have h10 := keep1 hk h10
    have h12 := keep1 hk h12
    have hK0 := keep_tr hK0 hk
    refine lv_aload_n hx hb dX12_nights_33 rfl (lv_at hl 2 rfl) ?_
    refine lv_aload_n hx hb dX12_nights_34 rfl (lv_at hl 0 rfl) ?_
    refine s_putR hM hW 10 15 ha rfl rfl (by decide) wi_X12 tyX12 tyX12_ok nmX12 (wgm fk_RX12_90) rfl rfl _ rfl (some q9) rfl dX12_nights_35 (fun S14 eS14 hk H locs hW => ?_)
    have hf := nm_at eS14 hf
    have ha := keep1 hk ha
    have h2 := keep1 hk h2
    have h3 := keep1 hk h3
    have h5 := keep1 hk h5
    have h10 := keep1 hk h10
    have h12 := keep1 hk h12
    have hK0 := keep_tr hK0 hk
    exact t_X12_nights_38 (fu := fu) hM hml hr hlk hf ha hK0 _ _ hW _ (lv_sub hl [1] rfl)
noncomputable def f_X12_nights (fu : Nat) (S : ST) (a : Nat) : Option (Int32 × ST) := f_X12_nights_0 fu S a
set_option maxHeartbeats 4000000 in
set_option maxRecDepth 100000 in
theorem c_X12_nights (l : Launch) (G : GG) (fu : Nat) (S : ST) (a : Nat) {z : Int32} {w : ST} (ha : gC (S a) = 11) (hf : f_X12_nights fu S a = some (z, w)) : Ct l yX12_nights w_X12_nights RM_X12_nights G S [.ref a] (some (.int z)) w 0 0 := by
  refine Met.ofW (cc := cX12_nights) (maxL := 3) (ret := (some .int)) (by decide) rfl ?_
  intro p e s m args below meth c s₁ B hml hv
  obtain ⟨rfl, hB, hK, hz⟩ := hv
  have hM : MC G p s m _ c cX12_nights w_X12_nights RX12 := ⟨B.exec, B.bytes, findClass_of_methodNamed B.named, atoms_spec (ws := w_X12_nights) B.pre, hK, hz⟩
  have hW : WB G S s s.heap [] := ⟨hB, va_S.rf⟩
  have hl := lv_entry ([.ref a]) (n := 3) (Nat.le_of_ble_eq_true rfl)
  rw [lg_entry_eq]
  generalize (lg_sl ([.ref a]) ++ List.replicate (3 - (lg_sl ([.ref a])).length) Slot.unset).toArray = ls at hl ⊢
  have hl : lv_has ls 3 [(0, .ref a)] := hl
  exact t_X12_nights_0 (fu := fu) hM hml B.returns B.notSynchronized hf ha (fun _ _ => rfl) _ _ hW _ (lv_sub hl [0] rfl)
abbrev RM_X12_piece : Room := { frames := 3, cells := 0, slots := 0, locals := 73 }
abbrev w_X12_piece : List Cond := Cond.code yX12_piece cX12_piece 3 (some .int) :: wsL_law0
noncomputable def f_X12_piece_0 (fu : Nat)  (S : ST) (a : Nat) (x1 : Int32) (x2 : Int32) : Option (Int32 × ST) :=
  ck (decide (gC (S (a + 9)) = 3)) <|
  bd (f_X3_isThere fu (S (a + 9)) x1) fun r2 =>
  if r2 = 0 then
    (some ((-1 : Int32), S))
  else
    (if x2 = (0 : Int32) then
      (ck (inb x1 8) <|
      some ((gA (S (a + 9)) 0 x1.toNatClampNeg), S))
    else
    if x2 = (1 : Int32) then
      (ck (inb x1 8) <|
      some ((gA (S (a + 9)) 4 x1.toNatClampNeg), S))
    else
    if x2 = (2 : Int32) then
      (ck (inb x1 8) <|
      some ((gA (S (a + 9)) 2 x1.toNatClampNeg), S))
    else
    if x2 = (3 : Int32) then
      (ck (inb x1 8) <|
      some ((gA (S (a + 9)) 3 x1.toNatClampNeg), S))
    else
    if x2 = (4 : Int32) then
      (bd (gR (S a) 12) fun q13 =>
      ck (decide (gC (S q13) = 1)) <|
      bd2 (f_X3_worthOf fu S (a + 9) q13 x1) fun r15 S16 =>
      some (r15, S16))
    else
    (some ((-1 : Int32), S)))
set_option maxHeartbeats 4000000 in
set_option maxRecDepth 100000 in
theorem t_X12_piece_0 {G : GG} {p : Program} {l : Launch} {e : Env} {s : State} {m : MethodId} {args : Array Value} {below : List Frame} {meth : Method} {c : Code} {S0 : ST} {fu : Nat} {z : Int32 × ST} {a : Nat}  {S : ST} {x1 : Int32} {x2 : Int32} (hM : MC G p s m args c cX12_piece w_X12_piece RX12) (hml : c.maxLocals = 3) (hr : meth.sig.returnType = (some .int)) (hlk : meth.locks = false)   (hf : f_X12_piece_0 fu  S a x1 x2 = some z) : (gC (S a) = 11) → (∀ b, gC (S0 b) ≠ 0 → gC (S b) = gC (S0 b)) → ∀ (H : Heap) (locs : List Loc), WB G S s H locs → ∀ (ls : Array Slot), lv_has ls 3 [(0, .ref a), (1, .int x1), (2, .int x2)] → W p l e RM_X12_piece s m args below meth c H locs 0 0 (QR G below args s (some (.int z.1)) S0 z.2) (F0 m 0 ls []) := by
  intro ha hK0 H locs hW ls hl
  have hx := hM.1
  have hb := hM.2.1
  refine lv_aload_n hx hb dX12_piece_0 rfl (lv_at hl 0 rfl) ?_
  refine b_get hM (hW.at_ a) 10 2 ha rfl rfl (by decide) wi_X12 (wgm fk_RX12_28) (x := .ref (a + 9)) rfl dX12_piece_1 ?_
  obtain ⟨h1, hf⟩ := ck_elim hf
  have h1 := of_decide_eq_true h1
  refine lv_iload_n hx hb dX12_piece_4 rfl (lv_at hl 1 rfl) ?_
  obtain ⟨r2, hr2, hf⟩ := bd_elim hf
  refine s_callVi [.int x1] [] hM hml hl.1 hW h1 rfl (by decide) (Ct_rd (c_X3_isThere l G fu _ (a + 9) (S (a + 9)) _ h1 hr2)) (cwV 1 hM.2.2.2.1 (gV mk_RX12_130 im_X3_isThere se_X3_isThere it_RX3 cd_X3_isThere) rfl rfl rfl (by decide +kernel) ⟨Nat.le_of_ble_eq_true rfl, Nat.le_of_ble_eq_true rfl⟩) rfl rfl (Nat.le_of_ble_eq_true rfl) ⟨Nat.zero_le _, Nat.zero_le _⟩ dX12_piece_5 (fun H locs hW hk => ?_)
  refine lv_if_ne (tgt := 13) hx hb dX12_piece_8 (by decide) (fun c3 => ?_) (fun c3 => ?_)
  · have hf := if_f c3 hf
    refine lv_iload_n hx hb dX12_piece_13 rfl (lv_at hl 2 rfl) ?_
    by_cases c4 : x2 = (0 : Int32)
    · have hf := if_t c4 hf
      refine lv_tableIn (off := 34) (tgt := 48) hx hb dX12_piece_14 (by rw [c4]; decide) (by rw [c4]; decide) (by rw [c4]; rfl) (by decide) ?_
      refine lv_aload_n hx hb dX12_piece_48 rfl (lv_at hl 0 rfl) ?_
      refine b_get hM (hW.at_ a) 10 2 ha rfl rfl (by decide) wi_X12 (wgm fk_RX12_28) (x := .ref (a + 9)) rfl dX12_piece_49 ?_
      refine b_get hM (hW.at_ (a + 9)) 2 0 h1 rfl rfl (by decide) wi_X3 (wgm fk_RX12_134) (x := .ref ((a + 9) + 1)) rfl dX12_piece_52 ?_
      refine lv_iload_n hx hb dX12_piece_55 rfl (lv_at hl 1 rfl) ?_
      obtain ⟨h5, hf⟩ := ck_elim hf
      refine b_iald (n := 8) hM (hW.at_ (a + 9)) 2 0 h1 (by decide) rfl rfl rfl rfl h5 dX12_piece_56 ?_
      cases hf
      exact W.iret hx hb hr (b_ret0 hW hK0 _) hW.2.2.2 dX12_piece_57 hlk
    have hf := if_f c4 hf
    by_cases c6 : x2 = (1 : Int32)
    · have hf := if_t c6 hf
      refine lv_tableIn (off := 44) (tgt := 58) hx hb dX12_piece_14 (by rw [c6]; decide) (by rw [c6]; decide) (by rw [c6]; rfl) (by decide) ?_
      refine lv_aload_n hx hb dX12_piece_58 rfl (lv_at hl 0 rfl) ?_
      refine b_get hM (hW.at_ a) 10 2 ha rfl rfl (by decide) wi_X12 (wgm fk_RX12_28) (x := .ref (a + 9)) rfl dX12_piece_59 ?_
      refine b_get hM (hW.at_ (a + 9)) 2 4 h1 rfl rfl (by decide) wi_X3 (wgm fk_RX12_137) (x := .ref ((a + 9) + 5)) rfl dX12_piece_62 ?_
      refine lv_iload_n hx hb dX12_piece_65 rfl (lv_at hl 1 rfl) ?_
      obtain ⟨h7, hf⟩ := ck_elim hf
      refine b_iald (n := 8) hM (hW.at_ (a + 9)) 2 4 h1 (by decide) rfl rfl rfl rfl h7 dX12_piece_66 ?_
      cases hf
      exact W.iret hx hb hr (b_ret0 hW hK0 _) hW.2.2.2 dX12_piece_67 hlk
    have hf := if_f c6 hf
    by_cases c8 : x2 = (2 : Int32)
    · have hf := if_t c8 hf
      refine lv_tableIn (off := 54) (tgt := 68) hx hb dX12_piece_14 (by rw [c8]; decide) (by rw [c8]; decide) (by rw [c8]; rfl) (by decide) ?_
      refine lv_aload_n hx hb dX12_piece_68 rfl (lv_at hl 0 rfl) ?_
      refine b_get hM (hW.at_ a) 10 2 ha rfl rfl (by decide) wi_X12 (wgm fk_RX12_28) (x := .ref (a + 9)) rfl dX12_piece_69 ?_
      refine b_get hM (hW.at_ (a + 9)) 2 2 h1 rfl rfl (by decide) wi_X3 (wgm fk_RX12_140) (x := .ref ((a + 9) + 3)) rfl dX12_piece_72 ?_
      refine lv_iload_n hx hb dX12_piece_75 rfl (lv_at hl 1 rfl) ?_
      obtain ⟨h9, hf⟩ := ck_elim hf
      refine b_iald (n := 8) hM (hW.at_ (a + 9)) 2 2 h1 (by decide) rfl rfl rfl rfl h9 dX12_piece_76 ?_
      cases hf
      exact W.iret hx hb hr (b_ret0 hW hK0 _) hW.2.2.2 dX12_piece_77 hlk
    have hf := if_f c8 hf
    by_cases c10 : x2 = (3 : Int32)
    · have hf := if_t c10 hf
      refine lv_tableIn (off := 64) (tgt := 78) hx hb dX12_piece_14 (by rw [c10]; decide) (by rw [c10]; decide) (by rw [c10]; rfl) (by decide) ?_
      refine lv_aload_n hx hb dX12_piece_78 rfl (lv_at hl 0 rfl) ?_
      refine b_get hM (hW.at_ a) 10 2 ha rfl rfl (by decide) wi_X12 (wgm fk_RX12_28) (x := .ref (a + 9)) rfl dX12_piece_79 ?_
      refine b_get hM (hW.at_ (a + 9)) 2 3 h1 rfl rfl (by decide) wi_X3 (wgm fk_RX12_143) (x := .ref ((a + 9) + 4)) rfl dX12_piece_82 ?_
      refine lv_iload_n hx hb dX12_piece_85 rfl (lv_at hl 1 rfl) ?_
      obtain ⟨h11, hf⟩ := ck_elim hf
      refine b_iald (n := 8) hM (hW.at_ (a + 9)) 2 3 h1 (by decide) rfl rfl rfl rfl h11 dX12_piece_86 ?_
      cases hf
      exact W.iret hx hb hr (b_ret0 hW hK0 _) hW.2.2.2 dX12_piece_87 hlk
    have hf := if_f c10 hf
    by_cases c12 : x2 = (4 : Int32)
    · have hf := if_t c12 hf
      refine lv_tableIn (off := 74) (tgt := 88) hx hb dX12_piece_14 (by rw [c12]; decide) (by rw [c12]; decide) (by rw [c12]; rfl) (by decide) ?_
      refine lv_aload_n hx hb dX12_piece_88 rfl (lv_at hl 0 rfl) ?_
      refine b_get hM (hW.at_ a) 10 2 ha rfl rfl (by decide) wi_X12 (wgm fk_RX12_28) (x := .ref (a + 9)) rfl dX12_piece_89 ?_
      refine lv_aload_n hx hb dX12_piece_92 rfl (lv_at hl 0 rfl) ?_
      obtain ⟨q13, hq13, hf⟩ := bd_elim hf
      refine b_get hM (hW.at_ a) 10 12 ha rfl rfl (by decide) wi_X12 (wgm fk_RX12_76) (x := .ref q13) (by show va_rf _ = _; rw [hq13]; rfl) dX12_piece_93 ?_
      obtain ⟨h14, hf⟩ := ck_elim hf
      have h14 := of_decide_eq_true h14
      refine lv_iload_n hx hb dX12_piece_96 rfl (lv_at hl 1 rfl) ?_
      obtain ⟨r15, S16, hr15, hf⟩ := bd2_elim hf
      refine s_callVi [.ref q13, .int x1] [] hM hml hl.1 hW h1 rfl (by decide) (c_X3_worthOf l G fu _ (a + 9) _ _ h1 h14 hr15) (cwV 2 hM.2.2.2.1 (gV mk_RX12_146 im_X3_worthOf se_X3_worthOf it_RX3 cd_X3_worthOf) rfl rfl rfl (by decide +kernel) ⟨Nat.le_of_ble_eq_true rfl, Nat.le_of_ble_eq_true rfl⟩) rfl rfl (Nat.le_of_ble_eq_true rfl) ⟨Nat.zero_le _, Nat.zero_le _⟩ dX12_piece_97 (fun H locs hW hk => ?_)
      have ha := keep1 hk ha
      have h1 := keep1 hk h1
      have h14 := keep1 hk h14
      have hK0 := keep_tr hK0 hk
      cases hf
      exact W.iret hx hb hr (b_ret0 hW hK0 _) hW.2.2.2 dX12_piece_100 hlk
    have hf := if_f c12 hf
    refine lv_tableOut (tgt := 101) hx hb dX12_piece_14 (sw_out (fun j h1 h2 hj => ?_)) (by decide) ?_
    · have hcases : j = 0 ∨ j = 1 ∨ j = 2 ∨ j = 3 ∨ j = 4 := by omega
      rcases hcases with rfl | rfl | rfl | rfl | rfl
      · exact c4 (Int32.toInt_inj.mp (hj.trans (by decide)))
      · exact c6 (Int32.toInt_inj.mp (hj.trans (by decide)))
      · exact c8 (Int32.toInt_inj.mp (hj.trans (by decide)))
      · exact c10 (Int32.toInt_inj.mp (hj.trans (by decide)))
      · exact c12 (Int32.toInt_inj.mp (hj.trans (by decide)))
    · refine lv_iconst (v := (-1 : Int32)) hx hb dX12_piece_101 (by decide) ?_
      cases hf
      exact W.iret hx hb hr (b_ret0 hW hK0 _) hW.2.2.2 dX12_piece_102 hlk
  · have hf := if_t c3 hf
    refine lv_iconst (v := (-1 : Int32)) hx hb dX12_piece_11 (by decide) ?_
    cases hf
    exact W.iret hx hb hr (b_ret0 hW hK0 _) hW.2.2.2 dX12_piece_12 hlk
noncomputable def f_X12_piece (fu : Nat) (S : ST) (a : Nat) (x1 : Int32) (x2 : Int32) : Option (Int32 × ST) := f_X12_piece_0 fu S a x1 x2
set_option maxHeartbeats 4000000 in
set_option maxRecDepth 100000 in
theorem c_X12_piece (l : Launch) (G : GG) (fu : Nat) (S : ST) (a : Nat) (x1 : Int32) (x2 : Int32) {z : Int32} {w : ST} (ha : gC (S a) = 11) (hf : f_X12_piece fu S a x1 x2 = some (z, w)) : Ct l yX12_piece w_X12_piece RM_X12_piece G S [.ref a, .int x1, .int x2] (some (.int z)) w 0 0 := by
  refine Met.ofW (cc := cX12_piece) (maxL := 3) (ret := (some .int)) (by decide) rfl ?_
  intro p e s m args below meth c s₁ B hml hv
  obtain ⟨rfl, hB, hK, hz⟩ := hv
  have hM : MC G p s m _ c cX12_piece w_X12_piece RX12 := ⟨B.exec, B.bytes, findClass_of_methodNamed B.named, atoms_spec (ws := w_X12_piece) B.pre, hK, hz⟩
  have hW : WB G S s s.heap [] := ⟨hB, va_S.rf⟩
  have hl := lv_entry ([.ref a, .int x1, .int x2]) (n := 3) (Nat.le_of_ble_eq_true rfl)
  rw [lg_entry_eq]
  generalize (lg_sl ([.ref a, .int x1, .int x2]) ++ List.replicate (3 - (lg_sl ([.ref a, .int x1, .int x2])).length) Slot.unset).toArray = ls at hl ⊢
  have hl : lv_has ls 3 [(0, .ref a), (1, .int x1), (2, .int x2)] := hl
  exact t_X12_piece_0 (fu := fu) hM hml B.returns B.notSynchronized hf ha (fun _ _ => rfl) _ _ hW _ (lv_sub hl [0, 1, 2] rfl)
abbrev RM_X12_distance : Room := { frames := 2, cells := 0, slots := 0, locals := 42 }
abbrev w_X12_distance : List Cond := Cond.code yX12_distance cX12_distance 3 (some .int) :: wsL_law0
noncomputable def f_X12_distance_34 (fu : Nat)  (S : ST) (a : Nat) : Option (Int32) :=
  some ((-1 : Int32))
set_option maxHeartbeats 4000000 in
set_option maxRecDepth 100000 in
theorem t_X12_distance_34 {G : GG} {p : Program} {l : Launch} {e : Env} {s : State} {m : MethodId} {args : Array Value} {below : List Frame} {meth : Method} {c : Code} {S : ST} {fu : Nat} {z : Int32} {a : Nat}  (hM : MC G p s m args c cX12_distance w_X12_distance RX12) (hml : c.maxLocals = 3) (hr : meth.sig.returnType = (some .int)) (hlk : meth.locks = false) (ha : gC (S a) = 11)  (hf : f_X12_distance_34 fu  S a  = some z) : ∀ (H : Heap) (locs : List Loc), WB G S s H locs → ∀ (ls : Array Slot), lv_has ls 3 [] → W p l e RM_X12_distance s m args below meth c H locs 0 0 (QR G below args s (some (.int z)) S S) (F0 m 34 ls []) := by
  intro  H locs hW ls hl
  have hx := hM.1
  have hb := hM.2.1
  refine lv_iconst (v := (-1 : Int32)) hx hb dX12_distance_34 (by decide) ?_
  cases hf
  exact W.iret hx hb hr (b_ret0 hW (fun _ _ => rfl) _) hW.2.2.2 dX12_distance_35 hlk
noncomputable def f_X12_distance_0 (fu : Nat)  (S : ST) (a : Nat) (x1 : Int32) (x2 : Int32) : Option (Int32) :=
  ck (decide (gC (S (a + 9)) = 3)) <|
  bd (f_X3_isThere fu (S (a + 9)) x1) fun r2 =>
  if r2 = 0 then
    (f_X12_distance_34 fu S a)
  else
    (bd (f_X3_isThere fu (S (a + 9)) x2) fun r4 =>
    if r4 = 0 then
      (f_X12_distance_34 fu S a)
    else
      (bd (f_X3_apart fu (S (a + 9)) x1 x2) fun r6 =>
      some (r6)))
set_option maxHeartbeats 4000000 in
set_option maxRecDepth 100000 in
theorem t_X12_distance_0 {G : GG} {p : Program} {l : Launch} {e : Env} {s : State} {m : MethodId} {args : Array Value} {below : List Frame} {meth : Method} {c : Code} {S : ST} {fu : Nat} {z : Int32} {a : Nat}  {x1 : Int32} {x2 : Int32} (hM : MC G p s m args c cX12_distance w_X12_distance RX12) (hml : c.maxLocals = 3) (hr : meth.sig.returnType = (some .int)) (hlk : meth.locks = false) (ha : gC (S a) = 11)  (hf : f_X12_distance_0 fu  S a x1 x2 = some z) : ∀ (H : Heap) (locs : List Loc), WB G S s H locs → ∀ (ls : Array Slot), lv_has ls 3 [(0, .ref a), (1, .int x1), (2, .int x2)] → W p l e RM_X12_distance s m args below meth c H locs 0 0 (QR G below args s (some (.int z)) S S) (F0 m 0 ls []) := by
  intro  H locs hW ls hl
  have hx := hM.1
  have hb := hM.2.1
  refine lv_aload_n hx hb dX12_distance_0 rfl (lv_at hl 0 rfl) ?_
  refine b_get hM (hW.at_ a) 10 2 ha rfl rfl (by decide) wi_X12 (wgm fk_RX12_28) (x := .ref (a + 9)) rfl dX12_distance_1 ?_
  obtain ⟨h1, hf⟩ := ck_elim hf
  have h1 := of_decide_eq_true h1
  refine lv_iload_n hx hb dX12_distance_4 rfl (lv_at hl 1 rfl) ?_
  obtain ⟨r2, hr2, hf⟩ := bd_elim hf
  refine s_callVi [.int x1] [] hM hml hl.1 hW h1 rfl (by decide) (Ct_rd (c_X3_isThere l G fu _ (a + 9) (S (a + 9)) _ h1 hr2)) (cwV 1 hM.2.2.2.1 (gV mk_RX12_130 im_X3_isThere se_X3_isThere it_RX3 cd_X3_isThere) rfl rfl rfl (by decide +kernel) ⟨Nat.le_of_ble_eq_true rfl, Nat.le_of_ble_eq_true rfl⟩) rfl rfl (Nat.le_of_ble_eq_true rfl) ⟨Nat.zero_le _, Nat.zero_le _⟩ dX12_distance_5 (fun H locs hW hk => ?_)
  refine lv_if_eq (tgt := 34) hx hb dX12_distance_8 (by decide) (fun c3 => ?_) (fun c3 => ?_)
  · have hf := if_t c3 hf
    exact t_X12_distance_34 (fu := fu) hM hml hr hlk ha hf _ _ hW _ (lv_sub hl [] rfl)
  · have hf := if_f c3 hf
    refine lv_aload_n hx hb dX12_distance_11 rfl (lv_at hl 0 rfl) ?_
    refine b_get hM (hW.at_ a) 10 2 ha rfl rfl (by decide) wi_X12 (wgm fk_RX12_28) (x := .ref (a + 9)) rfl dX12_distance_12 ?_
    refine lv_iload_n hx hb dX12_distance_15 rfl (lv_at hl 2 rfl) ?_
    obtain ⟨r4, hr4, hf⟩ := bd_elim hf
    refine s_callVi [.int x2] [] hM hml hl.1 hW h1 rfl (by decide) (Ct_rd (c_X3_isThere l G fu _ (a + 9) (S (a + 9)) _ h1 hr4)) (cwV 1 hM.2.2.2.1 (gV mk_RX12_130 im_X3_isThere se_X3_isThere it_RX3 cd_X3_isThere) rfl rfl rfl (by decide +kernel) ⟨Nat.le_of_ble_eq_true rfl, Nat.le_of_ble_eq_true rfl⟩) rfl rfl (Nat.le_of_ble_eq_true rfl) ⟨Nat.zero_le _, Nat.zero_le _⟩ dX12_distance_16 (fun H locs hW hk => ?_)
    refine lv_if_eq (tgt := 34) hx hb dX12_distance_19 (by decide) (fun c5 => ?_) (fun c5 => ?_)
    · have hf := if_t c5 hf
      exact t_X12_distance_34 (fu := fu) hM hml hr hlk ha hf _ _ hW _ (lv_sub hl [] rfl)
    · have hf := if_f c5 hf
      refine lv_aload_n hx hb dX12_distance_22 rfl (lv_at hl 0 rfl) ?_
      refine b_get hM (hW.at_ a) 10 2 ha rfl rfl (by decide) wi_X12 (wgm fk_RX12_28) (x := .ref (a + 9)) rfl dX12_distance_23 ?_
      refine lv_iload_n hx hb dX12_distance_26 rfl (lv_at hl 1 rfl) ?_
      refine lv_iload_n hx hb dX12_distance_27 rfl (lv_at hl 2 rfl) ?_
      obtain ⟨r6, hr6, hf⟩ := bd_elim hf
      refine s_callVi [.int x1, .int x2] [] hM hml hl.1 hW h1 rfl (by decide) (Ct_rd (c_X3_apart l G fu _ (a + 9) (S (a + 9)) _ _ h1 hr6)) (cwV 2 hM.2.2.2.1 (gV mk_RX12_150 im_X3_apart se_X3_apart it_RX3 cd_X3_apart) rfl rfl rfl (by decide +kernel) ⟨Nat.le_of_ble_eq_true rfl, Nat.le_of_ble_eq_true rfl⟩) rfl rfl (Nat.le_of_ble_eq_true rfl) ⟨Nat.zero_le _, Nat.zero_le _⟩ dX12_distance_28 (fun H locs hW hk => ?_)
      refine lv_goto (tgt := 35) hx hb dX12_distance_31 (by decide) ?_
      cases hf
      exact W.iret hx hb hr (b_ret0 hW (fun _ _ => rfl) _) hW.2.2.2 dX12_distance_35 hlk
noncomputable def f_X12_distance (fu : Nat) (S : ST) (a : Nat) (x1 : Int32) (x2 : Int32) : Option (Int32) := f_X12_distance_0 fu S a x1 x2
set_option maxHeartbeats 4000000 in
set_option maxRecDepth 100000 in
theorem c_X12_distance (l : Launch) (G : GG) (fu : Nat) (S : ST) (a : Nat) (x1 : Int32) (x2 : Int32) {z : Int32} (ha : gC (S a) = 11) (hf : f_X12_distance fu S a x1 x2 = some z) : Ct l yX12_distance w_X12_distance RM_X12_distance G S [.ref a, .int x1, .int x2] (some (.int z)) S 0 0 := by
  refine Met.ofW (cc := cX12_distance) (maxL := 3) (ret := (some .int)) (by decide) rfl ?_
  intro p e s m args below meth c s₁ B hml hv
  obtain ⟨rfl, hB, hK, hz⟩ := hv
  have hM : MC G p s m _ c cX12_distance w_X12_distance RX12 := ⟨B.exec, B.bytes, findClass_of_methodNamed B.named, atoms_spec (ws := w_X12_distance) B.pre, hK, hz⟩
  have hW : WB G S s s.heap [] := ⟨hB, va_S.rf⟩
  have hl := lv_entry ([.ref a, .int x1, .int x2]) (n := 3) (Nat.le_of_ble_eq_true rfl)
  rw [lg_entry_eq]
  generalize (lg_sl ([.ref a, .int x1, .int x2]) ++ List.replicate (3 - (lg_sl ([.ref a, .int x1, .int x2])).length) Slot.unset).toArray = ls at hl ⊢
  have hl : lv_has ls 3 [(0, .ref a), (1, .int x1), (2, .int x2)] := hl
  exact t_X12_distance_0 (fu := fu) hM hml B.returns B.notSynchronized ha hf _ _ hW _ (lv_sub hl [0, 1, 2] rfl)
