abbrev RM_X6_readRest : Room := { frames := 3, cells := 0, slots := 0, locals := 69 }
abbrev w_X6_readRest : List Cond := Cond.code yX6_readRest cX6_readRest 4 none :: wsL_law0
noncomputable def f_X6_readRest_57 (fu : Nat)  (S : ST) (a : Nat) (g1 : Nat) (g2 : Nat) (x3 : Int32) : Option (ST) :=
  if x3 = (1 : Int32) then
    (bd2 (f_X1_spotAt fu S g2 g1) fun r2 S3 =>
    ck (inb (gI (S a) 4) 30) <|
    nm (st S3 a (sA (S3 a) 3 (gI (S a) 4).toNatClampNeg r2)) fun S5 =>
    bd (f_X8_step fu (S5 g1)) fun v7 =>
    nm (st S5 g1 v7) fun Sv7 =>
    some Sv7)
  else
    (some S)
set_option maxHeartbeats 4000000 in
set_option maxRecDepth 100000 in
theorem t_X6_readRest_57 {G : GG} {p : Program} {l : Launch} {e : Env} {s : State} {m : MethodId} {args : Array Value} {below : List Frame} {meth : Method} {c : Code} {S0 : ST} {fu : Nat} {z : ST} {a : Nat} {g1 : Nat} {g2 : Nat}  {S : ST} {x3 : Int32} (hM : MC G p s m args c cX6_readRest w_X6_readRest RX6) (hml : c.maxLocals = 4) (hr : meth.sig.returnType = none) (hlk : meth.locks = false)   (hf : f_X6_readRest_57 fu  S a g1 g2 x3 = some z) : (gC (S a) = 6) → (gC (S g1) = 8) → (gC (S g2) = 1) → (∀ b, gC (S0 b) ≠ 0 → gC (S b) = gC (S0 b)) → ∀ (H : Heap) (locs : List Loc), WB G S s H locs → ∀ (ls : Array Slot), lv_has ls 4 [(0, .ref a), (1, .ref g1), (2, .ref g2), (3, .int x3)] → W p l e RM_X6_readRest s m args below meth c H locs 0 0 (QR G below args s none S0 z) (F0 m 57 ls []) := by
  intro ha hg1 hg2 hK0 H locs hW ls hl
  have hx := hM.1
  have hb := hM.2.1
  refine lv_iload_n hx hb dX6_readRest_57 rfl (lv_at hl 3 rfl) ?_
  refine lv_iconst (v := (1 : Int32)) hx hb dX6_readRest_58 (by decide) ?_
  refine lv_icmp_ne (tgt := 80) hx hb dX6_readRest_59 (by decide) (fun c1 => ?_) (fun c1 => ?_)
  · have hf := if_f c1 hf
    cases hf
    exact W.vret hx hb hr (b_ret0 hW hK0 _) hW.2.2.2 dX6_readRest_80 hlk
  · have hf := if_t c1 hf
    refine lv_aload_n hx hb dX6_readRest_62 rfl (lv_at hl 0 rfl) ?_
    refine b_get hM (hW.at_ a) 5 3 ha rfl rfl (by decide) wi_X6 (wgm fk_RX6_21) (x := .ref (a + 4)) rfl dX6_readRest_63 ?_
    refine lv_aload_n hx hb dX6_readRest_66 rfl (lv_at hl 0 rfl) ?_
    refine b_get hM (hW.at_ a) 5 4 ha rfl rfl (by decide) wi_X6 (wgm fk_RX6_24) (x := .int (gI (S a) 4)) rfl dX6_readRest_67 ?_
    refine lv_aload_n hx hb dX6_readRest_70 rfl (lv_at hl 2 rfl) ?_
    refine lv_aload_n hx hb dX6_readRest_71 rfl (lv_at hl 1 rfl) ?_
    obtain ⟨r2, S3, hr2, hf⟩ := bd2_elim hf
    refine s_callVi [.ref g1] [.int (gI (S a) 4), .ref (a + 4)] hM hml hl.1 hW hg2 rfl (by decide) (c_X1_spotAt l G fu _ g2 _ hg2 hg1 hr2) (cwV 1 hM.2.2.2.1 (gV mk_RX6_88 im_X1_spotAt se_X1_spotAt it_RX1 cd_X1_spotAt) rfl rfl rfl (by decide +kernel) ⟨Nat.le_of_ble_eq_true rfl, Nat.le_of_ble_eq_true rfl⟩) rfl rfl (Nat.le_of_ble_eq_true rfl) ⟨Nat.zero_le _, Nat.zero_le _⟩ dX6_readRest_72 (fun H locs hW hk => ?_)
    have ha := keep1 hk ha
    have hg1 := keep1 hk hg1
    have hg2 := keep1 hk hg2
    have hK0 := keep_tr hK0 hk
    obtain ⟨h4, hf⟩ := ck_elim hf
    refine s_iast (n := 30) hM hW 5 3 ha (by decide) rfl rfl rfl rfl h4 dX6_readRest_75 (fun S5 eS5 hk H locs hW => ?_)
    have hf := nm_at eS5 hf
    have ha := keep1 hk ha
    have hg1 := keep1 hk hg1
    have hg2 := keep1 hk hg2
    have hK0 := keep_tr hK0 hk
    refine lv_aload_n hx hb dX6_readRest_76 rfl (lv_at hl 1 rfl) ?_
    obtain ⟨v7, hr6, hf⟩ := bd_elim hf
    refine s_callNv [] [] hM hml hl.1 hW hg1 rfl (by decide) (Ct_self (c_X8_step l G fu _ g1 (S5 g1) hg1 hr6)) (cwV 0 hM.2.2.2.1 (gV mk_RX6_57 im_X8_step se_X8_step it_RX8 cd_X8_step) rfl rfl rfl (by decide +kernel) ⟨Nat.le_of_ble_eq_true rfl, Nat.le_of_ble_eq_true rfl⟩) rfl rfl (Nat.le_of_ble_eq_true rfl) ⟨Nat.zero_le _, Nat.zero_le _⟩ dX6_readRest_77 (fun Sv7 ev7 hk H locs hW => ?_)
    have hf := nm_at ev7 hf
    have ha := keep1 hk ha
    have hg1 := keep1 hk hg1
    have hg2 := keep1 hk hg2
    have hK0 := keep_tr hK0 hk
    cases hf
    exact W.vret hx hb hr (b_ret0 hW hK0 _) hW.2.2.2 dX6_readRest_80 hlk
noncomputable def f_X6_readRest_0 (fu : Nat)  (S : ST) (a : Nat) (g1 : Nat) (g2 : Nat) (x3 : Int32) : Option (ST) :=
  if x3 = (3 : Int32) then
    (bd2 (f_X8_takeNumberBelow fu (S g1) (24 : Int32)) fun r11 v12 =>
    nm (st S g1 v12) fun Sv12 =>
    ck (inb (gI (S a) 4) 30) <|
    nm (st Sv12 a (sA (Sv12 a) 2 (gI (S a) 4).toNatClampNeg r11)) fun S14 =>
    f_X6_readRest_57 fu S14 a g1 g2 x3)
  else
    (if x3 = (4 : Int32) then
      (f_X6_readRest_57 fu S a g1 g2 x3)
    else
      (bd2 (f_X1_takeThief fu S g2 g1) fun r3 S4 =>
      ck (inb (gI (S a) 4) 30) <|
      nm (st S4 a (sA (S4 a) 1 (gI (S a) 4).toNatClampNeg r3)) fun S6 =>
      bd2 (f_X8_takeNumberBelow fu (S6 g1) (8 : Int32)) fun r7 v8 =>
      nm (st S6 g1 v8) fun Sv8 =>
      ck (inb (gI (S6 a) 4) 30) <|
      nm (st Sv8 a (sA (Sv8 a) 2 (gI (S6 a) 4).toNatClampNeg r7)) fun S10 =>
      f_X6_readRest_57 fu S10 a g1 g2 x3))
set_option maxHeartbeats 4000000 in
set_option maxRecDepth 100000 in
theorem t_X6_readRest_0 {G : GG} {p : Program} {l : Launch} {e : Env} {s : State} {m : MethodId} {args : Array Value} {below : List Frame} {meth : Method} {c : Code} {S0 : ST} {fu : Nat} {z : ST} {a : Nat} {g1 : Nat} {g2 : Nat}  {S : ST} {x3 : Int32} (hM : MC G p s m args c cX6_readRest w_X6_readRest RX6) (hml : c.maxLocals = 4) (hr : meth.sig.returnType = none) (hlk : meth.locks = false)   (hf : f_X6_readRest_0 fu  S a g1 g2 x3 = some z) : (gC (S a) = 6) → (gC (S g1) = 8) → (gC (S g2) = 1) → (∀ b, gC (S0 b) ≠ 0 → gC (S b) = gC (S0 b)) → ∀ (H : Heap) (locs : List Loc), WB G S s H locs → ∀ (ls : Array Slot), lv_has ls 4 [(0, .ref a), (1, .ref g1), (2, .ref g2), (3, .int x3)] → W p l e RM_X6_readRest s m args below meth c H locs 0 0 (QR G below args s none S0 z) (F0 m 0 ls []) := by
  intro ha hg1 hg2 hK0 H locs hW ls hl
  have hx := hM.1
  have hb := hM.2.1
  refine lv_iload_n hx hb dX6_readRest_0 rfl (lv_at hl 3 rfl) ?_
  refine lv_iconst (v := (3 : Int32)) hx hb dX6_readRest_1 (by decide) ?_
  refine lv_icmp_ne (tgt := 23) hx hb dX6_readRest_2 (by decide) (fun c1 => ?_) (fun c1 => ?_)
  · have hf := if_f c1 hf
    refine lv_iload_n hx hb dX6_readRest_23 rfl (lv_at hl 3 rfl) ?_
    refine lv_iconst (v := (4 : Int32)) hx hb dX6_readRest_24 (by decide) ?_
    refine lv_icmp_eq (tgt := 57) hx hb dX6_readRest_25 (by decide) (fun c2 => ?_) (fun c2 => ?_)
    · have hf := if_t c2 hf
      exact t_X6_readRest_57 (fu := fu) hM hml hr hlk hf ha hg1 hg2 hK0 _ _ hW _ (lv_sub hl [0, 1, 2, 3] rfl)
    · have hf := if_f c2 hf
      refine lv_aload_n hx hb dX6_readRest_28 rfl (lv_at hl 0 rfl) ?_
      refine b_get hM (hW.at_ a) 5 1 ha rfl rfl (by decide) wi_X6 (wgm fk_RX6_15) (x := .ref (a + 2)) rfl dX6_readRest_29 ?_
      refine lv_aload_n hx hb dX6_readRest_32 rfl (lv_at hl 0 rfl) ?_
      refine b_get hM (hW.at_ a) 5 4 ha rfl rfl (by decide) wi_X6 (wgm fk_RX6_24) (x := .int (gI (S a) 4)) rfl dX6_readRest_33 ?_
      refine lv_aload_n hx hb dX6_readRest_36 rfl (lv_at hl 2 rfl) ?_
      refine lv_aload_n hx hb dX6_readRest_37 rfl (lv_at hl 1 rfl) ?_
      obtain ⟨r3, S4, hr3, hf⟩ := bd2_elim hf
      refine s_callVi [.ref g1] [.int (gI (S a) 4), .ref (a + 2)] hM hml hl.1 hW hg2 rfl (by decide) (c_X1_takeThief l G fu _ g2 _ hg2 hg1 hr3) (cwV 1 hM.2.2.2.1 (gV mk_RX6_82 im_X1_takeThief se_X1_takeThief it_RX1 cd_X1_takeThief) rfl rfl rfl (by decide +kernel) ⟨Nat.le_of_ble_eq_true rfl, Nat.le_of_ble_eq_true rfl⟩) rfl rfl (Nat.le_of_ble_eq_true rfl) ⟨Nat.zero_le _, Nat.zero_le _⟩ dX6_readRest_38 (fun H locs hW hk => ?_)
      have ha := keep1 hk ha
      have hg1 := keep1 hk hg1
      have hg2 := keep1 hk hg2
      have hK0 := keep_tr hK0 hk
      obtain ⟨h5, hf⟩ := ck_elim hf
      refine s_iast (n := 30) hM hW 5 1 ha (by decide) rfl rfl rfl rfl h5 dX6_readRest_41 (fun S6 eS6 hk H locs hW => ?_)
      have hf := nm_at eS6 hf
      have ha := keep1 hk ha
      have hg1 := keep1 hk hg1
      have hg2 := keep1 hk hg2
      have hK0 := keep_tr hK0 hk
      refine lv_aload_n hx hb dX6_readRest_42 rfl (lv_at hl 0 rfl) ?_
      refine b_get hM (hW.at_ a) 5 2 ha rfl rfl (by decide) wi_X6 (wgm fk_RX6_18) (x := .ref (a + 3)) rfl dX6_readRest_43 ?_
      refine lv_aload_n hx hb dX6_readRest_46 rfl (lv_at hl 0 rfl) ?_
      refine b_get hM (hW.at_ a) 5 4 ha rfl rfl (by decide) wi_X6 (wgm fk_RX6_24) (x := .int (gI (S6 a) 4)) rfl dX6_readRest_47 ?_
      refine lv_aload_n hx hb dX6_readRest_50 rfl (lv_at hl 1 rfl) ?_
      refine lv_bipush (v := (8 : Int32)) hx hb dX6_readRest_51 (by decide) ?_
      obtain ⟨r7, v8, hr7, hf⟩ := bd2_elim hf
      refine s_callNi [.int (8 : Int32)] [.int (gI (S6 a) 4), .ref (a + 3)] hM hml hl.1 hW hg1 rfl (by decide) (Ct_self (c_X8_takeNumberBelow l G fu _ g1 (S6 g1) _ hg1 hr7)) (cwV 1 hM.2.2.2.1 (gV mk_RX6_78 im_X8_takeNumberBelow se_X8_takeNumberBelow it_RX8 cd_X8_takeNumberBelow) rfl rfl rfl (by decide +kernel) ⟨Nat.le_of_ble_eq_true rfl, Nat.le_of_ble_eq_true rfl⟩) rfl rfl (Nat.le_of_ble_eq_true rfl) ⟨Nat.zero_le _, Nat.zero_le _⟩ dX6_readRest_53 (fun Sv8 ev8 hk H locs hW => ?_)
      have hf := nm_at ev8 hf
      have ha := keep1 hk ha
      have hg1 := keep1 hk hg1
      have hg2 := keep1 hk hg2
      have hK0 := keep_tr hK0 hk
      obtain ⟨h9, hf⟩ := ck_elim hf
      refine s_iast (n := 30) hM hW 5 2 ha (by decide) rfl rfl rfl rfl h9 dX6_readRest_56 (fun S10 eS10 hk H locs hW => ?_)
      have hf := nm_at eS10 hf
      have ha := keep1 hk ha
      have hg1 := keep1 hk hg1
      have hg2 := keep1 hk hg2
      have hK0 := keep_tr hK0 hk
      exact t_X6_readRest_57 (fu := fu) hM hml hr hlk hf ha hg1 hg2 hK0 _ _ hW _ (lv_sub hl [0, 1, 2, 3] rfl)
  · have hf := if_t c1 hf
    refine lv_aload_n hx hb dX6_readRest_5 rfl (lv_at hl 0 rfl) ?_
    refine b_get hM (hW.at_ a) 5 2 ha rfl rfl (by decide) wi_X6 (wgm fk_RX6_18) (x := .ref (a + 3)) rfl dX6_readRest_6 ?_
    refine lv_aload_n hx hb dX6_readRest_9 rfl (lv_at hl 0 rfl) ?_
    refine b_get hM (hW.at_ a) 5 4 ha rfl rfl (by decide) wi_X6 (wgm fk_RX6_24) (x := .int (gI (S a) 4)) rfl dX6_readRest_10 ?_
    refine lv_aload_n hx hb dX6_readRest_13 rfl (lv_at hl 1 rfl) ?_
    refine lv_bipush (v := (24 : Int32)) hx hb dX6_readRest_14 (by decide) ?_
    obtain ⟨r11, v12, hr11, hf⟩ := bd2_elim hf
    refine s_callNi [.int (24 : Int32)] [.int (gI (S a) 4), .ref (a + 3)] hM hml hl.1 hW hg1 rfl (by decide) (Ct_self (c_X8_takeNumberBelow l G fu _ g1 (S g1) _ hg1 hr11)) (cwV 1 hM.2.2.2.1 (gV mk_RX6_78 im_X8_takeNumberBelow se_X8_takeNumberBelow it_RX8 cd_X8_takeNumberBelow) rfl rfl rfl (by decide +kernel) ⟨Nat.le_of_ble_eq_true rfl, Nat.le_of_ble_eq_true rfl⟩) rfl rfl (Nat.le_of_ble_eq_true rfl) ⟨Nat.zero_le _, Nat.zero_le _⟩ dX6_readRest_16 (fun Sv12 ev12 hk H locs hW => ?_)
    have hf := nm_at ev12 hf
    have ha := keep1 hk ha
    have hg1 := keep1 hk hg1
    have hg2 := keep1 hk hg2
    have hK0 := keep_tr hK0 hk
    obtain ⟨h13, hf⟩ := ck_elim hf
    refine s_iast (n := 30) hM hW 5 2 ha (by decide) rfl rfl rfl rfl h13 dX6_readRest_19 (fun S14 eS14 hk H locs hW => ?_)
    have hf := nm_at eS14 hf
    have ha := keep1 hk ha
    have hg1 := keep1 hk hg1
    have hg2 := keep1 hk hg2
    have hK0 := keep_tr hK0 hk
    refine lv_goto (tgt := 57) hx hb dX6_readRest_20 (by decide) ?_
    exact t_X6_readRest_57 (fu := fu) hM hml hr hlk hf ha hg1 hg2 hK0 _ _ hW _ (lv_sub hl [0, 1, 2, 3] rfl)
noncomputable def f_X6_readRest (fu : Nat) (S : ST) (a : Nat) (g1 : Nat) (g2 : Nat) (x3 : Int32) : Option (ST) := f_X6_readRest_0 fu S a g1 g2 x3
set_option maxHeartbeats 4000000 in
set_option maxRecDepth 100000 in
theorem c_X6_readRest (l : Launch) (G : GG) (fu : Nat) (S : ST) (a : Nat) (g1 : Nat) (g2 : Nat) (x3 : Int32) {z : ST} (ha : gC (S a) = 6) (hg1 : gC (S g1) = 8) (hg2 : gC (S g2) = 1) (hf : f_X6_readRest fu S a g1 g2 x3 = some z) : Ct l yX6_readRest w_X6_readRest RM_X6_readRest G S [.ref a, .ref g1, .ref g2, .int x3] none z 0 0 := by
  refine Met.ofW (cc := cX6_readRest) (maxL := 4) (ret := none) (by decide) rfl ?_
  intro p e s m args below meth c s₁ B hml hv
  obtain ⟨rfl, hB, hK, hz⟩ := hv
  have hM : MC G p s m _ c cX6_readRest w_X6_readRest RX6 := ⟨B.exec, B.bytes, findClass_of_methodNamed B.named, atoms_spec (ws := w_X6_readRest) B.pre, hK, hz⟩
  have hW : WB G S s s.heap [] := ⟨hB, va_S.rf⟩
  have hl := lv_entry ([.ref a, .ref g1, .ref g2, .int x3]) (n := 4) (Nat.le_of_ble_eq_true rfl)
  rw [lg_entry_eq]
  generalize (lg_sl ([.ref a, .ref g1, .ref g2, .int x3]) ++ List.replicate (4 - (lg_sl ([.ref a, .ref g1, .ref g2, .int x3])).length) Slot.unset).toArray = ls at hl ⊢
  have hl : lv_has ls 4 [(0, .ref a), (1, .ref g1), (2, .ref g2), (3, .int x3)] := hl
  exact t_X6_readRest_0 (fu := fu) hM hml B.returns B.notSynchronized hf ha hg1 hg2 (fun _ _ => rfl) _ _ hW _ (lv_sub hl [0, 1, 2, 3] rfl)
abbrev RM_X6_readLine : Room := { frames := 4, cells := 0, slots := 0, locals := 92 }
abbrev w_X6_readLine : List Cond := Cond.code yX6_readLine cX6_readLine 4 none :: wsL_law0
noncomputable def f_X6_readLine_0 (fu : Nat)  (S : ST) (a : Nat) (g1 : Nat) (g2 : Nat) : Option (ST) :=
  bd (f_X8_word fu (S g1)) fun r1 =>
  ck (decide (r1 < 30)) <|
  bd (f_X6_verbOf fu r1) fun r3 =>
  if r3 = (-1 : Int32) then
    (bd (f_X8_fail fu (S g1) (1 : Int32)) fun v18 =>
    nm (st S g1 v18) fun Sv18 =>
    some Sv18)
  else
    (if (gI (S a) 4) < (30 : Int32) then
      (bd (f_X8_step fu (S g1)) fun v7 =>
      nm (st S g1 v7) fun Sv7 =>
      ck (inb (gI (Sv7 a) 4) 30) <|
      nm (st Sv7 a (sA (Sv7 a) 0 (gI (Sv7 a) 4).toNatClampNeg r3)) fun S9 =>
      bd (f_X6_readRest fu S9 a g1 g2 r3) fun S11 =>
      bd (f_X8_need fu (S11 g1) (59 : Int32)) fun v13 =>
      nm (st S11 g1 v13) fun Sv13 =>
      nm (st Sv13 a (sI (Sv13 a) 4 ((gI (Sv13 a) 4) + (1 : Int32)))) fun S14 =>
      some S14)
    else
      (bd (f_X8_fail fu (S g1) (5 : Int32)) fun v16 =>
      nm (st S g1 v16) fun Sv16 =>
      some Sv16))
set_option maxHeartbeats 4000000 in
set_option maxRecDepth 100000 in
theorem t_X6_readLine_0 {G : GG} {p : Program} {l : Launch} {e : Env} {s : State} {m : MethodId} {args : Array Value} {below : List Frame} {meth : Method} {c : Code} {S0 : ST} {fu : Nat} {z : ST} {a : Nat} {g1 : Nat} {g2 : Nat}  {S : ST} (hM : MC G p s m args c cX6_readLine w_X6_readLine RX6) (hml : c.maxLocals = 4) (hr : meth.sig.returnType = none) (hlk : meth.locks = false)   (hf : f_X6_readLine_0 fu  S a g1 g2  = some z) : (gC (S a) = 6) → (gC (S g1) = 8) → (gC (S g2) = 1) → (∀ b, gC (S0 b) ≠ 0 → gC (S b) = gC (S0 b)) → ∀ (H : Heap) (locs : List Loc), WB G S s H locs → ∀ (ls : Array Slot), lv_has ls 4 [(0, .ref a), (1, .ref g1), (2, .ref g2)] → W p l e RM_X6_readLine s m args below meth c H locs 0 0 (QR G below args s none S0 z) (F0 m 0 ls []) := by
  intro ha hg1 hg2 hK0 H locs hW ls hl
  have hx := hM.1
  have hb := hM.2.1
  refine lv_aload_n hx hb dX6_readLine_0 rfl (lv_at hl 1 rfl) ?_
  obtain ⟨r1, hr1, hf⟩ := bd_elim hf
  refine s_callVr [] [] hM hml hl.1 hW hg1 rfl (by decide) (Ct_rd (c_X8_word l G fu _ g1 (S g1) hg1 hr1)) (cwV 0 hM.2.2.2.1 (gV mk_RX6_45 im_X8_word se_X8_word it_RX8 cd_X8_word) rfl rfl rfl (by decide +kernel) ⟨Nat.le_of_ble_eq_true rfl, Nat.le_of_ble_eq_true rfl⟩) rfl rfl (Nat.le_of_ble_eq_true rfl) ⟨Nat.zero_le _, Nat.zero_le _⟩ dX6_readLine_1 (fun H locs hW hk => ?_)
  obtain ⟨h2, hf⟩ := ck_elim hf
  have h2 := of_decide_eq_true h2
  obtain ⟨r3, hr3, hf⟩ := bd_elim hf
  refine s_callSi [.ref (kAd G r1)] [] hM hml hl.1 hW (c_X6_verbOf l G fu _ _ h2 hr3) (va_cwS 1 hM.2.2.2.1 (gS mk_RX6_49 sm_X6_verbOf it_RX6 cd_X6_verbOf) rfl rfl rfl (by decide +kernel) ⟨Nat.le_of_ble_eq_true rfl, Nat.le_of_ble_eq_true rfl⟩) rfl rfl (Nat.le_of_ble_eq_true rfl) ⟨Nat.zero_le _, Nat.zero_le _⟩ dX6_readLine_4 (fun H locs hW hk => ?_)
  refine lv_istore_n (lv' := [(3, .int r3), (0, .ref a), (1, .ref g1), (2, .ref g2)]) hx hb dX6_readLine_7 rfl hl (by decide) rfl (fun ls hl => ?_)
  refine lv_iload_n hx hb dX6_readLine_8 rfl (lv_at hl 0 rfl) ?_
  refine lv_iconst (v := (-1 : Int32)) hx hb dX6_readLine_9 (by decide) ?_
  refine lv_icmp_ne (tgt := 21) hx hb dX6_readLine_10 (by decide) (fun c4 => ?_) (fun c4 => ?_)
  · have hf := if_f c4 hf
    refine lv_aload_n hx hb dX6_readLine_21 rfl (lv_at hl 1 rfl) ?_
    refine b_get hM (hW.at_ a) 5 4 ha rfl rfl (by decide) wi_X6 (wgm fk_RX6_24) (x := .int (gI (S a) 4)) rfl dX6_readLine_22 ?_
    refine lv_bipush (v := (30 : Int32)) hx hb dX6_readLine_25 (by decide) ?_
    refine lv_icmp_lt (tgt := 38) hx hb dX6_readLine_27 (by decide) (fun c5 => ?_) (fun c5 => ?_)
    · have hf := if_t c5 hf
      refine lv_aload_n hx hb dX6_readLine_38 rfl (lv_at hl 2 rfl) ?_
      obtain ⟨v7, hr6, hf⟩ := bd_elim hf
      refine s_callNv [] [] hM hml hl.1 hW hg1 rfl (by decide) (Ct_self (c_X8_step l G fu _ g1 (S g1) hg1 hr6)) (cwV 0 hM.2.2.2.1 (gV mk_RX6_57 im_X8_step se_X8_step it_RX8 cd_X8_step) rfl rfl rfl (by decide +kernel) ⟨Nat.le_of_ble_eq_true rfl, Nat.le_of_ble_eq_true rfl⟩) rfl rfl (Nat.le_of_ble_eq_true rfl) ⟨Nat.zero_le _, Nat.zero_le _⟩ dX6_readLine_39 (fun Sv7 ev7 hk H locs hW => ?_)
      have hf := nm_at ev7 hf
      have ha := keep1 hk ha
      have hg1 := keep1 hk hg1
      have hg2 := keep1 hk hg2
      have hK0 := keep_tr hK0 hk
      refine lv_aload_n hx hb dX6_readLine_42 rfl (lv_at hl 1 rfl) ?_
      refine b_get hM (hW.at_ a) 5 0 ha rfl rfl (by decide) wi_X6 (wgm fk_RX6_9) (x := .ref (a + 1)) rfl dX6_readLine_43 ?_
      refine lv_aload_n hx hb dX6_readLine_46 rfl (lv_at hl 1 rfl) ?_
      refine b_get hM (hW.at_ a) 5 4 ha rfl rfl (by decide) wi_X6 (wgm fk_RX6_24) (x := .int (gI (Sv7 a) 4)) rfl dX6_readLine_47 ?_
      refine lv_iload_n hx hb dX6_readLine_50 rfl (lv_at hl 0 rfl) ?_
      obtain ⟨h8, hf⟩ := ck_elim hf
      refine s_iast (n := 30) hM hW 5 0 ha (by decide) rfl rfl rfl rfl h8 dX6_readLine_51 (fun S9 eS9 hk H locs hW => ?_)
      have hf := nm_at eS9 hf
      have ha := keep1 hk ha
      have hg1 := keep1 hk hg1
      have hg2 := keep1 hk hg2
      have hK0 := keep_tr hK0 hk
      refine lv_aload_n hx hb dX6_readLine_52 rfl (lv_at hl 1 rfl) ?_
      refine lv_aload_n hx hb dX6_readLine_53 rfl (lv_at hl 2 rfl) ?_
      refine lv_aload_n hx hb dX6_readLine_54 rfl (lv_at hl 3 rfl) ?_
      refine lv_iload_n hx hb dX6_readLine_55 rfl (lv_at hl 0 rfl) ?_
      obtain ⟨S11, hr10, hf⟩ := bd_elim hf
      refine s_callVv [.ref g1, .ref g2, .int r3] [] hM hml hl.1 hW ha rfl (by decide) (c_X6_readRest l G fu _ a _ _ _ ha hg1 hg2 hr10) (cwV 3 hM.2.2.2.1 (gV mk_RX6_60 im_X6_readRest se_X6_readRest it_RX6 cd_X6_readRest) rfl rfl rfl (by decide +kernel) ⟨Nat.le_of_ble_eq_true rfl, Nat.le_of_ble_eq_true rfl⟩) rfl rfl (Nat.le_of_ble_eq_true rfl) ⟨Nat.zero_le _, Nat.zero_le _⟩ dX6_readLine_56 (fun H locs hW hk => ?_)
      have ha := keep1 hk ha
      have hg1 := keep1 hk hg1
      have hg2 := keep1 hk hg2
      have hK0 := keep_tr hK0 hk
      refine lv_aload_n hx hb dX6_readLine_59 rfl (lv_at hl 2 rfl) ?_
      refine lv_bipush (v := (59 : Int32)) hx hb dX6_readLine_60 (by decide) ?_
      obtain ⟨v13, hr12, hf⟩ := bd_elim hf
      refine s_callNv [.int (59 : Int32)] [] hM hml hl.1 hW hg1 rfl (by decide) (Ct_self (c_X8_need l G fu _ g1 (S11 g1) _ hg1 hr12)) (cwV 1 hM.2.2.2.1 (gV mk_RX6_64 im_X8_need se_X8_need it_RX8 cd_X8_need) rfl rfl rfl (by decide +kernel) ⟨Nat.le_of_ble_eq_true rfl, Nat.le_of_ble_eq_true rfl⟩) rfl rfl (Nat.le_of_ble_eq_true rfl) ⟨Nat.zero_le _, Nat.zero_le _⟩ dX6_readLine_62 (fun Sv13 ev13 hk H locs hW => ?_)
      have hf := nm_at ev13 hf
      have ha := keep1 hk ha
      have hg1 := keep1 hk hg1
      have hg2 := keep1 hk hg2
      have hK0 := keep_tr hK0 hk
      refine lv_aload_n hx hb dX6_readLine_65 rfl (lv_at hl 1 rfl) ?_
      refine lv_dup hx hb dX6_readLine_66 rfl ?_
      refine b_get hM (hW.at_ a) 5 4 ha rfl rfl (by decide) wi_X6 (wgm fk_RX6_24) (x := .int (gI (Sv13 a) 4)) rfl dX6_readLine_67 ?_
      refine lv_iconst (v := (1 : Int32)) hx hb dX6_readLine_70 (by decide) ?_
      refine lv_iadd hx hb dX6_readLine_71 ?_
      refine s_putI hM hW 5 4 ha rfl rfl (by decide) wi_X6 tyX6 tyX6_ok nmX6 (wgm fk_RX6_24) rfl rfl rfl dX6_readLine_72 (fun S14 eS14 hk H locs hW => ?_)
      have hf := nm_at eS14 hf
      have ha := keep1 hk ha
      have hg1 := keep1 hk hg1
      have hg2 := keep1 hk hg2
      have hK0 := keep_tr hK0 hk
      cases hf
      exact W.vret hx hb hr (b_ret0 hW hK0 _) hW.2.2.2 dX6_readLine_75 hlk
    · have hf := if_f c5 hf
      refine lv_aload_n hx hb dX6_readLine_30 rfl (lv_at hl 2 rfl) ?_
      refine lv_iconst (v := (5 : Int32)) hx hb dX6_readLine_31 (by decide) ?_
      obtain ⟨v16, hr15, hf⟩ := bd_elim hf
      refine s_callNv [.int (5 : Int32)] [] hM hml hl.1 hW hg1 rfl (by decide) (Ct_self (c_X8_fail l G fu _ g1 (S g1) _ hg1 hr15)) (cwV 1 hM.2.2.2.1 (gV mk_RX6_53 im_X8_fail se_X8_fail it_RX8 cd_X8_fail) rfl rfl rfl (by decide +kernel) ⟨Nat.le_of_ble_eq_true rfl, Nat.le_of_ble_eq_true rfl⟩) rfl rfl (Nat.le_of_ble_eq_true rfl) ⟨Nat.zero_le _, Nat.zero_le _⟩ dX6_readLine_32 (fun Sv16 ev16 hk H locs hW => ?_)
      have hf := nm_at ev16 hf
      have ha := keep1 hk ha
      have hg1 := keep1 hk hg1
      have hg2 := keep1 hk hg2
      have hK0 := keep_tr hK0 hk
      refine lv_goto (tgt := 75) hx hb dX6_readLine_35 (by decide) ?_
      cases hf
      exact W.vret hx hb hr (b_ret0 hW hK0 _) hW.2.2.2 dX6_readLine_75 hlk
  · have hf := if_t c4 hf
    refine lv_aload_n hx hb dX6_readLine_13 rfl (lv_at hl 2 rfl) ?_
    refine lv_iconst (v := (1 : Int32)) hx hb dX6_readLine_14 (by decide) ?_
    obtain ⟨v18, hr17, hf⟩ := bd_elim hf
    refine s_callNv [.int (1 : Int32)] [] hM hml hl.1 hW hg1 rfl (by decide) (Ct_self (c_X8_fail l G fu _ g1 (S g1) _ hg1 hr17)) (cwV 1 hM.2.2.2.1 (gV mk_RX6_53 im_X8_fail se_X8_fail it_RX8 cd_X8_fail) rfl rfl rfl (by decide +kernel) ⟨Nat.le_of_ble_eq_true rfl, Nat.le_of_ble_eq_true rfl⟩) rfl rfl (Nat.le_of_ble_eq_true rfl) ⟨Nat.zero_le _, Nat.zero_le _⟩ dX6_readLine_15 (fun Sv18 ev18 hk H locs hW => ?_)
    have hf := nm_at ev18 hf
    have ha := keep1 hk ha
    have hg1 := keep1 hk hg1
    have hg2 := keep1 hk hg2
    have hK0 := keep_tr hK0 hk
    refine lv_goto (tgt := 75) hx hb dX6_readLine_18 (by decide) ?_
    cases hf
    exact W.vret hx hb hr (b_ret0 hW hK0 _) hW.2.2.2 dX6_readLine_75 hlk
noncomputable def f_X6_readLine (fu : Nat) (S : ST) (a : Nat) (g1 : Nat) (g2 : Nat) : Option (ST) := f_X6_readLine_0 fu S a g1 g2
set_option maxHeartbeats 4000000 in
set_option maxRecDepth 100000 in
theorem c_X6_readLine (l : Launch) (G : GG) (fu : Nat) (S : ST) (a : Nat) (g1 : Nat) (g2 : Nat) {z : ST} (ha : gC (S a) = 6) (hg1 : gC (S g1) = 8) (hg2 : gC (S g2) = 1) (hf : f_X6_readLine fu S a g1 g2 = some z) : Ct l yX6_readLine w_X6_readLine RM_X6_readLine G S [.ref a, .ref g1, .ref g2] none z 0 0 := by
  refine Met.ofW (cc := cX6_readLine) (maxL := 4) (ret := none) (by decide) rfl ?_
  intro p e s m args below meth c s₁ B hml hv
  obtain ⟨rfl, hB, hK, hz⟩ := hv
  have hM : MC G p s m _ c cX6_readLine w_X6_readLine RX6 := ⟨B.exec, B.bytes, findClass_of_methodNamed B.named, atoms_spec (ws := w_X6_readLine) B.pre, hK, hz⟩
  have hW : WB G S s s.heap [] := ⟨hB, va_S.rf⟩
  have hl := lv_entry ([.ref a, .ref g1, .ref g2]) (n := 4) (Nat.le_of_ble_eq_true rfl)
  rw [lg_entry_eq]
  generalize (lg_sl ([.ref a, .ref g1, .ref g2]) ++ List.replicate (4 - (lg_sl ([.ref a, .ref g1, .ref g2])).length) Slot.unset).toArray = ls at hl ⊢
  have hl : lv_has ls 4 [(0, .ref a), (1, .ref g1), (2, .ref g2)] := hl
  exact t_X6_readLine_0 (fu := fu) hM hml B.returns B.notSynchronized hf ha hg1 hg2 (fun _ _ => rfl) _ _ hW _ (lv_sub hl [0, 1, 2] rfl)
abbrev RM_X8_close : Room := { frames := 0, cells := 0, slots := 0, locals := 0 }
abbrev w_X8_close : List Cond := Cond.code yX8_close cX8_close 1 (some .int) :: wsL_law0
noncomputable def f_X8_close_0 (fu : Nat)  (v : GV) : Option (Int32 × GV) :=
  nm (sI v 6 (0 : Int32)) fun v1 =>
  some ((gI v1 7), v1)
set_option maxHeartbeats 4000000 in
set_option maxRecDepth 100000 in
theorem t_X8_close_0 {G : GG} {p : Program} {l : Launch} {e : Env} {s : State} {m : MethodId} {args : Array Value} {below : List Frame} {meth : Method} {c : Code} {S : ST} {fu : Nat} {z : Int32 × GV} {a : Nat} {v0 : GV}  {v : GV} (hM : MC G p s m args c cX8_close w_X8_close RX8) (hml : c.maxLocals = 1) (hr : meth.sig.returnType = (some .int)) (hlk : meth.locks = false) (hc0 : gC v0 = 8)  (hf : f_X8_close_0 fu  v   = some z) : (gC v = 8) → ∀ (H : Heap) (locs : List Loc), WB G (st S a v) s H locs → ∀ (ls : Array Slot), lv_has ls 1 [(0, .ref a)] → W p l e RM_X8_close s m args below meth c H locs 0 0 (QR G below args s (some (.int z.1)) (st S a v0) (st S a z.2)) (F0 m 0 ls []) := by
  intro hc H locs hW ls hl
  have hx := hM.1
  have hb := hM.2.1
  refine lv_aload_n hx hb dX8_close_0 rfl (lv_at hl 0 rfl) ?_
  refine lv_iconst (v := (0 : Int32)) hx hb dX8_close_1 (by decide) ?_
  refine b_putI hM hW 7 6 hc rfl rfl (by decide) wi_X8 tyX8 tyX8_ok nmX8 (wgm fk_RX8_33) rfl rfl rfl dX8_close_2 (fun v1 ev1 hc H locs hW => ?_)
  have hf := nm_at ev1 hf
  refine lv_aload_n hx hb dX8_close_5 rfl (lv_at hl 0 rfl) ?_
  refine b_get hM hW 7 7 hc rfl rfl (by decide) wi_X8 (wgm fk_RX8_36) (x := .int (gI v1 7)) rfl dX8_close_6 ?_
  cases hf
  exact W.iret hx hb hr (b_ret0 hW (keep_s2 hc0 hc) _) hW.2.2.2 dX8_close_9 hlk
noncomputable def f_X8_close (fu : Nat) (v : GV) : Option (Int32 × GV) := f_X8_close_0 fu v
set_option maxHeartbeats 4000000 in
set_option maxRecDepth 100000 in
theorem c_X8_close (l : Launch) (G : GG) (fu : Nat) (S : ST) (a : Nat) (v : GV) {z : Int32} {w : GV} (hc : gC v = 8) (hf : f_X8_close fu v = some (z, w)) : Ct l yX8_close w_X8_close RM_X8_close G (st S a v) [.ref a] (some (.int z)) (st S a w) 0 0 := by
  refine Met.ofW (cc := cX8_close) (maxL := 1) (ret := (some .int)) (by decide) rfl ?_
  intro p e s m args below meth c s₁ B hml hv
  obtain ⟨rfl, hB, hK, hz⟩ := hv
  have hM : MC G p s m _ c cX8_close w_X8_close RX8 := ⟨B.exec, B.bytes, findClass_of_methodNamed B.named, atoms_spec (ws := w_X8_close) B.pre, hK, hz⟩
  have hW : WB G (st S a v) s s.heap [] := ⟨hB, va_S.rf⟩
  have hl := lv_entry ([.ref a]) (n := 1) (Nat.le_of_ble_eq_true rfl)
  rw [lg_entry_eq]
  generalize (lg_sl ([.ref a]) ++ List.replicate (1 - (lg_sl ([.ref a])).length) Slot.unset).toArray = ls at hl ⊢
  have hl : lv_has ls 1 [(0, .ref a)] := hl
  exact t_X8_close_0 (fu := fu) hM hml B.returns B.notSynchronized hc hf hc _ _ hW _ (lv_sub hl [0] rfl)
abbrev RM_X6_read : Room := { frames := 6, cells := 0, slots := 0, locals := 135 }
abbrev w_X6_read : List Cond := Cond.code yX6_read cX6_read 4 (some .int) :: wsL_law0
noncomputable def f_X6_read_36 (fu : Nat)  (S : ST) (a : Nat) (g1 : Nat) (g2 : Nat) : Option (Int32 × ST) :=
  bd2 (f_X8_close fu (S g1)) fun r1 v2 =>
  nm (st S g1 v2) fun Sv2 =>
  some (r1, Sv2)
set_option maxHeartbeats 4000000 in
set_option maxRecDepth 100000 in
theorem t_X6_read_36 {G : GG} {p : Program} {l : Launch} {e : Env} {s : State} {m : MethodId} {args : Array Value} {below : List Frame} {meth : Method} {c : Code} {S0 : ST} {fu : Nat} {z : Int32 × ST} {a : Nat} {g1 : Nat} {g2 : Nat}  {S : ST} (hM : MC G p s m args c cX6_read w_X6_read RX6) (hml : c.maxLocals = 4) (hr : meth.sig.returnType = (some .int)) (hlk : meth.locks = false)   (hf : f_X6_read_36 fu  S a g1 g2  = some z) : (gC (S a) = 6) → (gC (S g1) = 8) → (gC (S g2) = 1) → (∀ b, gC (S0 b) ≠ 0 → gC (S b) = gC (S0 b)) → ∀ (H : Heap) (locs : List Loc), WB G S s H locs → ∀ (ls : Array Slot), lv_has ls 4 [(1, .ref g1)] → W p l e RM_X6_read s m args below meth c H locs 0 0 (QR G below args s (some (.int z.1)) S0 z.2) (F0 m 36 ls []) := by
  intro ha hg1 hg2 hK0 H locs hW ls hl
  have hx := hM.1
  have hb := hM.2.1
  refine lv_aload_n hx hb dX6_read_36 rfl (lv_at hl 0 rfl) ?_
  obtain ⟨r1, v2, hr1, hf⟩ := bd2_elim hf
  refine s_callNi [] [] hM hml hl.1 hW hg1 rfl (by decide) (Ct_self (c_X8_close l G fu _ g1 (S g1) hg1 hr1)) (cwV 0 hM.2.2.2.1 (gV mk_RX6_41 im_X8_close se_X8_close it_RX8 cd_X8_close) rfl rfl rfl (by decide +kernel) ⟨Nat.le_of_ble_eq_true rfl, Nat.le_of_ble_eq_true rfl⟩) rfl rfl (Nat.le_of_ble_eq_true rfl) ⟨Nat.zero_le _, Nat.zero_le _⟩ dX6_read_37 (fun Sv2 ev2 hk H locs hW => ?_)
  have hf := nm_at ev2 hf
  have ha := keep1 hk ha
  have hg1 := keep1 hk hg1
  have hg2 := keep1 hk hg2
  have hK0 := keep_tr hK0 hk
  cases hf
  exact W.iret hx hb hr (b_ret0 hW hK0 _) hW.2.2.2 dX6_read_40 hlk
noncomputable def f_X6_read_11s (fu : Nat)  (k11 : Int32 → ST → Option (Int32 × ST)) (a : Nat) (g1 : Nat) (g2 : Nat) (x3 : Int32) (S : ST) : Option (Int32 × ST) :=
  if (30 : Int32) < x3 then
    (f_X6_read_36 fu S a g1 g2)
  else
    (bd (f_X8_goesOn fu (S g1)) fun r2 =>
    if r2 = 0 then
      (f_X6_read_36 fu S a g1 g2)
    else
      (bd (f_X6_readLine fu S a g1 g2) fun S5 =>
      nm (x3 + (1 : Int32)) fun y6 =>
      k11 y6 S5))
noncomputable def f_X6_read_11 (fu n : Nat)  (a : Nat) (g1 : Nat) (g2 : Nat) : Int32 → ST → Option (Int32 × ST) :=
  lq_2 (fun k11 => f_X6_read_11s fu  k11  a g1 g2) n
set_option maxHeartbeats 4000000 in
set_option maxRecDepth 100000 in
theorem t_X6_read_11s {G : GG} {p : Program} {l : Launch} {e : Env} {s : State} {m : MethodId} {args : Array Value} {below : List Frame} {meth : Method} {c : Code} {S0 : ST} {fu : Nat} {z : Int32 × ST} {a : Nat} {g1 : Nat} {g2 : Nat}  {k11 : Int32 → ST → Option (Int32 × ST)} (hM : MC G p s m args c cX6_read w_X6_read RX6) (hml : c.maxLocals = 4) (hr : meth.sig.returnType = (some .int)) (hlk : meth.locks = false)   (hk11 : ∀ (x3 : Int32) (S : ST), k11 x3 S = some z → (gC (S a) = 6) → (gC (S g1) = 8) → (gC (S g2) = 1) → (∀ b, gC (S0 b) ≠ 0 → gC (S b) = gC (S0 b)) → ∀ (H : Heap) (locs : List Loc), WB G S s H locs → ∀ (ls : Array Slot), lv_has ls 4 [(0, .ref a), (1, .ref g1), (2, .ref g2), (3, .int x3)] → W p l e RM_X6_read s m args below meth c H locs 0 0 (QR G below args s (some (.int z.1)) S0 z.2) (F0 m 11 ls [])) : ∀ (x3 : Int32) (S : ST), f_X6_read_11s fu  k11  a g1 g2 x3 S = some z → (gC (S a) = 6) → (gC (S g1) = 8) → (gC (S g2) = 1) → (∀ b, gC (S0 b) ≠ 0 → gC (S b) = gC (S0 b)) → ∀ (H : Heap) (locs : List Loc), WB G S s H locs → ∀ (ls : Array Slot), lv_has ls 4 [(0, .ref a), (1, .ref g1), (2, .ref g2), (3, .int x3)] → W p l e RM_X6_read s m args below meth c H locs 0 0 (QR G below args s (some (.int z.1)) S0 z.2) (F0 m 11 ls []) := by
  intro x3 S hf ha hg1 hg2 hK0 H locs hW ls hl
  have hx := hM.1
  have hb := hM.2.1
  refine lv_iload_n hx hb dX6_read_11 rfl (lv_at hl 3 rfl) ?_
  refine lv_bipush (v := (30 : Int32)) hx hb dX6_read_12 (by decide) ?_
  refine lv_icmp_gt (tgt := 36) hx hb dX6_read_14 (by decide) (fun c1 => ?_) (fun c1 => ?_)
  · have hf := if_t c1 hf
    exact t_X6_read_36 (fu := fu) hM hml hr hlk hf ha hg1 hg2 hK0 _ _ hW _ (lv_sub hl [1] rfl)
  · have hf := if_f c1 hf
    refine lv_aload_n hx hb dX6_read_17 rfl (lv_at hl 1 rfl) ?_
    obtain ⟨r2, hr2, hf⟩ := bd_elim hf
    refine s_callVi [] [] hM hml hl.1 hW hg1 rfl (by decide) (Ct_rd (c_X8_goesOn l G fu _ g1 (S g1) hg1 hr2)) (cwV 0 hM.2.2.2.1 (gV mk_RX6_33 im_X8_goesOn se_X8_goesOn it_RX8 cd_X8_goesOn) rfl rfl rfl (by decide +kernel) ⟨Nat.le_of_ble_eq_true rfl, Nat.le_of_ble_eq_true rfl⟩) rfl rfl (Nat.le_of_ble_eq_true rfl) ⟨Nat.zero_le _, Nat.zero_le _⟩ dX6_read_18 (fun H locs hW hk => ?_)
    refine lv_if_eq (tgt := 36) hx hb dX6_read_21 (by decide) (fun c3 => ?_) (fun c3 => ?_)
    · have hf := if_t c3 hf
      exact t_X6_read_36 (fu := fu) hM hml hr hlk hf ha hg1 hg2 hK0 _ _ hW _ (lv_sub hl [1] rfl)
    · have hf := if_f c3 hf
      refine lv_aload_n hx hb dX6_read_24 rfl (lv_at hl 0 rfl) ?_
      refine lv_aload_n hx hb dX6_read_25 rfl (lv_at hl 1 rfl) ?_
      refine lv_aload_n hx hb dX6_read_26 rfl (lv_at hl 2 rfl) ?_
      obtain ⟨S5, hr4, hf⟩ := bd_elim hf
      refine s_callVv [.ref g1, .ref g2] [] hM hml hl.1 hW ha rfl (by decide) (c_X6_readLine l G fu _ a _ _ ha hg1 hg2 hr4) (cwV 2 hM.2.2.2.1 (gV mk_RX6_37 im_X6_readLine se_X6_readLine it_RX6 cd_X6_readLine) rfl rfl rfl (by decide +kernel) ⟨Nat.le_of_ble_eq_true rfl, Nat.le_of_ble_eq_true rfl⟩) rfl rfl (Nat.le_of_ble_eq_true rfl) ⟨Nat.zero_le _, Nat.zero_le _⟩ dX6_read_27 (fun H locs hW hk => ?_)
      have ha := keep1 hk ha
      have hg1 := keep1 hk hg1
      have hg2 := keep1 hk hg2
      have hK0 := keep_tr hK0 hk
      obtain ⟨y6, ey6⟩ : ∃ y : Int32, y = x3 + (1 : Int32) := ⟨_, rfl⟩
      have hf := nm_at ey6 hf
      refine lv_iinc (v := y6) (lv' := [(3, .int y6), (0, .ref a), (1, .ref g1), (2, .ref g2)]) hx hb dX6_read_30 hl (k := 3) rfl (by rw [ey6]; rfl) (by decide) rfl (fun ls hl => ?_)
      refine lv_goto (tgt := 11) hx hb dX6_read_33 (by decide) ?_
      exact hk11 _ _ hf ha hg1 hg2 hK0 _ _ hW _ (lv_sub hl [1, 2, 3, 0] rfl)
theorem t_X6_read_11 {G : GG} {p : Program} {l : Launch} {e : Env} {s : State} {m : MethodId} {args : Array Value} {below : List Frame} {meth : Method} {c : Code} {S0 : ST} {fu : Nat} {z : Int32 × ST} {a : Nat} {g1 : Nat} {g2 : Nat}  (hM : MC G p s m args c cX6_read w_X6_read RX6) (hml : c.maxLocals = 4) (hr : meth.sig.returnType = (some .int)) (hlk : meth.locks = false)   : ∀ {n : Nat} (x3 : Int32) (S : ST), f_X6_read_11 fu n   a g1 g2 x3 S = some z → (gC (S a) = 6) → (gC (S g1) = 8) → (gC (S g2) = 1) → (∀ b, gC (S0 b) ≠ 0 → gC (S b) = gC (S0 b)) → ∀ (H : Heap) (locs : List Loc), WB G S s H locs → ∀ (ls : Array Slot), lv_has ls 4 [(0, .ref a), (1, .ref g1), (2, .ref g2), (3, .int x3)] → W p l e RM_X6_read s m args below meth c H locs 0 0 (QR G below args s (some (.int z.1)) S0 z.2) (F0 m 11 ls []) := by
  intro n
  induction n with
  | zero => intro x3 S hf; cases hf
  | succ n ih => intro x3 S hf; exact t_X6_read_11s (fu := fu) hM hml hr hlk (k11 := f_X6_read_11 fu n   a g1 g2) ih _ _ hf
noncomputable def f_X6_read_0 (fu : Nat)  (S : ST) (a : Nat) (g1 : Nat) (g2 : Nat) : Option (Int32 × ST) :=
  nm (st S a (sI (S a) 4 (0 : Int32))) fun S1 =>
  bd (f_X8_open fu (S1 g1)) fun v3 =>
  nm (st S1 g1 v3) fun Sv3 =>
  f_X6_read_11 fu fu a g1 g2 (0 : Int32) Sv3
set_option maxHeartbeats 4000000 in
set_option maxRecDepth 100000 in
theorem t_X6_read_0 {G : GG} {p : Program} {l : Launch} {e : Env} {s : State} {m : MethodId} {args : Array Value} {below : List Frame} {meth : Method} {c : Code} {S0 : ST} {fu : Nat} {z : Int32 × ST} {a : Nat} {g1 : Nat} {g2 : Nat}  {S : ST} (hM : MC G p s m args c cX6_read w_X6_read RX6) (hml : c.maxLocals = 4) (hr : meth.sig.returnType = (some .int)) (hlk : meth.locks = false)   (hf : f_X6_read_0 fu  S a g1 g2  = some z) : (gC (S a) = 6) → (gC (S g1) = 8) → (gC (S g2) = 1) → (∀ b, gC (S0 b) ≠ 0 → gC (S b) = gC (S0 b)) → ∀ (H : Heap) (locs : List Loc), WB G S s H locs → ∀ (ls : Array Slot), lv_has ls 4 [(0, .ref a), (1, .ref g1), (2, .ref g2)] → W p l e RM_X6_read s m args below meth c H locs 0 0 (QR G below args s (some (.int z.1)) S0 z.2) (F0 m 0 ls []) := by
  intro ha hg1 hg2 hK0 H locs hW ls hl
  have hx := hM.1
  have hb := hM.2.1
  refine lv_aload_n hx hb dX6_read_0 rfl (lv_at hl 0 rfl) ?_
  refine lv_iconst (v := (0 : Int32)) hx hb dX6_read_1 (by decide) ?_
  refine s_putI hM hW 5 4 ha rfl rfl (by decide) wi_X6 tyX6 tyX6_ok nmX6 (wgm fk_RX6_24) rfl rfl rfl dX6_read_2 (fun S1 eS1 hk H locs hW => ?_)
  have hf := nm_at eS1 hf
  have ha := keep1 hk ha
  have hg1 := keep1 hk hg1
  have hg2 := keep1 hk hg2
  have hK0 := keep_tr hK0 hk
  refine lv_aload_n hx hb dX6_read_5 rfl (lv_at hl 1 rfl) ?_
  obtain ⟨v3, hr2, hf⟩ := bd_elim hf
  refine s_callNv [] [] hM hml hl.1 hW hg1 rfl (by decide) (Ct_self (c_X8_open l G fu _ g1 (S1 g1) hg1 hr2)) (cwV 0 hM.2.2.2.1 (gV mk_RX6_28 im_X8_open se_X8_open it_RX8 cd_X8_open) rfl rfl rfl (by decide +kernel) ⟨Nat.le_of_ble_eq_true rfl, Nat.le_of_ble_eq_true rfl⟩) rfl rfl (Nat.le_of_ble_eq_true rfl) ⟨Nat.zero_le _, Nat.zero_le _⟩ dX6_read_6 (fun Sv3 ev3 hk H locs hW => ?_)
  have hf := nm_at ev3 hf
  have ha := keep1 hk ha
  have hg1 := keep1 hk hg1
  have hg2 := keep1 hk hg2
  have hK0 := keep_tr hK0 hk
  refine lv_iconst (v := (0 : Int32)) hx hb dX6_read_9 (by decide) ?_
  refine lv_istore_n (lv' := [(3, .int (0 : Int32)), (0, .ref a), (1, .ref g1), (2, .ref g2)]) hx hb dX6_read_10 rfl hl (by decide) rfl (fun ls hl => ?_)
  exact t_X6_read_11 (fu := fu) hM hml hr hlk _ _ hf ha hg1 hg2 hK0 _ _ hW _ (lv_sub hl [1, 2, 3, 0] rfl)
noncomputable def f_X6_read (fu : Nat) (S : ST) (a : Nat) (g1 : Nat) (g2 : Nat) : Option (Int32 × ST) := f_X6_read_0 fu S a g1 g2
set_option maxHeartbeats 4000000 in
set_option maxRecDepth 100000 in
theorem c_X6_read (l : Launch) (G : GG) (fu : Nat) (S : ST) (a : Nat) (g1 : Nat) (g2 : Nat) {z : Int32} {w : ST} (ha : gC (S a) = 6) (hg1 : gC (S g1) = 8) (hg2 : gC (S g2) = 1) (hf : f_X6_read fu S a g1 g2 = some (z, w)) : Ct l yX6_read w_X6_read RM_X6_read G S [.ref a, .ref g1, .ref g2] (some (.int z)) w 0 0 := by
  refine Met.ofW (cc := cX6_read) (maxL := 4) (ret := (some .int)) (by decide) rfl ?_
  intro p e s m args below meth c s₁ B hml hv
  obtain ⟨rfl, hB, hK, hz⟩ := hv
  have hM : MC G p s m _ c cX6_read w_X6_read RX6 := ⟨B.exec, B.bytes, findClass_of_methodNamed B.named, atoms_spec (ws := w_X6_read) B.pre, hK, hz⟩
  have hW : WB G S s s.heap [] := ⟨hB, va_S.rf⟩
  have hl := lv_entry ([.ref a, .ref g1, .ref g2]) (n := 4) (Nat.le_of_ble_eq_true rfl)
  rw [lg_entry_eq]
  generalize (lg_sl ([.ref a, .ref g1, .ref g2]) ++ List.replicate (4 - (lg_sl ([.ref a, .ref g1, .ref g2])).length) Slot.unset).toArray = ls at hl ⊢
  have hl : lv_has ls 4 [(0, .ref a), (1, .ref g1), (2, .ref g2)] := hl
  exact t_X6_read_0 (fu := fu) hM hml B.returns B.notSynchronized hf ha hg1 hg2 (fun _ _ => rfl) _ _ hW _ (lv_sub hl [0, 1, 2] rfl)
abbrev RM_X6_playLine : Room := { frames := 4, cells := 0, slots := 0, locals := 98 }
abbrev w_X6_playLine : List Cond := Cond.code yX6_playLine cX6_playLine 4 (some .boolean) :: wsL_law0
noncomputable def f_X6_playLine_0 (fu : Nat)  (S : ST) (a : Nat) (g2 : Nat) (g3 : Nat) (x1 : Int32) : Option (Int32 × ST) :=
  ck (inb x1 30) <|
  nm ((gA (S a) 0 x1.toNatClampNeg)) fun y2 =>
  if y2 = (0 : Int32) then
    (ck (inb x1 30) <|
    ck (inb x1 30) <|
    bd2 (f_X3_swap fu S g2 g3 (gA (S a) 1 x1.toNatClampNeg) (gA (S a) 2 x1.toNatClampNeg)) fun r6 S7 =>
    if r6 = (-1 : Int32) then
      (some ((0 : Int32), S7))
    else
      (some ((1 : Int32), S7)))
  else
  if y2 = (1 : Int32) then
    (ck (inb x1 30) <|
    ck (inb x1 30) <|
    ck (inb x1 30) <|
    bd2 (f_X3_copyOf fu S g2 g3 (gA (S a) 1 x1.toNatClampNeg) (gA (S a) 2 x1.toNatClampNeg) (gA (S a) 3 x1.toNatClampNeg)) fun r13 S14 =>
    if r13 = (-1 : Int32) then
      (some ((0 : Int32), S14))
    else
      (some ((1 : Int32), S14)))
  else
  if y2 = (2 : Int32) then
    (ck (inb x1 30) <|
    ck (inb x1 30) <|
    bd2 (f_X3_sale fu S g2 g3 (gA (S a) 1 x1.toNatClampNeg) (gA (S a) 2 x1.toNatClampNeg)) fun r19 S20 =>
    if r19 = (-1 : Int32) then
      (some ((0 : Int32), S20))
    else
      (some ((1 : Int32), S20)))
  else
  if y2 = (3 : Int32) then
    (ck (inb x1 30) <|
    bd2 (f_X3_setGuard fu (S g2) (gA (S a) 2 x1.toNatClampNeg)) fun r24 v25 =>
    nm (st S g2 v25) fun Sv25 =>
    ck (isB r24) <|
    some (r24, Sv25))
  else
  (bd (f_X3_passNight fu (S g2)) fun v28 =>
  nm (st S g2 v28) fun Sv28 =>
  some ((1 : Int32), Sv28))
set_option maxHeartbeats 4000000 in
set_option maxRecDepth 100000 in
theorem t_X6_playLine_0 {G : GG} {p : Program} {l : Launch} {e : Env} {s : State} {m : MethodId} {args : Array Value} {below : List Frame} {meth : Method} {c : Code} {S0 : ST} {fu : Nat} {z : Int32 × ST} {a : Nat} {g2 : Nat} {g3 : Nat}  {S : ST} {x1 : Int32} (hM : MC G p s m args c cX6_playLine w_X6_playLine RX6) (hml : c.maxLocals = 4) (hr : meth.sig.returnType = (some .boolean)) (hlk : meth.locks = false)   (hf : f_X6_playLine_0 fu  S a g2 g3 x1 = some z) : (gC (S a) = 6) → (gC (S g2) = 3) → (gC (S g3) = 1) → (∀ b, gC (S0 b) ≠ 0 → gC (S b) = gC (S0 b)) → ∀ (H : Heap) (locs : List Loc), WB G S s H locs → ∀ (ls : Array Slot), lv_has ls 4 [(0, .ref a), (1, .int x1), (2, .ref g2), (3, .ref g3)] → W p l e RM_X6_playLine s m args below meth c H locs 0 0 (QR G below args s (some (.int z.1)) S0 z.2) (F0 m 0 ls []) := by
  intro ha hg2 hg3 hK0 H locs hW ls hl
  have hx := hM.1
  have hb := hM.2.1
  refine lv_aload_n hx hb dX6_playLine_0 rfl (lv_at hl 0 rfl) ?_
  refine b_get hM (hW.at_ a) 5 0 ha rfl rfl (by decide) wi_X6 (wgm fk_RX6_9) (x := .ref (a + 1)) rfl dX6_playLine_1 ?_
  refine lv_iload_n hx hb dX6_playLine_4 rfl (lv_at hl 1 rfl) ?_
  obtain ⟨h1, hf⟩ := ck_elim hf
  refine b_iald (n := 30) hM (hW.at_ a) 5 0 ha (by decide) rfl rfl rfl rfl h1 dX6_playLine_5 ?_
  refine lv_topi (fun y2 ey2 => ?_)
  have hf := nm_at ey2 hf
  by_cases c3 : y2 = (0 : Int32)
  · have hf := if_t c3 hf
    refine lv_tableIn (off := 30) (tgt := 36) hx hb dX6_playLine_6 (by rw [c3]; decide) (by rw [c3]; decide) (by rw [c3]; rfl) (by decide) ?_
    refine lv_aload_n hx hb dX6_playLine_36 rfl (lv_at hl 2 rfl) ?_
    refine lv_aload_n hx hb dX6_playLine_37 rfl (lv_at hl 3 rfl) ?_
    refine lv_aload_n hx hb dX6_playLine_38 rfl (lv_at hl 0 rfl) ?_
    refine b_get hM (hW.at_ a) 5 1 ha rfl rfl (by decide) wi_X6 (wgm fk_RX6_15) (x := .ref (a + 2)) rfl dX6_playLine_39 ?_
    refine lv_iload_n hx hb dX6_playLine_42 rfl (lv_at hl 1 rfl) ?_
    obtain ⟨h4, hf⟩ := ck_elim hf
    refine b_iald (n := 30) hM (hW.at_ a) 5 1 ha (by decide) rfl rfl rfl rfl h4 dX6_playLine_43 ?_
    refine lv_aload_n hx hb dX6_playLine_44 rfl (lv_at hl 0 rfl) ?_
    refine b_get hM (hW.at_ a) 5 2 ha rfl rfl (by decide) wi_X6 (wgm fk_RX6_18) (x := .ref (a + 3)) rfl dX6_playLine_45 ?_
    refine lv_iload_n hx hb dX6_playLine_48 rfl (lv_at hl 1 rfl) ?_
    obtain ⟨h5, hf⟩ := ck_elim hf
    refine b_iald (n := 30) hM (hW.at_ a) 5 2 ha (by decide) rfl rfl rfl rfl h5 dX6_playLine_49 ?_
    obtain ⟨r6, S7, hr6, hf⟩ := bd2_elim hf
    refine s_callVi [.ref g3, .int (gA (S a) 1 x1.toNatClampNeg), .int (gA (S a) 2 x1.toNatClampNeg)] [] hM hml hl.1 hW hg2 rfl (by decide) (c_X3_swap l G fu _ g2 _ _ _ hg2 hg3 hr6) (cwV 3 hM.2.2.2.1 (gV mk_RX6_95 im_X3_swap se_X3_swap it_RX3 cd_X3_swap) rfl rfl rfl (by decide +kernel) ⟨Nat.le_of_ble_eq_true rfl, Nat.le_of_ble_eq_true rfl⟩) rfl rfl (Nat.le_of_ble_eq_true rfl) ⟨Nat.zero_le _, Nat.zero_le _⟩ dX6_playLine_50 (fun H locs hW hk => ?_)
    have ha := keep1 hk ha
    have hg2 := keep1 hk hg2
    have hg3 := keep1 hk hg3
    have hK0 := keep_tr hK0 hk
    refine lv_iconst (v := (-1 : Int32)) hx hb dX6_playLine_53 (by decide) ?_
    refine lv_icmp_eq (tgt := 61) hx hb dX6_playLine_54 (by decide) (fun c8 => ?_) (fun c8 => ?_)
    · have hf := if_t c8 hf
      refine lv_iconst (v := (0 : Int32)) hx hb dX6_playLine_61 (by decide) ?_
      cases hf
      exact W.zret (v := (0 : Int32)) hx hb hr (by decide) (b_ret0 hW hK0 _) hW.2.2.2 dX6_playLine_62 hlk
    · have hf := if_f c8 hf
      refine lv_iconst (v := (1 : Int32)) hx hb dX6_playLine_57 (by decide) ?_
      refine lv_goto (tgt := 62) hx hb dX6_playLine_58 (by decide) ?_
      cases hf
      exact W.zret (v := (1 : Int32)) hx hb hr (by decide) (b_ret0 hW hK0 _) hW.2.2.2 dX6_playLine_62 hlk
  have hf := if_f c3 hf
  by_cases c9 : y2 = (1 : Int32)
  · have hf := if_t c9 hf
    refine lv_tableIn (off := 57) (tgt := 63) hx hb dX6_playLine_6 (by rw [c9]; decide) (by rw [c9]; decide) (by rw [c9]; rfl) (by decide) ?_
    refine lv_aload_n hx hb dX6_playLine_63 rfl (lv_at hl 2 rfl) ?_
    refine lv_aload_n hx hb dX6_playLine_64 rfl (lv_at hl 3 rfl) ?_
    refine lv_aload_n hx hb dX6_playLine_65 rfl (lv_at hl 0 rfl) ?_
    refine b_get hM (hW.at_ a) 5 1 ha rfl rfl (by decide) wi_X6 (wgm fk_RX6_15) (x := .ref (a + 2)) rfl dX6_playLine_66 ?_
    refine lv_iload_n hx hb dX6_playLine_69 rfl (lv_at hl 1 rfl) ?_
    obtain ⟨h10, hf⟩ := ck_elim hf
    refine b_iald (n := 30) hM (hW.at_ a) 5 1 ha (by decide) rfl rfl rfl rfl h10 dX6_playLine_70 ?_
    refine lv_aload_n hx hb dX6_playLine_71 rfl (lv_at hl 0 rfl) ?_
    refine b_get hM (hW.at_ a) 5 2 ha rfl rfl (by decide) wi_X6 (wgm fk_RX6_18) (x := .ref (a + 3)) rfl dX6_playLine_72 ?_
    refine lv_iload_n hx hb dX6_playLine_75 rfl (lv_at hl 1 rfl) ?_
    obtain ⟨h11, hf⟩ := ck_elim hf
    refine b_iald (n := 30) hM (hW.at_ a) 5 2 ha (by decide) rfl rfl rfl rfl h11 dX6_playLine_76 ?_
    refine lv_aload_n hx hb dX6_playLine_77 rfl (lv_at hl 0 rfl) ?_
    refine b_get hM (hW.at_ a) 5 3 ha rfl rfl (by decide) wi_X6 (wgm fk_RX6_21) (x := .ref (a + 4)) rfl dX6_playLine_78 ?_
    refine lv_iload_n hx hb dX6_playLine_81 rfl (lv_at hl 1 rfl) ?_
    obtain ⟨h12, hf⟩ := ck_elim hf
    refine b_iald (n := 30) hM (hW.at_ a) 5 3 ha (by decide) rfl rfl rfl rfl h12 dX6_playLine_82 ?_
    obtain ⟨r13, S14, hr13, hf⟩ := bd2_elim hf
    refine s_callVi [.ref g3, .int (gA (S a) 1 x1.toNatClampNeg), .int (gA (S a) 2 x1.toNatClampNeg), .int (gA (S a) 3 x1.toNatClampNeg)] [] hM hml hl.1 hW hg2 rfl (by decide) (c_X3_copyOf l G fu _ g2 _ _ _ _ hg2 hg3 hr13) (cwV 4 hM.2.2.2.1 (gV mk_RX6_101 im_X3_copyOf se_X3_copyOf it_RX3 cd_X3_copyOf) rfl rfl rfl (by decide +kernel) ⟨Nat.le_of_ble_eq_true rfl, Nat.le_of_ble_eq_true rfl⟩) rfl rfl (Nat.le_of_ble_eq_true rfl) ⟨Nat.zero_le _, Nat.zero_le _⟩ dX6_playLine_83 (fun H locs hW hk => ?_)
    have ha := keep1 hk ha
    have hg2 := keep1 hk hg2
    have hg3 := keep1 hk hg3
    have hK0 := keep_tr hK0 hk
    refine lv_iconst (v := (-1 : Int32)) hx hb dX6_playLine_86 (by decide) ?_
    refine lv_icmp_eq (tgt := 94) hx hb dX6_playLine_87 (by decide) (fun c15 => ?_) (fun c15 => ?_)
    · have hf := if_t c15 hf
      refine lv_iconst (v := (0 : Int32)) hx hb dX6_playLine_94 (by decide) ?_
      cases hf
      exact W.zret (v := (0 : Int32)) hx hb hr (by decide) (b_ret0 hW hK0 _) hW.2.2.2 dX6_playLine_95 hlk
    · have hf := if_f c15 hf
      refine lv_iconst (v := (1 : Int32)) hx hb dX6_playLine_90 (by decide) ?_
      refine lv_goto (tgt := 95) hx hb dX6_playLine_91 (by decide) ?_
      cases hf
      exact W.zret (v := (1 : Int32)) hx hb hr (by decide) (b_ret0 hW hK0 _) hW.2.2.2 dX6_playLine_95 hlk
  have hf := if_f c9 hf
  by_cases c16 : y2 = (2 : Int32)
  · have hf := if_t c16 hf
    refine lv_tableIn (off := 90) (tgt := 96) hx hb dX6_playLine_6 (by rw [c16]; decide) (by rw [c16]; decide) (by rw [c16]; rfl) (by decide) ?_
    refine lv_aload_n hx hb dX6_playLine_96 rfl (lv_at hl 2 rfl) ?_
    refine lv_aload_n hx hb dX6_playLine_97 rfl (lv_at hl 3 rfl) ?_
    refine lv_aload_n hx hb dX6_playLine_98 rfl (lv_at hl 0 rfl) ?_
    refine b_get hM (hW.at_ a) 5 1 ha rfl rfl (by decide) wi_X6 (wgm fk_RX6_15) (x := .ref (a + 2)) rfl dX6_playLine_99 ?_
    refine lv_iload_n hx hb dX6_playLine_102 rfl (lv_at hl 1 rfl) ?_
    obtain ⟨h17, hf⟩ := ck_elim hf
    refine b_iald (n := 30) hM (hW.at_ a) 5 1 ha (by decide) rfl rfl rfl rfl h17 dX6_playLine_103 ?_
    refine lv_aload_n hx hb dX6_playLine_104 rfl (lv_at hl 0 rfl) ?_
    refine b_get hM (hW.at_ a) 5 2 ha rfl rfl (by decide) wi_X6 (wgm fk_RX6_18) (x := .ref (a + 3)) rfl dX6_playLine_105 ?_
    refine lv_iload_n hx hb dX6_playLine_108 rfl (lv_at hl 1 rfl) ?_
    obtain ⟨h18, hf⟩ := ck_elim hf
    refine b_iald (n := 30) hM (hW.at_ a) 5 2 ha (by decide) rfl rfl rfl rfl h18 dX6_playLine_109 ?_
    obtain ⟨r19, S20, hr19, hf⟩ := bd2_elim hf
    refine s_callVi [.ref g3, .int (gA (S a) 1 x1.toNatClampNeg), .int (gA (S a) 2 x1.toNatClampNeg)] [] hM hml hl.1 hW hg2 rfl (by decide) (c_X3_sale l G fu _ g2 _ _ _ hg2 hg3 hr19) (cwV 3 hM.2.2.2.1 (gV mk_RX6_105 im_X3_sale se_X3_sale it_RX3 cd_X3_sale) rfl rfl rfl (by decide +kernel) ⟨Nat.le_of_ble_eq_true rfl, Nat.le_of_ble_eq_true rfl⟩) rfl rfl (Nat.le_of_ble_eq_true rfl) ⟨Nat.zero_le _, Nat.zero_le _⟩ dX6_playLine_110 (fun H locs hW hk => ?_)
    have ha := keep1 hk ha
    have hg2 := keep1 hk hg2
    have hg3 := keep1 hk hg3
    have hK0 := keep_tr hK0 hk
    refine lv_iconst (v := (-1 : Int32)) hx hb dX6_playLine_113 (by decide) ?_
    refine lv_icmp_eq (tgt := 121) hx hb dX6_playLine_114 (by decide) (fun c21 => ?_) (fun c21 => ?_)
    · have hf := if_t c21 hf
      refine lv_iconst (v := (0 : Int32)) hx hb dX6_playLine_121 (by decide) ?_
      cases hf
      exact W.zret (v := (0 : Int32)) hx hb hr (by decide) (b_ret0 hW hK0 _) hW.2.2.2 dX6_playLine_122 hlk
    · have hf := if_f c21 hf
      refine lv_iconst (v := (1 : Int32)) hx hb dX6_playLine_117 (by decide) ?_
      refine lv_goto (tgt := 122) hx hb dX6_playLine_118 (by decide) ?_
      cases hf
      exact W.zret (v := (1 : Int32)) hx hb hr (by decide) (b_ret0 hW hK0 _) hW.2.2.2 dX6_playLine_122 hlk
  have hf := if_f c16 hf
  by_cases c22 : y2 = (3 : Int32)
  · have hf := if_t c22 hf
    refine lv_tableIn (off := 117) (tgt := 123) hx hb dX6_playLine_6 (by rw [c22]; decide) (by rw [c22]; decide) (by rw [c22]; rfl) (by decide) ?_
    refine lv_aload_n hx hb dX6_playLine_123 rfl (lv_at hl 2 rfl) ?_
    refine lv_aload_n hx hb dX6_playLine_124 rfl (lv_at hl 0 rfl) ?_
    refine b_get hM (hW.at_ a) 5 2 ha rfl rfl (by decide) wi_X6 (wgm fk_RX6_18) (x := .ref (a + 3)) rfl dX6_playLine_125 ?_
    refine lv_iload_n hx hb dX6_playLine_128 rfl (lv_at hl 1 rfl) ?_
    obtain ⟨h23, hf⟩ := ck_elim hf
    refine b_iald (n := 30) hM (hW.at_ a) 5 2 ha (by decide) rfl rfl rfl rfl h23 dX6_playLine_129 ?_
    obtain ⟨r24, v25, hr24, hf⟩ := bd2_elim hf
    refine s_callNi [.int (gA (S a) 2 x1.toNatClampNeg)] [] hM hml hl.1 hW hg2 rfl (by decide) (Ct_self (c_X3_setGuard l G fu _ g2 (S g2) _ hg2 hr24)) (cwV 1 hM.2.2.2.1 (gV mk_RX6_108 im_X3_setGuard se_X3_setGuard it_RX3 cd_X3_setGuard) rfl rfl rfl (by decide +kernel) ⟨Nat.le_of_ble_eq_true rfl, Nat.le_of_ble_eq_true rfl⟩) rfl rfl (Nat.le_of_ble_eq_true rfl) ⟨Nat.zero_le _, Nat.zero_le _⟩ dX6_playLine_130 (fun Sv25 ev25 hk H locs hW => ?_)
    have hf := nm_at ev25 hf
    have ha := keep1 hk ha
    have hg2 := keep1 hk hg2
    have hg3 := keep1 hk hg3
    have hK0 := keep_tr hK0 hk
    obtain ⟨h26, hf⟩ := ck_elim hf
    cases hf
    exact W.zret (v := _) hx hb hr (isB_nar h26) (b_ret0 hW hK0 _) hW.2.2.2 dX6_playLine_133 hlk
  have hf := if_f c22 hf
  refine lv_tableOut (tgt := 134) hx hb dX6_playLine_6 (sw_out (fun j h1 h2 hj => ?_)) (by decide) ?_
  · have hcases : j = 0 ∨ j = 1 ∨ j = 2 ∨ j = 3 := by omega
    rcases hcases with rfl | rfl | rfl | rfl
    · exact c3 (Int32.toInt_inj.mp (hj.trans (by decide)))
    · exact c9 (Int32.toInt_inj.mp (hj.trans (by decide)))
    · exact c16 (Int32.toInt_inj.mp (hj.trans (by decide)))
    · exact c22 (Int32.toInt_inj.mp (hj.trans (by decide)))
  · refine lv_aload_n hx hb dX6_playLine_134 rfl (lv_at hl 2 rfl) ?_
    obtain ⟨v28, hr27, hf⟩ := bd_elim hf
    refine s_callNv [] [] hM hml hl.1 hW hg2 rfl (by decide) (Ct_self (c_X3_passNight l G fu _ g2 (S g2) hg2 hr27)) (cwV 0 hM.2.2.2.1 (gV mk_RX6_112 im_X3_passNight se_X3_passNight it_RX3 cd_X3_passNight) rfl rfl rfl (by decide +kernel) ⟨Nat.le_of_ble_eq_true rfl, Nat.le_of_ble_eq_true rfl⟩) rfl rfl (Nat.le_of_ble_eq_true rfl) ⟨Nat.zero_le _, Nat.zero_le _⟩ dX6_playLine_135 (fun Sv28 ev28 hk H locs hW => ?_)
    have hf := nm_at ev28 hf
    have ha := keep1 hk ha
    have hg2 := keep1 hk hg2
    have hg3 := keep1 hk hg3
    have hK0 := keep_tr hK0 hk
    refine lv_iconst (v := (1 : Int32)) hx hb dX6_playLine_138 (by decide) ?_
    cases hf
    exact W.zret (v := (1 : Int32)) hx hb hr (by decide) (b_ret0 hW hK0 _) hW.2.2.2 dX6_playLine_139 hlk
noncomputable def f_X6_playLine (fu : Nat) (S : ST) (a : Nat) (x1 : Int32) (g2 : Nat) (g3 : Nat) : Option (Int32 × ST) := f_X6_playLine_0 fu S a g2 g3 x1
set_option maxHeartbeats 4000000 in
set_option maxRecDepth 100000 in
theorem c_X6_playLine (l : Launch) (G : GG) (fu : Nat) (S : ST) (a : Nat) (x1 : Int32) (g2 : Nat) (g3 : Nat) {z : Int32} {w : ST} (ha : gC (S a) = 6) (hg2 : gC (S g2) = 3) (hg3 : gC (S g3) = 1) (hf : f_X6_playLine fu S a x1 g2 g3 = some (z, w)) : Ct l yX6_playLine w_X6_playLine RM_X6_playLine G S [.ref a, .int x1, .ref g2, .ref g3] (some (.int z)) w 0 0 := by
  refine Met.ofW (cc := cX6_playLine) (maxL := 4) (ret := (some .boolean)) (by decide) rfl ?_
  intro p e s m args below meth c s₁ B hml hv
  obtain ⟨rfl, hB, hK, hz⟩ := hv
  have hM : MC G p s m _ c cX6_playLine w_X6_playLine RX6 := ⟨B.exec, B.bytes, findClass_of_methodNamed B.named, atoms_spec (ws := w_X6_playLine) B.pre, hK, hz⟩
  have hW : WB G S s s.heap [] := ⟨hB, va_S.rf⟩
  have hl := lv_entry ([.ref a, .int x1, .ref g2, .ref g3]) (n := 4) (Nat.le_of_ble_eq_true rfl)
  rw [lg_entry_eq]
  generalize (lg_sl ([.ref a, .int x1, .ref g2, .ref g3]) ++ List.replicate (4 - (lg_sl ([.ref a, .int x1, .ref g2, .ref g3])).length) Slot.unset).toArray = ls at hl ⊢
  have hl : lv_has ls 4 [(0, .ref a), (1, .int x1), (2, .ref g2), (3, .ref g3)] := hl
  exact t_X6_playLine_0 (fu := fu) hM hml B.returns B.notSynchronized hf ha hg2 hg3 (fun _ _ => rfl) _ _ hW _ (lv_sub hl [0, 1, 2, 3] rfl)
abbrev RM_X6_play : Room := { frames := 5, cells := 0, slots := 0, locals := 121 }
abbrev w_X6_play : List Cond := Cond.code yX6_play cX6_play 5 (some .int) :: wsL_law0
noncomputable def f_X6_play_46 (fu : Nat)  (S : ST) (a : Nat) (g1 : Nat) (g2 : Nat) (x3 : Int32) : Option (Int32 × ST) :=
  some (x3, S)
set_option maxHeartbeats 4000000 in
set_option maxRecDepth 100000 in
theorem t_X6_play_46 {G : GG} {p : Program} {l : Launch} {e : Env} {s : State} {m : MethodId} {args : Array Value} {below : List Frame} {meth : Method} {c : Code} {S0 : ST} {fu : Nat} {z : Int32 × ST} {a : Nat} {g1 : Nat} {g2 : Nat}  {S : ST} {x3 : Int32} (hM : MC G p s m args c cX6_play w_X6_play RX6) (hml : c.maxLocals = 5) (hr : meth.sig.returnType = (some .int)) (hlk : meth.locks = false)   (hf : f_X6_play_46 fu  S a g1 g2 x3 = some z) : (gC (S a) = 6) → (gC (S g1) = 3) → (gC (S g2) = 1) → (∀ b, gC (S0 b) ≠ 0 → gC (S b) = gC (S0 b)) → ∀ (H : Heap) (locs : List Loc), WB G S s H locs → ∀ (ls : Array Slot), lv_has ls 5 [(3, .int x3)] → W p l e RM_X6_play s m args below meth c H locs 0 0 (QR G below args s (some (.int z.1)) S0 z.2) (F0 m 46 ls []) := by
  intro ha hg1 hg2 hK0 H locs hW ls hl
  have hx := hM.1
  have hb := hM.2.1
  refine lv_iload_n hx hb dX6_play_46 rfl (lv_at hl 0 rfl) ?_
  cases hf
  exact W.iret hx hb hr (b_ret0 hW hK0 _) hW.2.2.2 dX6_play_47 hlk
noncomputable def f_X6_play_40 (fu : Nat) (k5 : Int32 → Int32 → ST → Option (Int32 × ST)) (S : ST) (a : Nat) (g1 : Nat) (g2 : Nat) (x3 : Int32) (x4 : Int32) : Option (Int32 × ST) :=
  nm (x4 + (1 : Int32)) fun y1 =>
  k5 x3 y1 S
set_option maxHeartbeats 4000000 in
set_option maxRecDepth 100000 in
theorem t_X6_play_40 {G : GG} {p : Program} {l : Launch} {e : Env} {s : State} {m : MethodId} {args : Array Value} {below : List Frame} {meth : Method} {c : Code} {S0 : ST} {fu : Nat} {z : Int32 × ST} {a : Nat} {g1 : Nat} {g2 : Nat} {k5 : Int32 → Int32 → ST → Option (Int32 × ST)} {S : ST} {x3 : Int32} {x4 : Int32} (hM : MC G p s m args c cX6_play w_X6_play RX6) (hml : c.maxLocals = 5) (hr : meth.sig.returnType = (some .int)) (hlk : meth.locks = false)  (hk5 : ∀ (x3 : Int32) (x4 : Int32) (S : ST), k5 x3 x4 S = some z → (gC (S a) = 6) → (gC (S g1) = 3) → (gC (S g2) = 1) → (∀ b, gC (S0 b) ≠ 0 → gC (S b) = gC (S0 b)) → ∀ (H : Heap) (locs : List Loc), WB G S s H locs → ∀ (ls : Array Slot), lv_has ls 5 [(0, .ref a), (1, .ref g1), (2, .ref g2), (3, .int x3), (4, .int x4)] → W p l e RM_X6_play s m args below meth c H locs 0 0 (QR G below args s (some (.int z.1)) S0 z.2) (F0 m 5 ls [])) (hf : f_X6_play_40 fu k5 S a g1 g2 x3 x4 = some z) : (gC (S a) = 6) → (gC (S g1) = 3) → (gC (S g2) = 1) → (∀ b, gC (S0 b) ≠ 0 → gC (S b) = gC (S0 b)) → ∀ (H : Heap) (locs : List Loc), WB G S s H locs → ∀ (ls : Array Slot), lv_has ls 5 [(0, .ref a), (1, .ref g1), (2, .ref g2), (3, .int x3), (4, .int x4)] → W p l e RM_X6_play s m args below meth c H locs 0 0 (QR G below args s (some (.int z.1)) S0 z.2) (F0 m 40 ls []) := by
  intro ha hg1 hg2 hK0 H locs hW ls hl
  have hx := hM.1
  have hb := hM.2.1
  obtain ⟨y1, ey1⟩ : ∃ y : Int32, y = x4 + (1 : Int32) := ⟨_, rfl⟩
  have hf := nm_at ey1 hf
  refine lv_iinc (v := y1) (lv' := [(4, .int y1), (0, .ref a), (1, .ref g1), (2, .ref g2), (3, .int x3)]) hx hb dX6_play_40 hl (k := 4) rfl (by rw [ey1]; rfl) (by decide) rfl (fun ls hl => ?_)
  refine lv_goto (tgt := 5) hx hb dX6_play_43 (by decide) ?_
  exact hk5 _ _ _ hf ha hg1 hg2 hK0 _ _ hW _ (lv_sub hl [1, 2, 3, 4, 0] rfl)
noncomputable def f_X6_play_5s (fu : Nat)  (k5 : Int32 → Int32 → ST → Option (Int32 × ST)) (a : Nat) (g1 : Nat) (g2 : Nat) (x3 : Int32) (x4 : Int32) (S : ST) : Option (Int32 × ST) :=
  if (gI (S a) 4) ≤ x4 then
    (f_X6_play_46 fu S a g1 g2 x3)
  else
    (if (30 : Int32) ≤ x4 then
      (f_X6_play_46 fu S a g1 g2 x3)
    else
      (bd2 (f_X6_playLine fu S a x4 g1 g2) fun r3 S4 =>
      if r3 = 0 then
        (if x3 = (-1 : Int32) then
          (f_X6_play_40 fu k5 S4 a g1 g2 x4 x4)
        else
          (f_X6_play_40 fu k5 S4 a g1 g2 x3 x4))
      else
        (f_X6_play_40 fu k5 S4 a g1 g2 x3 x4)))
noncomputable def f_X6_play_5 (fu n : Nat)  (a : Nat) (g1 : Nat) (g2 : Nat) : Int32 → Int32 → ST → Option (Int32 × ST) :=
  lq_3 (fun k5 => f_X6_play_5s fu  k5  a g1 g2) n
set_option maxHeartbeats 4000000 in
set_option maxRecDepth 100000 in
theorem t_X6_play_5s {G : GG} {p : Program} {l : Launch} {e : Env} {s : State} {m : MethodId} {args : Array Value} {below : List Frame} {meth : Method} {c : Code} {S0 : ST} {fu : Nat} {z : Int32 × ST} {a : Nat} {g1 : Nat} {g2 : Nat}  {k5 : Int32 → Int32 → ST → Option (Int32 × ST)} (hM : MC G p s m args c cX6_play w_X6_play RX6) (hml : c.maxLocals = 5) (hr : meth.sig.returnType = (some .int)) (hlk : meth.locks = false)   (hk5 : ∀ (x3 : Int32) (x4 : Int32) (S : ST), k5 x3 x4 S = some z → (gC (S a) = 6) → (gC (S g1) = 3) → (gC (S g2) = 1) → (∀ b, gC (S0 b) ≠ 0 → gC (S b) = gC (S0 b)) → ∀ (H : Heap) (locs : List Loc), WB G S s H locs → ∀ (ls : Array Slot), lv_has ls 5 [(0, .ref a), (1, .ref g1), (2, .ref g2), (3, .int x3), (4, .int x4)] → W p l e RM_X6_play s m args below meth c H locs 0 0 (QR G below args s (some (.int z.1)) S0 z.2) (F0 m 5 ls [])) : ∀ (x3 : Int32) (x4 : Int32) (S : ST), f_X6_play_5s fu  k5  a g1 g2 x3 x4 S = some z → (gC (S a) = 6) → (gC (S g1) = 3) → (gC (S g2) = 1) → (∀ b, gC (S0 b) ≠ 0 → gC (S b) = gC (S0 b)) → ∀ (H : Heap) (locs : List Loc), WB G S s H locs → ∀ (ls : Array Slot), lv_has ls 5 [(0, .ref a), (1, .ref g1), (2, .ref g2), (3, .int x3), (4, .int x4)] → W p l e RM_X6_play s m args below meth c H locs 0 0 (QR G below args s (some (.int z.1)) S0 z.2) (F0 m 5 ls []) := by
  intro x3 x4 S hf ha hg1 hg2 hK0 H locs hW ls hl
  have hx := hM.1
  have hb := hM.2.1
  refine lv_iload hx hb dX6_play_5 (lv_at hl 4 rfl) ?_
  refine lv_aload_n hx hb dX6_play_7 rfl (lv_at hl 0 rfl) ?_
  refine b_get hM (hW.at_ a) 5 4 ha rfl rfl (by decide) wi_X6 (wgm fk_RX6_24) (x := .int (gI (S a) 4)) rfl dX6_play_8 ?_
  refine lv_icmp_ge (tgt := 46) hx hb dX6_play_11 (by decide) (fun c1 => ?_) (fun c1 => ?_)
  · have hf := if_t c1 hf
    exact t_X6_play_46 (fu := fu) hM hml hr hlk hf ha hg1 hg2 hK0 _ _ hW _ (lv_sub hl [3] rfl)
  · have hf := if_f c1 hf
    refine lv_iload hx hb dX6_play_14 (lv_at hl 4 rfl) ?_
    refine lv_bipush (v := (30 : Int32)) hx hb dX6_play_16 (by decide) ?_
    refine lv_icmp_ge (tgt := 46) hx hb dX6_play_18 (by decide) (fun c2 => ?_) (fun c2 => ?_)
    · have hf := if_t c2 hf
      exact t_X6_play_46 (fu := fu) hM hml hr hlk hf ha hg1 hg2 hK0 _ _ hW _ (lv_sub hl [3] rfl)
    · have hf := if_f c2 hf
      refine lv_aload_n hx hb dX6_play_21 rfl (lv_at hl 0 rfl) ?_
      refine lv_iload hx hb dX6_play_22 (lv_at hl 4 rfl) ?_
      refine lv_aload_n hx hb dX6_play_24 rfl (lv_at hl 1 rfl) ?_
      refine lv_aload_n hx hb dX6_play_25 rfl (lv_at hl 2 rfl) ?_
      obtain ⟨r3, S4, hr3, hf⟩ := bd2_elim hf
      refine s_callVi [.int x4, .ref g1, .ref g2] [] hM hml hl.1 hW ha rfl (by decide) (c_X6_playLine l G fu _ a _ _ _ ha hg1 hg2 hr3) (cwV 3 hM.2.2.2.1 (gV mk_RX6_91 im_X6_playLine se_X6_playLine it_RX6 cd_X6_playLine) rfl rfl rfl (by decide +kernel) ⟨Nat.le_of_ble_eq_true rfl, Nat.le_of_ble_eq_true rfl⟩) rfl rfl (Nat.le_of_ble_eq_true rfl) ⟨Nat.zero_le _, Nat.zero_le _⟩ dX6_play_26 (fun H locs hW hk => ?_)
      have ha := keep1 hk ha
      have hg1 := keep1 hk hg1
      have hg2 := keep1 hk hg2
      have hK0 := keep_tr hK0 hk
      refine lv_if_ne (tgt := 40) hx hb dX6_play_29 (by decide) (fun c5 => ?_) (fun c5 => ?_)
      · have hf := if_f c5 hf
        exact t_X6_play_40 (fu := fu) hM hml hr hlk hk5 hf ha hg1 hg2 hK0 _ _ hW _ (lv_sub hl [0, 1, 2, 3, 4] rfl)
      · have hf := if_t c5 hf
        refine lv_iload_n hx hb dX6_play_32 rfl (lv_at hl 3 rfl) ?_
        refine lv_iconst (v := (-1 : Int32)) hx hb dX6_play_33 (by decide) ?_
        refine lv_icmp_ne (tgt := 40) hx hb dX6_play_34 (by decide) (fun c6 => ?_) (fun c6 => ?_)
        · have hf := if_f c6 hf
          exact t_X6_play_40 (fu := fu) hM hml hr hlk hk5 hf ha hg1 hg2 hK0 _ _ hW _ (lv_sub hl [0, 1, 2, 3, 4] rfl)
        · have hf := if_t c6 hf
          refine lv_iload hx hb dX6_play_37 (lv_at hl 4 rfl) ?_
          refine lv_istore_n (lv' := [(3, .int x4), (0, .ref a), (1, .ref g1), (2, .ref g2), (4, .int x4)]) hx hb dX6_play_39 rfl hl (by decide) rfl (fun ls hl => ?_)
          exact t_X6_play_40 (fu := fu) hM hml hr hlk hk5 hf ha hg1 hg2 hK0 _ _ hW _ (lv_sub hl [1, 2, 3, 0, 4] rfl)
theorem t_X6_play_5 {G : GG} {p : Program} {l : Launch} {e : Env} {s : State} {m : MethodId} {args : Array Value} {below : List Frame} {meth : Method} {c : Code} {S0 : ST} {fu : Nat} {z : Int32 × ST} {a : Nat} {g1 : Nat} {g2 : Nat}  (hM : MC G p s m args c cX6_play w_X6_play RX6) (hml : c.maxLocals = 5) (hr : meth.sig.returnType = (some .int)) (hlk : meth.locks = false)   : ∀ {n : Nat} (x3 : Int32) (x4 : Int32) (S : ST), f_X6_play_5 fu n   a g1 g2 x3 x4 S = some z → (gC (S a) = 6) → (gC (S g1) = 3) → (gC (S g2) = 1) → (∀ b, gC (S0 b) ≠ 0 → gC (S b) = gC (S0 b)) → ∀ (H : Heap) (locs : List Loc), WB G S s H locs → ∀ (ls : Array Slot), lv_has ls 5 [(0, .ref a), (1, .ref g1), (2, .ref g2), (3, .int x3), (4, .int x4)] → W p l e RM_X6_play s m args below meth c H locs 0 0 (QR G below args s (some (.int z.1)) S0 z.2) (F0 m 5 ls []) := by
  intro n
  induction n with
  | zero => intro x3 x4 S hf; cases hf
  | succ n ih => intro x3 x4 S hf; exact t_X6_play_5s (fu := fu) hM hml hr hlk (k5 := f_X6_play_5 fu n   a g1 g2) ih _ _ _ hf
noncomputable def f_X6_play_0 (fu : Nat)  (S : ST) (a : Nat) (g1 : Nat) (g2 : Nat) : Option (Int32 × ST) :=
  f_X6_play_5 fu fu a g1 g2 (-1 : Int32) (0 : Int32) S
set_option maxHeartbeats 4000000 in
set_option maxRecDepth 100000 in
theorem t_X6_play_0 {G : GG} {p : Program} {l : Launch} {e : Env} {s : State} {m : MethodId} {args : Array Value} {below : List Frame} {meth : Method} {c : Code} {S0 : ST} {fu : Nat} {z : Int32 × ST} {a : Nat} {g1 : Nat} {g2 : Nat}  {S : ST} (hM : MC G p s m args c cX6_play w_X6_play RX6) (hml : c.maxLocals = 5) (hr : meth.sig.returnType = (some .int)) (hlk : meth.locks = false)   (hf : f_X6_play_0 fu  S a g1 g2  = some z) : (gC (S a) = 6) → (gC (S g1) = 3) → (gC (S g2) = 1) → (∀ b, gC (S0 b) ≠ 0 → gC (S b) = gC (S0 b)) → ∀ (H : Heap) (locs : List Loc), WB G S s H locs → ∀ (ls : Array Slot), lv_has ls 5 [(0, .ref a), (1, .ref g1), (2, .ref g2)] → W p l e RM_X6_play s m args below meth c H locs 0 0 (QR G below args s (some (.int z.1)) S0 z.2) (F0 m 0 ls []) := by
  intro ha hg1 hg2 hK0 H locs hW ls hl
  have hx := hM.1
  have hb := hM.2.1
  refine lv_iconst (v := (-1 : Int32)) hx hb dX6_play_0 (by decide) ?_
  refine lv_istore_n (lv' := [(3, .int (-1 : Int32)), (0, .ref a), (1, .ref g1), (2, .ref g2)]) hx hb dX6_play_1 rfl hl (by decide) rfl (fun ls hl => ?_)
  refine lv_iconst (v := (0 : Int32)) hx hb dX6_play_2 (by decide) ?_
  refine lv_istore (lv' := [(4, .int (0 : Int32)), (3, .int (-1 : Int32)), (0, .ref a), (1, .ref g1), (2, .ref g2)]) hx hb dX6_play_3 hl (by decide) rfl (fun ls hl => ?_)
  exact t_X6_play_5 (fu := fu) hM hml hr hlk _ _ _ hf ha hg1 hg2 hK0 _ _ hW _ (lv_sub hl [2, 3, 4, 1, 0] rfl)
noncomputable def f_X6_play (fu : Nat) (S : ST) (a : Nat) (g1 : Nat) (g2 : Nat) : Option (Int32 × ST) := f_X6_play_0 fu S a g1 g2
set_option maxHeartbeats 4000000 in
set_option maxRecDepth 100000 in
theorem c_X6_play (l : Launch) (G : GG) (fu : Nat) (S : ST) (a : Nat) (g1 : Nat) (g2 : Nat) {z : Int32} {w : ST} (ha : gC (S a) = 6) (hg1 : gC (S g1) = 3) (hg2 : gC (S g2) = 1) (hf : f_X6_play fu S a g1 g2 = some (z, w)) : Ct l yX6_play w_X6_play RM_X6_play G S [.ref a, .ref g1, .ref g2] (some (.int z)) w 0 0 := by
  refine Met.ofW (cc := cX6_play) (maxL := 5) (ret := (some .int)) (by decide) rfl ?_
  intro p e s m args below meth c s₁ B hml hv
  obtain ⟨rfl, hB, hK, hz⟩ := hv
  have hM : MC G p s m _ c cX6_play w_X6_play RX6 := ⟨B.exec, B.bytes, findClass_of_methodNamed B.named, atoms_spec (ws := w_X6_play) B.pre, hK, hz⟩
  have hW : WB G S s s.heap [] := ⟨hB, va_S.rf⟩
  have hl := lv_entry ([.ref a, .ref g1, .ref g2]) (n := 5) (Nat.le_of_ble_eq_true rfl)
  rw [lg_entry_eq]
  generalize (lg_sl ([.ref a, .ref g1, .ref g2]) ++ List.replicate (5 - (lg_sl ([.ref a, .ref g1, .ref g2])).length) Slot.unset).toArray = ls at hl ⊢
  have hl : lv_has ls 5 [(0, .ref a), (1, .ref g1), (2, .ref g2)] := hl
  exact t_X6_play_0 (fu := fu) hM hml B.returns B.notSynchronized hf ha hg1 hg2 (fun _ _ => rfl) _ _ hW _ (lv_sub hl [0, 1, 2] rfl)
abbrev RM_J6_numberOfTrailingZeros_0f7a4 : Room := { frames := 0, cells := 0, slots := 0, locals := 0 }
abbrev w_J6_numberOfTrailingZeros_0f7a4 : List Cond := Cond.code yJ6_numberOfTrailingZeros_0f7a4 cJ6_numberOfTrailingZeros_0f7a4 2 (some .int) :: wsL_law0
noncomputable def f_J6_numberOfTrailingZeros_0f7a4_74 (fu : Nat)  (x0 : Int32) (x1 : Int32) : Option (Int32) :=
  some ((x1 + (x0.toUInt32 >>> ((1 : Int32).toUInt32 &&& Int32.toUInt32 31)).toInt32))
set_option maxHeartbeats 4000000 in
set_option maxRecDepth 100000 in
theorem t_J6_numberOfTrailingZeros_0f7a4_74 {G : GG} {p : Program} {l : Launch} {e : Env} {s : State} {m : MethodId} {args : Array Value} {below : List Frame} {meth : Method} {c : Code} {S : ST} {fu : Nat} {z : Int32}  {x0 : Int32} {x1 : Int32} (hM : MC G p s m args c cJ6_numberOfTrailingZeros_0f7a4 w_J6_numberOfTrailingZeros_0f7a4 RJ6) (hml : c.maxLocals = 2) (hr : meth.sig.returnType = (some .int)) (hlk : meth.locks = false)   (hf : f_J6_numberOfTrailingZeros_0f7a4_74 fu    x0 x1 = some z) : ∀ (H : Heap) (locs : List Loc), WB G S s H locs → ∀ (ls : Array Slot), lv_has ls 2 [(0, .int x0), (1, .int x1)] → W p l e RM_J6_numberOfTrailingZeros_0f7a4 s m args below meth c H locs 0 0 (QR G below args s (some (.int z)) S S) (F0 m 74 ls []) := by
  intro  H locs hW ls hl
  have hx := hM.1
  have hb := hM.2.1
  refine lv_iload_n hx hb dJ6_numberOfTrailingZeros_0f7a4_74 rfl (lv_at hl 1 rfl) ?_
  refine lv_iload_n hx hb dJ6_numberOfTrailingZeros_0f7a4_75 rfl (lv_at hl 0 rfl) ?_
  refine lv_iconst (v := (1 : Int32)) hx hb dJ6_numberOfTrailingZeros_0f7a4_76 (by decide) ?_
  refine lv_iushr hx hb dJ6_numberOfTrailingZeros_0f7a4_77 rfl ?_
  refine lv_iadd hx hb dJ6_numberOfTrailingZeros_0f7a4_78 ?_
  cases hf
  exact W.iret hx hb hr (b_ret0 hW (fun _ _ => rfl) _) hW.2.2.2 dJ6_numberOfTrailingZeros_0f7a4_79 hlk
noncomputable def f_J6_numberOfTrailingZeros_0f7a4_62 (fu : Nat)  (x0 : Int32) (x1 : Int32) : Option (Int32) :=
  if x0 ≤ (4 : Int32) then
    (f_J6_numberOfTrailingZeros_0f7a4_74 fu x0 x1)
  else
    (nm (x1 + (2 : Int32)) fun y2 =>
    nm ((x0.toUInt32 >>> ((2 : Int32).toUInt32 &&& Int32.toUInt32 31)).toInt32) fun y3 =>
    f_J6_numberOfTrailingZeros_0f7a4_74 fu y3 y2)
set_option maxHeartbeats 4000000 in
set_option maxRecDepth 100000 in
theorem t_J6_numberOfTrailingZeros_0f7a4_62 {G : GG} {p : Program} {l : Launch} {e : Env} {s : State} {m : MethodId} {args : Array Value} {below : List Frame} {meth : Method} {c : Code} {S : ST} {fu : Nat} {z : Int32}  {x0 : Int32} {x1 : Int32} (hM : MC G p s m args c cJ6_numberOfTrailingZeros_0f7a4 w_J6_numberOfTrailingZeros_0f7a4 RJ6) (hml : c.maxLocals = 2) (hr : meth.sig.returnType = (some .int)) (hlk : meth.locks = false)   (hf : f_J6_numberOfTrailingZeros_0f7a4_62 fu    x0 x1 = some z) : ∀ (H : Heap) (locs : List Loc), WB G S s H locs → ∀ (ls : Array Slot), lv_has ls 2 [(0, .int x0), (1, .int x1)] → W p l e RM_J6_numberOfTrailingZeros_0f7a4 s m args below meth c H locs 0 0 (QR G below args s (some (.int z)) S S) (F0 m 62 ls []) := by
  intro  H locs hW ls hl
  have hx := hM.1
  have hb := hM.2.1
  refine lv_iload_n hx hb dJ6_numberOfTrailingZeros_0f7a4_62 rfl (lv_at hl 0 rfl) ?_
  refine lv_iconst (v := (4 : Int32)) hx hb dJ6_numberOfTrailingZeros_0f7a4_63 (by decide) ?_
  refine lv_icmp_le (tgt := 74) hx hb dJ6_numberOfTrailingZeros_0f7a4_64 (by decide) (fun c1 => ?_) (fun c1 => ?_)
  · have hf := if_t c1 hf
    exact t_J6_numberOfTrailingZeros_0f7a4_74 (fu := fu) hM hml hr hlk hf _ _ hW _ (lv_sub hl [0, 1] rfl)
  · have hf := if_f c1 hf
    obtain ⟨y2, ey2⟩ : ∃ y : Int32, y = x1 + (2 : Int32) := ⟨_, rfl⟩
    have hf := nm_at ey2 hf
    refine lv_iinc (v := y2) (lv' := [(1, .int y2), (0, .int x0)]) hx hb dJ6_numberOfTrailingZeros_0f7a4_67 hl (k := 1) rfl (by rw [ey2]; rfl) (by decide) rfl (fun ls hl => ?_)
    refine lv_iload_n hx hb dJ6_numberOfTrailingZeros_0f7a4_70 rfl (lv_at hl 1 rfl) ?_
    refine lv_iconst (v := (2 : Int32)) hx hb dJ6_numberOfTrailingZeros_0f7a4_71 (by decide) ?_
    refine lv_iushr hx hb dJ6_numberOfTrailingZeros_0f7a4_72 rfl ?_
    refine lv_topi (fun y3 ey3 => ?_)
    have hf := nm_at ey3 hf
    refine lv_istore_n (lv' := [(0, .int y3), (1, .int y2)]) hx hb dJ6_numberOfTrailingZeros_0f7a4_73 rfl hl (by decide) rfl (fun ls hl => ?_)
    exact t_J6_numberOfTrailingZeros_0f7a4_74 (fu := fu) hM hml hr hlk hf _ _ hW _ (lv_sub hl [0, 1] rfl)
noncomputable def f_J6_numberOfTrailingZeros_0f7a4_49 (fu : Nat)  (x0 : Int32) (x1 : Int32) : Option (Int32) :=
  if x0 ≤ (16 : Int32) then
    (f_J6_numberOfTrailingZeros_0f7a4_62 fu x0 x1)
  else
    (nm (x1 + (4 : Int32)) fun y2 =>
    nm ((x0.toUInt32 >>> ((4 : Int32).toUInt32 &&& Int32.toUInt32 31)).toInt32) fun y3 =>
    f_J6_numberOfTrailingZeros_0f7a4_62 fu y3 y2)
set_option maxHeartbeats 4000000 in
set_option maxRecDepth 100000 in
theorem t_J6_numberOfTrailingZeros_0f7a4_49 {G : GG} {p : Program} {l : Launch} {e : Env} {s : State} {m : MethodId} {args : Array Value} {below : List Frame} {meth : Method} {c : Code} {S : ST} {fu : Nat} {z : Int32}  {x0 : Int32} {x1 : Int32} (hM : MC G p s m args c cJ6_numberOfTrailingZeros_0f7a4 w_J6_numberOfTrailingZeros_0f7a4 RJ6) (hml : c.maxLocals = 2) (hr : meth.sig.returnType = (some .int)) (hlk : meth.locks = false)   (hf : f_J6_numberOfTrailingZeros_0f7a4_49 fu    x0 x1 = some z) : ∀ (H : Heap) (locs : List Loc), WB G S s H locs → ∀ (ls : Array Slot), lv_has ls 2 [(0, .int x0), (1, .int x1)] → W p l e RM_J6_numberOfTrailingZeros_0f7a4 s m args below meth c H locs 0 0 (QR G below args s (some (.int z)) S S) (F0 m 49 ls []) := by
  intro  H locs hW ls hl
  have hx := hM.1
  have hb := hM.2.1
  refine lv_iload_n hx hb dJ6_numberOfTrailingZeros_0f7a4_49 rfl (lv_at hl 0 rfl) ?_
  refine lv_bipush (v := (16 : Int32)) hx hb dJ6_numberOfTrailingZeros_0f7a4_50 (by decide) ?_
  refine lv_icmp_le (tgt := 62) hx hb dJ6_numberOfTrailingZeros_0f7a4_52 (by decide) (fun c1 => ?_) (fun c1 => ?_)
  · have hf := if_t c1 hf
    exact t_J6_numberOfTrailingZeros_0f7a4_62 (fu := fu) hM hml hr hlk hf _ _ hW _ (lv_sub hl [0, 1] rfl)
  · have hf := if_f c1 hf
    obtain ⟨y2, ey2⟩ : ∃ y : Int32, y = x1 + (4 : Int32) := ⟨_, rfl⟩
    have hf := nm_at ey2 hf
    refine lv_iinc (v := y2) (lv' := [(1, .int y2), (0, .int x0)]) hx hb dJ6_numberOfTrailingZeros_0f7a4_55 hl (k := 1) rfl (by rw [ey2]; rfl) (by decide) rfl (fun ls hl => ?_)
    refine lv_iload_n hx hb dJ6_numberOfTrailingZeros_0f7a4_58 rfl (lv_at hl 1 rfl) ?_
    refine lv_iconst (v := (4 : Int32)) hx hb dJ6_numberOfTrailingZeros_0f7a4_59 (by decide) ?_
    refine lv_iushr hx hb dJ6_numberOfTrailingZeros_0f7a4_60 rfl ?_
    refine lv_topi (fun y3 ey3 => ?_)
    have hf := nm_at ey3 hf
    refine lv_istore_n (lv' := [(0, .int y3), (1, .int y2)]) hx hb dJ6_numberOfTrailingZeros_0f7a4_61 rfl hl (by decide) rfl (fun ls hl => ?_)
    exact t_J6_numberOfTrailingZeros_0f7a4_62 (fu := fu) hM hml hr hlk hf _ _ hW _ (lv_sub hl [0, 1] rfl)
noncomputable def f_J6_numberOfTrailingZeros_0f7a4_34 (fu : Nat)  (x0 : Int32) (x1 : Int32) : Option (Int32) :=
  if x0 ≤ (256 : Int32) then
    (f_J6_numberOfTrailingZeros_0f7a4_49 fu x0 x1)
  else
    (nm (x1 + (8 : Int32)) fun y2 =>
    nm ((x0.toUInt32 >>> ((8 : Int32).toUInt32 &&& Int32.toUInt32 31)).toInt32) fun y3 =>
    f_J6_numberOfTrailingZeros_0f7a4_49 fu y3 y2)
set_option maxHeartbeats 4000000 in
set_option maxRecDepth 100000 in
theorem t_J6_numberOfTrailingZeros_0f7a4_34 {G : GG} {p : Program} {l : Launch} {e : Env} {s : State} {m : MethodId} {args : Array Value} {below : List Frame} {meth : Method} {c : Code} {S : ST} {fu : Nat} {z : Int32}  {x0 : Int32} {x1 : Int32} (hM : MC G p s m args c cJ6_numberOfTrailingZeros_0f7a4 w_J6_numberOfTrailingZeros_0f7a4 RJ6) (hml : c.maxLocals = 2) (hr : meth.sig.returnType = (some .int)) (hlk : meth.locks = false)   (hf : f_J6_numberOfTrailingZeros_0f7a4_34 fu    x0 x1 = some z) : ∀ (H : Heap) (locs : List Loc), WB G S s H locs → ∀ (ls : Array Slot), lv_has ls 2 [(0, .int x0), (1, .int x1)] → W p l e RM_J6_numberOfTrailingZeros_0f7a4 s m args below meth c H locs 0 0 (QR G below args s (some (.int z)) S S) (F0 m 34 ls []) := by
  intro  H locs hW ls hl
  have hx := hM.1
  have hb := hM.2.1
  refine lv_iload_n hx hb dJ6_numberOfTrailingZeros_0f7a4_34 rfl (lv_at hl 0 rfl) ?_
  refine lv_sipush (v := (256 : Int32)) hx hb dJ6_numberOfTrailingZeros_0f7a4_35 (by decide) ?_
  refine lv_icmp_le (tgt := 49) hx hb dJ6_numberOfTrailingZeros_0f7a4_38 (by decide) (fun c1 => ?_) (fun c1 => ?_)
  · have hf := if_t c1 hf
    exact t_J6_numberOfTrailingZeros_0f7a4_49 (fu := fu) hM hml hr hlk hf _ _ hW _ (lv_sub hl [0, 1] rfl)
  · have hf := if_f c1 hf
    obtain ⟨y2, ey2⟩ : ∃ y : Int32, y = x1 + (8 : Int32) := ⟨_, rfl⟩
    have hf := nm_at ey2 hf
    refine lv_iinc (v := y2) (lv' := [(1, .int y2), (0, .int x0)]) hx hb dJ6_numberOfTrailingZeros_0f7a4_41 hl (k := 1) rfl (by rw [ey2]; rfl) (by decide) rfl (fun ls hl => ?_)
    refine lv_iload_n hx hb dJ6_numberOfTrailingZeros_0f7a4_44 rfl (lv_at hl 1 rfl) ?_
    refine lv_bipush (v := (8 : Int32)) hx hb dJ6_numberOfTrailingZeros_0f7a4_45 (by decide) ?_
    refine lv_iushr hx hb dJ6_numberOfTrailingZeros_0f7a4_47 rfl ?_
    refine lv_topi (fun y3 ey3 => ?_)
    have hf := nm_at ey3 hf
    refine lv_istore_n (lv' := [(0, .int y3), (1, .int y2)]) hx hb dJ6_numberOfTrailingZeros_0f7a4_48 rfl hl (by decide) rfl (fun ls hl => ?_)
    exact t_J6_numberOfTrailingZeros_0f7a4_49 (fu := fu) hM hml hr hlk hf _ _ hW _ (lv_sub hl [0, 1] rfl)
noncomputable def f_J6_numberOfTrailingZeros_0f7a4_0 (fu : Nat)  (x0 : Int32) : Option (Int32) :=
  nm (((x0 ^^^ (-1 : Int32)) &&& (x0 - (1 : Int32)))) fun y1 =>
  if 0 < y1 then
    (if y1 ≤ (65536 : Int32) then
      (f_J6_numberOfTrailingZeros_0f7a4_34 fu y1 (1 : Int32))
    else
      (nm ((1 : Int32) + (16 : Int32)) fun y4 =>
      nm ((y1.toUInt32 >>> ((16 : Int32).toUInt32 &&& Int32.toUInt32 31)).toInt32) fun y5 =>
      f_J6_numberOfTrailingZeros_0f7a4_34 fu y5 y4))
  else
    (some ((y1 &&& (32 : Int32))))
set_option maxHeartbeats 4000000 in
set_option maxRecDepth 100000 in
theorem t_J6_numberOfTrailingZeros_0f7a4_0 {G : GG} {p : Program} {l : Launch} {e : Env} {s : State} {m : MethodId} {args : Array Value} {below : List Frame} {meth : Method} {c : Code} {S : ST} {fu : Nat} {z : Int32}  {x0 : Int32} (hM : MC G p s m args c cJ6_numberOfTrailingZeros_0f7a4 w_J6_numberOfTrailingZeros_0f7a4 RJ6) (hml : c.maxLocals = 2) (hr : meth.sig.returnType = (some .int)) (hlk : meth.locks = false)   (hf : f_J6_numberOfTrailingZeros_0f7a4_0 fu    x0 = some z) : ∀ (H : Heap) (locs : List Loc), WB G S s H locs → ∀ (ls : Array Slot), lv_has ls 2 [(0, .int x0)] → W p l e RM_J6_numberOfTrailingZeros_0f7a4 s m args below meth c H locs 0 0 (QR G below args s (some (.int z)) S S) (F0 m 0 ls []) := by
  intro  H locs hW ls hl
  have hx := hM.1
  have hb := hM.2.1
  refine lv_iload_n hx hb dJ6_numberOfTrailingZeros_0f7a4_0 rfl (lv_at hl 0 rfl) ?_
  refine lv_iconst (v := (-1 : Int32)) hx hb dJ6_numberOfTrailingZeros_0f7a4_1 (by decide) ?_
  refine lv_ixor hx hb dJ6_numberOfTrailingZeros_0f7a4_2 ?_
  refine lv_iload_n hx hb dJ6_numberOfTrailingZeros_0f7a4_3 rfl (lv_at hl 0 rfl) ?_
  refine lv_iconst (v := (1 : Int32)) hx hb dJ6_numberOfTrailingZeros_0f7a4_4 (by decide) ?_
  refine lv_isub hx hb dJ6_numberOfTrailingZeros_0f7a4_5 ?_
  refine lv_iand hx hb dJ6_numberOfTrailingZeros_0f7a4_6 ?_
  refine lv_topi (fun y1 ey1 => ?_)
  have hf := nm_at ey1 hf
  refine lv_istore_n (lv' := [(0, .int y1)]) hx hb dJ6_numberOfTrailingZeros_0f7a4_7 rfl hl (by decide) rfl (fun ls hl => ?_)
  refine lv_iload_n hx hb dJ6_numberOfTrailingZeros_0f7a4_8 rfl (lv_at hl 0 rfl) ?_
  refine lv_if_gt (tgt := 17) hx hb dJ6_numberOfTrailingZeros_0f7a4_9 (by decide) (fun c2 => ?_) (fun c2 => ?_)
  · have hf := if_t c2 hf
    refine lv_iconst (v := (1 : Int32)) hx hb dJ6_numberOfTrailingZeros_0f7a4_17 (by decide) ?_
    refine lv_istore_n (lv' := [(1, .int (1 : Int32)), (0, .int y1)]) hx hb dJ6_numberOfTrailingZeros_0f7a4_18 rfl hl (by decide) rfl (fun ls hl => ?_)
    refine lv_iload_n hx hb dJ6_numberOfTrailingZeros_0f7a4_19 rfl (lv_at hl 1 rfl) ?_
    refine lv_ldcw (v := (65536 : Int32)) hx hb hM.2.2.1 (hM.2.2.2.1 _ (wgm ki_RJ6_264)) dJ6_numberOfTrailingZeros_0f7a4_20 ?_
    refine lv_icmp_le (tgt := 34) hx hb dJ6_numberOfTrailingZeros_0f7a4_23 (by decide) (fun c3 => ?_) (fun c3 => ?_)
    · have hf := if_t c3 hf
      exact t_J6_numberOfTrailingZeros_0f7a4_34 (fu := fu) hM hml hr hlk hf _ _ hW _ (lv_sub hl [1, 0] rfl)
    · have hf := if_f c3 hf
      obtain ⟨y4, ey4⟩ : ∃ y : Int32, y = (1 : Int32) + (16 : Int32) := ⟨_, rfl⟩
      have hf := nm_at ey4 hf
      refine lv_iinc (v := y4) (lv' := [(1, .int y4), (0, .int y1)]) hx hb dJ6_numberOfTrailingZeros_0f7a4_26 hl (k := 0) rfl (by rw [ey4]; rfl) (by decide) rfl (fun ls hl => ?_)
      refine lv_iload_n hx hb dJ6_numberOfTrailingZeros_0f7a4_29 rfl (lv_at hl 1 rfl) ?_
      refine lv_bipush (v := (16 : Int32)) hx hb dJ6_numberOfTrailingZeros_0f7a4_30 (by decide) ?_
      refine lv_iushr hx hb dJ6_numberOfTrailingZeros_0f7a4_32 rfl ?_
      refine lv_topi (fun y5 ey5 => ?_)
      have hf := nm_at ey5 hf
      refine lv_istore_n (lv' := [(0, .int y5), (1, .int y4)]) hx hb dJ6_numberOfTrailingZeros_0f7a4_33 rfl hl (by decide) rfl (fun ls hl => ?_)
      exact t_J6_numberOfTrailingZeros_0f7a4_34 (fu := fu) hM hml hr hlk hf _ _ hW _ (lv_sub hl [0, 1] rfl)
  · have hf := if_f c2 hf
    refine lv_iload_n hx hb dJ6_numberOfTrailingZeros_0f7a4_12 rfl (lv_at hl 0 rfl) ?_
    refine lv_bipush (v := (32 : Int32)) hx hb dJ6_numberOfTrailingZeros_0f7a4_13 (by decide) ?_
    refine lv_iand hx hb dJ6_numberOfTrailingZeros_0f7a4_15 ?_
    cases hf
    exact W.iret hx hb hr (b_ret0 hW (fun _ _ => rfl) _) hW.2.2.2 dJ6_numberOfTrailingZeros_0f7a4_16 hlk
noncomputable def f_J6_numberOfTrailingZeros_0f7a4 (fu : Nat) (x0 : Int32) : Option (Int32) := f_J6_numberOfTrailingZeros_0f7a4_0 fu x0
set_option maxHeartbeats 4000000 in
set_option maxRecDepth 100000 in
theorem c_J6_numberOfTrailingZeros_0f7a4 (l : Launch) (G : GG) (fu : Nat) (S : ST) (x0 : Int32) {z : Int32} (hf : f_J6_numberOfTrailingZeros_0f7a4 fu x0 = some z) : Ct l yJ6_numberOfTrailingZeros_0f7a4 w_J6_numberOfTrailingZeros_0f7a4 RM_J6_numberOfTrailingZeros_0f7a4 G S [.int x0] (some (.int z)) S 0 0 := by
  refine Met.ofW (cc := cJ6_numberOfTrailingZeros_0f7a4) (maxL := 2) (ret := (some .int)) (by decide) rfl ?_
  intro p e s m args below meth c s₁ B hml hv
  obtain ⟨rfl, hB, hK, hz⟩ := hv
  have hM : MC G p s m _ c cJ6_numberOfTrailingZeros_0f7a4 w_J6_numberOfTrailingZeros_0f7a4 RJ6 := ⟨B.exec, B.bytes, findClass_of_methodNamed B.named, atoms_spec (ws := w_J6_numberOfTrailingZeros_0f7a4) B.pre, hK, hz⟩
  have hW : WB G S s s.heap [] := ⟨hB, va_S.rf⟩
  have hl := lv_entry ([.int x0]) (n := 2) (Nat.le_of_ble_eq_true rfl)
  rw [lg_entry_eq]
  generalize (lg_sl ([.int x0]) ++ List.replicate (2 - (lg_sl ([.int x0])).length) Slot.unset).toArray = ls at hl ⊢
  have hl : lv_has ls 2 [(0, .int x0)] := hl
  exact t_J6_numberOfTrailingZeros_0f7a4_0 (fu := fu) hM hml B.returns B.notSynchronized hf _ _ hW _ (lv_sub hl [0] rfl)
abbrev RM_X7_skilled : Room := { frames := 0, cells := 0, slots := 0, locals := 0 }
abbrev w_X7_skilled : List Cond := Cond.code yX7_skilled cX7_skilled 4 (some .int) :: wsL_law0
noncomputable def f_X7_skilled_28 (fu : Nat) (k4 : Int32 → Int32 → Option (Int32)) (S : ST) (g0 : Nat) (x1 : Int32) (x2 : Int32) (x3 : Int32) : Option (Int32) :=
  nm (x3 + (1 : Int32)) fun y1 =>
  k4 x2 y1
set_option maxHeartbeats 4000000 in
set_option maxRecDepth 100000 in
theorem t_X7_skilled_28 {G : GG} {p : Program} {l : Launch} {e : Env} {s : State} {m : MethodId} {args : Array Value} {below : List Frame} {meth : Method} {c : Code} {S : ST} {fu : Nat} {z : Int32} {g0 : Nat} {k4 : Int32 → Int32 → Option (Int32)} {x1 : Int32} {x2 : Int32} {x3 : Int32} (hM : MC G p s m args c cX7_skilled w_X7_skilled RX7) (hml : c.maxLocals = 4) (hr : meth.sig.returnType = (some .int)) (hlk : meth.locks = false) (hg0 : gC (S g0) = 1) (hk4 : ∀ (x2 : Int32) (x3 : Int32), k4 x2 x3 = some z → ∀ (H : Heap) (locs : List Loc), WB G S s H locs → ∀ (ls : Array Slot), lv_has ls 4 [(0, .ref g0), (1, .int x1), (2, .int x2), (3, .int x3)] → W p l e RM_X7_skilled s m args below meth c H locs 0 0 (QR G below args s (some (.int z)) S S) (F0 m 4 ls [])) (hf : f_X7_skilled_28 fu k4 S g0 x1 x2 x3 = some z) : ∀ (H : Heap) (locs : List Loc), WB G S s H locs → ∀ (ls : Array Slot), lv_has ls 4 [(0, .ref g0), (1, .int x1), (2, .int x2), (3, .int x3)] → W p l e RM_X7_skilled s m args below meth c H locs 0 0 (QR G below args s (some (.int z)) S S) (F0 m 28 ls []) := by
  intro  H locs hW ls hl
  have hx := hM.1
  have hb := hM.2.1
  obtain ⟨y1, ey1⟩ : ∃ y : Int32, y = x3 + (1 : Int32) := ⟨_, rfl⟩
  have hf := nm_at ey1 hf
  refine lv_iinc (v := y1) (lv' := [(3, .int y1), (0, .ref g0), (1, .int x1), (2, .int x2)]) hx hb dX7_skilled_28 hl (k := 3) rfl (by rw [ey1]; rfl) (by decide) rfl (fun ls hl => ?_)
  refine lv_goto (tgt := 4) hx hb dX7_skilled_31 (by decide) ?_
  exact hk4 _ _ hf _ _ hW _ (lv_sub hl [1, 2, 3, 0] rfl)
noncomputable def f_X7_skilled_4s (fu : Nat)  (k4 : Int32 → Int32 → Option (Int32)) (S : ST) (g0 : Nat) (x1 : Int32) (x2 : Int32) (x3 : Int32) : Option (Int32) :=
  if (gI (S g0) 9) ≤ x3 then
    (some (x2))
  else
    (ck (inb x3 5) <|
    if (gA (S g0) 4 x3.toNatClampNeg) < x1 then
      (f_X7_skilled_28 fu k4 S g0 x1 x2 x3)
    else
      (nm ((x2 ||| ((1 : Int32) <<< (x3 &&& 31)))) fun y4 =>
      f_X7_skilled_28 fu k4 S g0 x1 y4 x3))
noncomputable def f_X7_skilled_4 (fu n : Nat)  (S : ST) (g0 : Nat) (x1 : Int32) : Int32 → Int32 → Option (Int32) :=
  lq_2 (fun k4 => f_X7_skilled_4s fu  k4 S g0 x1) n
set_option maxHeartbeats 4000000 in
set_option maxRecDepth 100000 in
theorem t_X7_skilled_4s {G : GG} {p : Program} {l : Launch} {e : Env} {s : State} {m : MethodId} {args : Array Value} {below : List Frame} {meth : Method} {c : Code} {S : ST} {fu : Nat} {z : Int32} {g0 : Nat}  {k4 : Int32 → Int32 → Option (Int32)} {x1 : Int32} (hM : MC G p s m args c cX7_skilled w_X7_skilled RX7) (hml : c.maxLocals = 4) (hr : meth.sig.returnType = (some .int)) (hlk : meth.locks = false) (hg0 : gC (S g0) = 1)  (hk4 : ∀ (x2 : Int32) (x3 : Int32), k4 x2 x3 = some z → ∀ (H : Heap) (locs : List Loc), WB G S s H locs → ∀ (ls : Array Slot), lv_has ls 4 [(0, .ref g0), (1, .int x1), (2, .int x2), (3, .int x3)] → W p l e RM_X7_skilled s m args below meth c H locs 0 0 (QR G below args s (some (.int z)) S S) (F0 m 4 ls [])) : ∀ (x2 : Int32) (x3 : Int32), f_X7_skilled_4s fu  k4 S g0 x1 x2 x3 = some z → ∀ (H : Heap) (locs : List Loc), WB G S s H locs → ∀ (ls : Array Slot), lv_has ls 4 [(0, .ref g0), (1, .int x1), (2, .int x2), (3, .int x3)] → W p l e RM_X7_skilled s m args below meth c H locs 0 0 (QR G below args s (some (.int z)) S S) (F0 m 4 ls []) := by
  intro x2 x3 hf  H locs hW ls hl
  have hx := hM.1
  have hb := hM.2.1
  refine lv_iload_n hx hb dX7_skilled_4 rfl (lv_at hl 3 rfl) ?_
  refine lv_aload_n hx hb dX7_skilled_5 rfl (lv_at hl 0 rfl) ?_
  refine b_get hM (hW.at_ g0) 0 9 hg0 rfl rfl (by decide) wi_X1 (wgm fk_RX7_48) (x := .int (gI (S g0) 9)) rfl dX7_skilled_6 ?_
  refine lv_icmp_ge (tgt := 34) hx hb dX7_skilled_9 (by decide) (fun c1 => ?_) (fun c1 => ?_)
  · have hf := if_t c1 hf
    refine lv_iload_n hx hb dX7_skilled_34 rfl (lv_at hl 2 rfl) ?_
    cases hf
    exact W.iret hx hb hr (b_ret0 hW (fun _ _ => rfl) _) hW.2.2.2 dX7_skilled_35 hlk
  · have hf := if_f c1 hf
    refine lv_aload_n hx hb dX7_skilled_12 rfl (lv_at hl 0 rfl) ?_
    refine b_get hM (hW.at_ g0) 0 4 hg0 rfl rfl (by decide) wi_X1 (wgm fk_RX7_53) (x := .ref (g0 + 5)) rfl dX7_skilled_13 ?_
    refine lv_iload_n hx hb dX7_skilled_16 rfl (lv_at hl 3 rfl) ?_
    obtain ⟨h2, hf⟩ := ck_elim hf
    refine b_iald (n := 5) hM (hW.at_ g0) 0 4 hg0 (by decide) rfl rfl rfl rfl h2 dX7_skilled_17 ?_
    refine lv_iload_n hx hb dX7_skilled_18 rfl (lv_at hl 1 rfl) ?_
    refine lv_icmp_lt (tgt := 28) hx hb dX7_skilled_19 (by decide) (fun c3 => ?_) (fun c3 => ?_)
    · have hf := if_t c3 hf
      exact t_X7_skilled_28 (fu := fu) hM hml hr hlk hg0 hk4 hf _ _ hW _ (lv_sub hl [0, 1, 2, 3] rfl)
    · have hf := if_f c3 hf
      refine lv_iload_n hx hb dX7_skilled_22 rfl (lv_at hl 2 rfl) ?_
      refine lv_iconst (v := (1 : Int32)) hx hb dX7_skilled_23 (by decide) ?_
      refine lv_iload_n hx hb dX7_skilled_24 rfl (lv_at hl 3 rfl) ?_
      refine lv_ishl hx hb dX7_skilled_25 ?_
      refine lv_ior hx hb dX7_skilled_26 ?_
      refine lv_topi (fun y4 ey4 => ?_)
      have hf := nm_at ey4 hf
      refine lv_istore_n (lv' := [(2, .int y4), (0, .ref g0), (1, .int x1), (3, .int x3)]) hx hb dX7_skilled_27 rfl hl (by decide) rfl (fun ls hl => ?_)
      exact t_X7_skilled_28 (fu := fu) hM hml hr hlk hg0 hk4 hf _ _ hW _ (lv_sub hl [1, 2, 0, 3] rfl)
theorem t_X7_skilled_4 {G : GG} {p : Program} {l : Launch} {e : Env} {s : State} {m : MethodId} {args : Array Value} {below : List Frame} {meth : Method} {c : Code} {S : ST} {fu : Nat} {z : Int32} {g0 : Nat}  {x1 : Int32} (hM : MC G p s m args c cX7_skilled w_X7_skilled RX7) (hml : c.maxLocals = 4) (hr : meth.sig.returnType = (some .int)) (hlk : meth.locks = false) (hg0 : gC (S g0) = 1)  : ∀ {n : Nat} (x2 : Int32) (x3 : Int32), f_X7_skilled_4 fu n  S g0 x1 x2 x3 = some z → ∀ (H : Heap) (locs : List Loc), WB G S s H locs → ∀ (ls : Array Slot), lv_has ls 4 [(0, .ref g0), (1, .int x1), (2, .int x2), (3, .int x3)] → W p l e RM_X7_skilled s m args below meth c H locs 0 0 (QR G below args s (some (.int z)) S S) (F0 m 4 ls []) := by
  intro n
  induction n with
  | zero => intro x2 x3 hf; cases hf
  | succ n ih => intro x2 x3 hf; exact t_X7_skilled_4s (fu := fu) hM hml hr hlk hg0 (k4 := f_X7_skilled_4 fu n  S g0 x1) ih _ _ hf
noncomputable def f_X7_skilled_0 (fu : Nat)  (S : ST) (g0 : Nat) (x1 : Int32) : Option (Int32) :=
  f_X7_skilled_4 fu fu S g0 x1 (0 : Int32) (0 : Int32)
set_option maxHeartbeats 4000000 in
set_option maxRecDepth 100000 in
theorem t_X7_skilled_0 {G : GG} {p : Program} {l : Launch} {e : Env} {s : State} {m : MethodId} {args : Array Value} {below : List Frame} {meth : Method} {c : Code} {S : ST} {fu : Nat} {z : Int32} {g0 : Nat}  {x1 : Int32} (hM : MC G p s m args c cX7_skilled w_X7_skilled RX7) (hml : c.maxLocals = 4) (hr : meth.sig.returnType = (some .int)) (hlk : meth.locks = false) (hg0 : gC (S g0) = 1)  (hf : f_X7_skilled_0 fu  S g0 x1 = some z) : ∀ (H : Heap) (locs : List Loc), WB G S s H locs → ∀ (ls : Array Slot), lv_has ls 4 [(0, .ref g0), (1, .int x1)] → W p l e RM_X7_skilled s m args below meth c H locs 0 0 (QR G below args s (some (.int z)) S S) (F0 m 0 ls []) := by
  intro  H locs hW ls hl
  have hx := hM.1
  have hb := hM.2.1
  refine lv_iconst (v := (0 : Int32)) hx hb dX7_skilled_0 (by decide) ?_
  refine lv_istore_n (lv' := [(2, .int (0 : Int32)), (0, .ref g0), (1, .int x1)]) hx hb dX7_skilled_1 rfl hl (by decide) rfl (fun ls hl => ?_)
  refine lv_iconst (v := (0 : Int32)) hx hb dX7_skilled_2 (by decide) ?_
  refine lv_istore_n (lv' := [(3, .int (0 : Int32)), (2, .int (0 : Int32)), (0, .ref g0), (1, .int x1)]) hx hb dX7_skilled_3 rfl hl (by decide) rfl (fun ls hl => ?_)
  exact t_X7_skilled_4 (fu := fu) hM hml hr hlk hg0 _ _ hf _ _ hW _ (lv_sub hl [2, 3, 1, 0] rfl)
noncomputable def f_X7_skilled (fu : Nat) (S : ST) (g0 : Nat) (x1 : Int32) : Option (Int32) := f_X7_skilled_0 fu S g0 x1
set_option maxHeartbeats 4000000 in
set_option maxRecDepth 100000 in
theorem c_X7_skilled (l : Launch) (G : GG) (fu : Nat) (S : ST) (g0 : Nat) (x1 : Int32) {z : Int32} (hg0 : gC (S g0) = 1) (hf : f_X7_skilled fu S g0 x1 = some z) : Ct l yX7_skilled w_X7_skilled RM_X7_skilled G S [.ref g0, .int x1] (some (.int z)) S 0 0 := by
  refine Met.ofW (cc := cX7_skilled) (maxL := 4) (ret := (some .int)) (by decide) rfl ?_
  intro p e s m args below meth c s₁ B hml hv
  obtain ⟨rfl, hB, hK, hz⟩ := hv
  have hM : MC G p s m _ c cX7_skilled w_X7_skilled RX7 := ⟨B.exec, B.bytes, findClass_of_methodNamed B.named, atoms_spec (ws := w_X7_skilled) B.pre, hK, hz⟩
  have hW : WB G S s s.heap [] := ⟨hB, va_S.rf⟩
  have hl := lv_entry ([.ref g0, .int x1]) (n := 4) (Nat.le_of_ble_eq_true rfl)
  rw [lg_entry_eq]
  generalize (lg_sl ([.ref g0, .int x1]) ++ List.replicate (4 - (lg_sl ([.ref g0, .int x1])).length) Slot.unset).toArray = ls at hl ⊢
  have hl : lv_has ls 4 [(0, .ref g0), (1, .int x1)] := hl
  exact t_X7_skilled_0 (fu := fu) hM hml B.returns B.notSynchronized hg0 hf _ _ hW _ (lv_sub hl [0, 1] rfl)
abbrev RM_X7_given : Room := { frames := 0, cells := 0, slots := 0, locals := 0 }
abbrev w_X7_given : List Cond := Cond.code yX7_given cX7_given 3 (some .int) :: wsL_law0
noncomputable def f_X7_given_4s (fu : Nat)  (k4 : Int32 → Int32 → Option (Int32)) (x0 : Int32) (x1 : Int32) (x2 : Int32) : Option (Int32) :=
  if (5 : Int32) ≤ x2 then
    (some (x1))
  else
    (ck (inb x2 5) <|
    nm ((uni.getD x2.toNatClampNeg 0)) fun y3 =>
    ck (decide (¬ y3 = 0)) <|
    nm ((x1 + ((x0 / y3) - (x0 / y3) / (3 : Int32) * (3 : Int32)))) fun y5 =>
    nm (x2 + (1 : Int32)) fun y6 =>
    k4 y5 y6)
noncomputable def f_X7_given_4 (fu n : Nat)  (x0 : Int32) : Int32 → Int32 → Option (Int32) :=
  lq_2 (fun k4 => f_X7_given_4s fu  k4   x0) n
set_option maxHeartbeats 4000000 in
set_option maxRecDepth 100000 in
theorem t_X7_given_4s {G : GG} {p : Program} {l : Launch} {e : Env} {s : State} {m : MethodId} {args : Array Value} {below : List Frame} {meth : Method} {c : Code} {S : ST} {fu : Nat} {z : Int32}  {k4 : Int32 → Int32 → Option (Int32)} {x0 : Int32} (hM : MC G p s m args c cX7_given w_X7_given RX7) (hml : c.maxLocals = 3) (hr : meth.sig.returnType = (some .int)) (hlk : meth.locks = false)   (hk4 : ∀ (x1 : Int32) (x2 : Int32), k4 x1 x2 = some z → ∀ (H : Heap) (locs : List Loc), WB G S s H locs → ∀ (ls : Array Slot), lv_has ls 3 [(0, .int x0), (1, .int x1), (2, .int x2)] → W p l e RM_X7_given s m args below meth c H locs 0 0 (QR G below args s (some (.int z)) S S) (F0 m 4 ls [])) : ∀ (x1 : Int32) (x2 : Int32), f_X7_given_4s fu  k4   x0 x1 x2 = some z → ∀ (H : Heap) (locs : List Loc), WB G S s H locs → ∀ (ls : Array Slot), lv_has ls 3 [(0, .int x0), (1, .int x1), (2, .int x2)] → W p l e RM_X7_given s m args below meth c H locs 0 0 (QR G below args s (some (.int z)) S S) (F0 m 4 ls []) := by
  intro x1 x2 hf  H locs hW ls hl
  have hx := hM.1
  have hb := hM.2.1
  refine lv_iload_n hx hb dX7_given_4 rfl (lv_at hl 2 rfl) ?_
  refine lv_iconst (v := (5 : Int32)) hx hb dX7_given_5 (by decide) ?_
  refine lv_icmp_ge (tgt := 27) hx hb dX7_given_6 (by decide) (fun c1 => ?_) (fun c1 => ?_)
  · have hf := if_t c1 hf
    refine lv_iload_n hx hb dX7_given_27 rfl (lv_at hl 1 rfl) ?_
    cases hf
    exact W.iret hx hb hr (b_ret0 hW (fun _ _ => rfl) _) hW.2.2.2 dX7_given_28 hlk
  · have hf := if_f c1 hf
    refine lv_iload_n hx hb dX7_given_9 rfl (lv_at hl 1 rfl) ?_
    refine lv_iload_n hx hb dX7_given_10 rfl (lv_at hl 0 rfl) ?_
    refine k_units hM hW (wgm fk_RX7_63) dX7_given_11 ?_
    refine lv_iload_n hx hb dX7_given_14 rfl (lv_at hl 2 rfl) ?_
    obtain ⟨h2, hf⟩ := ck_elim hf
    refine k_iun hM hW h2 dX7_given_15 ?_
    refine lv_topi (fun y3 ey3 => ?_)
    have hf := nm_at ey3 hf
    obtain ⟨h4, hf⟩ := ck_elim hf
    refine lv_idiv hx hb dX7_given_16 (of_decide_eq_true h4) ?_
    refine lv_iconst (v := (3 : Int32)) hx hb dX7_given_17 (by decide) ?_
    refine lv_irem hx hb dX7_given_18 (by decide) ?_
    refine lv_iadd hx hb dX7_given_19 ?_
    refine lv_topi (fun y5 ey5 => ?_)
    have hf := nm_at ey5 hf
    refine lv_istore_n (lv' := [(1, .int y5), (0, .int x0), (2, .int x2)]) hx hb dX7_given_20 rfl hl (by decide) rfl (fun ls hl => ?_)
    obtain ⟨y6, ey6⟩ : ∃ y : Int32, y = x2 + (1 : Int32) := ⟨_, rfl⟩
    have hf := nm_at ey6 hf
    refine lv_iinc (v := y6) (lv' := [(2, .int y6), (1, .int y5), (0, .int x0)]) hx hb dX7_given_21 hl (k := 2) rfl (by rw [ey6]; rfl) (by decide) rfl (fun ls hl => ?_)
    refine lv_goto (tgt := 4) hx hb dX7_given_24 (by decide) ?_
    exact hk4 _ _ hf _ _ hW _ (lv_sub hl [2, 1, 0] rfl)
theorem t_X7_given_4 {G : GG} {p : Program} {l : Launch} {e : Env} {s : State} {m : MethodId} {args : Array Value} {below : List Frame} {meth : Method} {c : Code} {S : ST} {fu : Nat} {z : Int32}  {x0 : Int32} (hM : MC G p s m args c cX7_given w_X7_given RX7) (hml : c.maxLocals = 3) (hr : meth.sig.returnType = (some .int)) (hlk : meth.locks = false)   : ∀ {n : Nat} (x1 : Int32) (x2 : Int32), f_X7_given_4 fu n    x0 x1 x2 = some z → ∀ (H : Heap) (locs : List Loc), WB G S s H locs → ∀ (ls : Array Slot), lv_has ls 3 [(0, .int x0), (1, .int x1), (2, .int x2)] → W p l e RM_X7_given s m args below meth c H locs 0 0 (QR G below args s (some (.int z)) S S) (F0 m 4 ls []) := by
  intro n
  induction n with
  | zero => intro x1 x2 hf; cases hf
  | succ n ih => intro x1 x2 hf; exact t_X7_given_4s (fu := fu) hM hml hr hlk (k4 := f_X7_given_4 fu n    x0) ih _ _ hf
noncomputable def f_X7_given_0 (fu : Nat)  (x0 : Int32) : Option (Int32) :=
  f_X7_given_4 fu fu x0 (0 : Int32) (0 : Int32)
set_option maxHeartbeats 4000000 in
set_option maxRecDepth 100000 in
theorem t_X7_given_0 {G : GG} {p : Program} {l : Launch} {e : Env} {s : State} {m : MethodId} {args : Array Value} {below : List Frame} {meth : Method} {c : Code} {S : ST} {fu : Nat} {z : Int32}  {x0 : Int32} (hM : MC G p s m args c cX7_given w_X7_given RX7) (hml : c.maxLocals = 3) (hr : meth.sig.returnType = (some .int)) (hlk : meth.locks = false)   (hf : f_X7_given_0 fu    x0 = some z) : ∀ (H : Heap) (locs : List Loc), WB G S s H locs → ∀ (ls : Array Slot), lv_has ls 3 [(0, .int x0)] → W p l e RM_X7_given s m args below meth c H locs 0 0 (QR G below args s (some (.int z)) S S) (F0 m 0 ls []) := by
  intro  H locs hW ls hl
  have hx := hM.1
  have hb := hM.2.1
  refine lv_iconst (v := (0 : Int32)) hx hb dX7_given_0 (by decide) ?_
  refine lv_istore_n (lv' := [(1, .int (0 : Int32)), (0, .int x0)]) hx hb dX7_given_1 rfl hl (by decide) rfl (fun ls hl => ?_)
  refine lv_iconst (v := (0 : Int32)) hx hb dX7_given_2 (by decide) ?_
  refine lv_istore_n (lv' := [(2, .int (0 : Int32)), (1, .int (0 : Int32)), (0, .int x0)]) hx hb dX7_given_3 rfl hl (by decide) rfl (fun ls hl => ?_)
  exact t_X7_given_4 (fu := fu) hM hml hr hlk _ _ hf _ _ hW _ (lv_sub hl [2, 1, 0] rfl)
noncomputable def f_X7_given (fu : Nat) (x0 : Int32) : Option (Int32) := f_X7_given_0 fu x0
set_option maxHeartbeats 4000000 in
set_option maxRecDepth 100000 in
theorem c_X7_given (l : Launch) (G : GG) (fu : Nat) (S : ST) (x0 : Int32) {z : Int32} (hf : f_X7_given fu x0 = some z) : Ct l yX7_given w_X7_given RM_X7_given G S [.int x0] (some (.int z)) S 0 0 := by
  refine Met.ofW (cc := cX7_given) (maxL := 3) (ret := (some .int)) (by decide) rfl ?_
  intro p e s m args below meth c s₁ B hml hv
  obtain ⟨rfl, hB, hK, hz⟩ := hv
  have hM : MC G p s m _ c cX7_given w_X7_given RX7 := ⟨B.exec, B.bytes, findClass_of_methodNamed B.named, atoms_spec (ws := w_X7_given) B.pre, hK, hz⟩
  have hW : WB G S s s.heap [] := ⟨hB, va_S.rf⟩
  have hl := lv_entry ([.int x0]) (n := 3) (Nat.le_of_ble_eq_true rfl)
  rw [lg_entry_eq]
  generalize (lg_sl ([.int x0]) ++ List.replicate (3 - (lg_sl ([.int x0])).length) Slot.unset).toArray = ls at hl ⊢
  have hl : lv_has ls 3 [(0, .int x0)] := hl
  exact t_X7_given_0 (fu := fu) hM hml B.returns B.notSynchronized hf _ _ hW _ (lv_sub hl [0] rfl)
abbrev RM_X7_waysWith : Room := { frames := 0, cells := 0, slots := 0, locals := 0 }
abbrev w_X7_waysWith : List Cond := Cond.code yX7_waysWith cX7_waysWith 5 (some .int) :: wsL_law0
noncomputable def f_X7_waysWith_31 (fu : Nat)  (v : GV) (x1 : Int32) (x3 : Int32) (t0 : Int32) : Option (Int32) :=
  if t0 = 0 then
    (some ((0 : Int32)))
  else
    (ck (inb x3 5) <|
    nm ((x1 + (uni.getD x3.toNatClampNeg 0))) fun y3 =>
    ck (inb y3 243) <|
    some ((gA v 1 y3.toNatClampNeg)))
set_option maxHeartbeats 4000000 in
set_option maxRecDepth 100000 in
theorem t_X7_waysWith_31 {G : GG} {p : Program} {l : Launch} {e : Env} {s : State} {m : MethodId} {args : Array Value} {below : List Frame} {meth : Method} {c : Code} {S : ST} {fu : Nat} {z : Int32} {a : Nat} {v : GV}  {x1 : Int32} {x3 : Int32} {t0 : Int32} (hM : MC G p s m args c cX7_waysWith w_X7_waysWith RX7) (hml : c.maxLocals = 5) (hr : meth.sig.returnType = (some .int)) (hlk : meth.locks = false) (hc0 : gC v = 7)  (hf : f_X7_waysWith_31 fu  v  x1 x3 t0 = some z) : ∀ (H : Heap) (locs : List Loc), WB G (st S a v) s H locs → ∀ (ls : Array Slot), lv_has ls 5 [(0, .ref a), (1, .int x1), (3, .int x3)] → W p l e RM_X7_waysWith s m args below meth c H locs 0 0 (QR G below args s (some (.int z)) (st S a v) (st S a v)) (F0 m 31 ls [.int t0]) := by
  intro  H locs hW ls hl
  have hx := hM.1
  have hb := hM.2.1
  have hc := hc0
  refine lv_istore (lv' := [(4, .int t0), (0, .ref a), (1, .int x1), (3, .int x3)]) hx hb dX7_waysWith_31 hl (by decide) rfl (fun ls hl => ?_)
  refine lv_iload hx hb dX7_waysWith_33 (lv_at hl 0 rfl) ?_
  refine lv_if_eq (tgt := 53) hx hb dX7_waysWith_35 (by decide) (fun c1 => ?_) (fun c1 => ?_)
  · have hf := if_t c1 hf
    refine lv_iconst (v := (0 : Int32)) hx hb dX7_waysWith_53 (by decide) ?_
    cases hf
    exact W.iret hx hb hr (b_ret0 hW (fun _ _ => rfl) _) hW.2.2.2 dX7_waysWith_54 hlk
  · have hf := if_f c1 hf
    refine lv_aload_n hx hb dX7_waysWith_38 rfl (lv_at hl 1 rfl) ?_
    refine b_get hM hW 6 1 hc rfl rfl (by decide) wi_X7 (wgm fk_RX7_15) (x := .ref (a + 2)) rfl dX7_waysWith_39 ?_
    refine lv_iload_n hx hb dX7_waysWith_42 rfl (lv_at hl 2 rfl) ?_
    refine k_units hM hW (wgm fk_RX7_63) dX7_waysWith_43 ?_
    refine lv_iload_n hx hb dX7_waysWith_46 rfl (lv_at hl 3 rfl) ?_
    obtain ⟨h2, hf⟩ := ck_elim hf
    refine k_iun hM hW h2 dX7_waysWith_47 ?_
    refine lv_iadd hx hb dX7_waysWith_48 ?_
    refine lv_topi (fun y3 ey3 => ?_)
    have hf := nm_at ey3 hf
    obtain ⟨h4, hf⟩ := ck_elim hf
    refine b_iald (n := 243) hM hW 6 1 hc (by decide) rfl rfl rfl rfl h4 dX7_waysWith_49 ?_
    refine lv_goto (tgt := 54) hx hb dX7_waysWith_50 (by decide) ?_
    cases hf
    exact W.iret hx hb hr (b_ret0 hW (fun _ _ => rfl) _) hW.2.2.2 dX7_waysWith_54 hlk
noncomputable def f_X7_waysWith_30 (fu : Nat)  (v : GV) (x1 : Int32) (x3 : Int32) : Option (Int32) :=
  f_X7_waysWith_31 fu v x1 x3 (0 : Int32)
set_option maxHeartbeats 4000000 in
set_option maxRecDepth 100000 in
theorem t_X7_waysWith_30 {G : GG} {p : Program} {l : Launch} {e : Env} {s : State} {m : MethodId} {args : Array Value} {below : List Frame} {meth : Method} {c : Code} {S : ST} {fu : Nat} {z : Int32} {a : Nat} {v : GV}  {x1 : Int32} {x3 : Int32} (hM : MC G p s m args c cX7_waysWith w_X7_waysWith RX7) (hml : c.maxLocals = 5) (hr : meth.sig.returnType = (some .int)) (hlk : meth.locks = false) (hc0 : gC v = 7)  (hf : f_X7_waysWith_30 fu  v  x1 x3 = some z) : ∀ (H : Heap) (locs : List Loc), WB G (st S a v) s H locs → ∀ (ls : Array Slot), lv_has ls 5 [(0, .ref a), (1, .int x1), (3, .int x3)] → W p l e RM_X7_waysWith s m args below meth c H locs 0 0 (QR G below args s (some (.int z)) (st S a v) (st S a v)) (F0 m 30 ls []) := by
  intro  H locs hW ls hl
  have hx := hM.1
  have hb := hM.2.1
  have hc := hc0
  refine lv_iconst (v := (0 : Int32)) hx hb dX7_waysWith_30 (by decide) ?_
  exact t_X7_waysWith_31 (fu := fu) hM hml hr hlk hc0 hf _ _ hW _ (lv_sub hl [0, 1, 2] rfl)
noncomputable def f_X7_waysWith_0 (fu : Nat)  (v : GV) (x1 : Int32) (x2 : Int32) (x3 : Int32) : Option (Int32) :=
  ck (inb x2 8) <|
  if (((gA v 0 x2.toNatClampNeg) >>> (x3 &&& 31)) &&& (1 : Int32)) = 0 then
    (f_X7_waysWith_30 fu v x1 x3)
  else
    (ck (inb x3 5) <|
    nm ((uni.getD x3.toNatClampNeg 0)) fun y4 =>
    ck (decide (¬ y4 = 0)) <|
    if (2 : Int32) ≤ ((x1 / y4) - (x1 / y4) / (3 : Int32) * (3 : Int32)) then
      (f_X7_waysWith_30 fu v x1 x3)
    else
      (f_X7_waysWith_31 fu v x1 x3 (1 : Int32)))
set_option maxHeartbeats 4000000 in
set_option maxRecDepth 100000 in
theorem t_X7_waysWith_0 {G : GG} {p : Program} {l : Launch} {e : Env} {s : State} {m : MethodId} {args : Array Value} {below : List Frame} {meth : Method} {c : Code} {S : ST} {fu : Nat} {z : Int32} {a : Nat} {v : GV}  {x1 : Int32} {x2 : Int32} {x3 : Int32} (hM : MC G p s m args c cX7_waysWith w_X7_waysWith RX7) (hml : c.maxLocals = 5) (hr : meth.sig.returnType = (some .int)) (hlk : meth.locks = false) (hc0 : gC v = 7)  (hf : f_X7_waysWith_0 fu  v  x1 x2 x3 = some z) : ∀ (H : Heap) (locs : List Loc), WB G (st S a v) s H locs → ∀ (ls : Array Slot), lv_has ls 5 [(0, .ref a), (1, .int x1), (2, .int x2), (3, .int x3)] → W p l e RM_X7_waysWith s m args below meth c H locs 0 0 (QR G below args s (some (.int z)) (st S a v) (st S a v)) (F0 m 0 ls []) := by
  intro  H locs hW ls hl
  have hx := hM.1
  have hb := hM.2.1
  have hc := hc0
  refine lv_aload_n hx hb dX7_waysWith_0 rfl (lv_at hl 0 rfl) ?_
  refine b_get hM hW 6 0 hc rfl rfl (by decide) wi_X7 (wgm fk_RX7_9) (x := .ref (a + 1)) rfl dX7_waysWith_1 ?_
  refine lv_iload_n hx hb dX7_waysWith_4 rfl (lv_at hl 2 rfl) ?_
  obtain ⟨h1, hf⟩ := ck_elim hf
  refine b_iald (n := 8) hM hW 6 0 hc (by decide) rfl rfl rfl rfl h1 dX7_waysWith_5 ?_
  refine lv_iload_n hx hb dX7_waysWith_6 rfl (lv_at hl 3 rfl) ?_
  refine lv_ishr hx hb dX7_waysWith_7 ?_
  refine lv_iconst (v := (1 : Int32)) hx hb dX7_waysWith_8 (by decide) ?_
  refine lv_iand hx hb dX7_waysWith_9 ?_
  refine lv_if_eq (tgt := 30) hx hb dX7_waysWith_10 (by decide) (fun c2 => ?_) (fun c2 => ?_)
  · have hf := if_t c2 hf
    exact t_X7_waysWith_30 (fu := fu) hM hml hr hlk hc0 hf _ _ hW _ (lv_sub hl [0, 1, 3] rfl)
  · have hf := if_f c2 hf
    refine lv_iload_n hx hb dX7_waysWith_13 rfl (lv_at hl 1 rfl) ?_
    refine k_units hM hW (wgm fk_RX7_63) dX7_waysWith_14 ?_
    refine lv_iload_n hx hb dX7_waysWith_17 rfl (lv_at hl 3 rfl) ?_
    obtain ⟨h3, hf⟩ := ck_elim hf
    refine k_iun hM hW h3 dX7_waysWith_18 ?_
    refine lv_topi (fun y4 ey4 => ?_)
    have hf := nm_at ey4 hf
    obtain ⟨h5, hf⟩ := ck_elim hf
    refine lv_idiv hx hb dX7_waysWith_19 (of_decide_eq_true h5) ?_
    refine lv_iconst (v := (3 : Int32)) hx hb dX7_waysWith_20 (by decide) ?_
    refine lv_irem hx hb dX7_waysWith_21 (by decide) ?_
    refine lv_iconst (v := (2 : Int32)) hx hb dX7_waysWith_22 (by decide) ?_
    refine lv_icmp_ge (tgt := 30) hx hb dX7_waysWith_23 (by decide) (fun c6 => ?_) (fun c6 => ?_)
    · have hf := if_t c6 hf
      exact t_X7_waysWith_30 (fu := fu) hM hml hr hlk hc0 hf _ _ hW _ (lv_sub hl [0, 1, 3] rfl)
    · have hf := if_f c6 hf
      refine lv_iconst (v := (1 : Int32)) hx hb dX7_waysWith_26 (by decide) ?_
      refine lv_goto (tgt := 31) hx hb dX7_waysWith_27 (by decide) ?_
      exact t_X7_waysWith_31 (fu := fu) hM hml hr hlk hc0 hf _ _ hW _ (lv_sub hl [0, 1, 3] rfl)
noncomputable def f_X7_waysWith (fu : Nat) (v : GV) (x1 : Int32) (x2 : Int32) (x3 : Int32) : Option (Int32) := f_X7_waysWith_0 fu v x1 x2 x3
set_option maxHeartbeats 4000000 in
set_option maxRecDepth 100000 in
theorem c_X7_waysWith (l : Launch) (G : GG) (fu : Nat) (S : ST) (a : Nat) (v : GV) (x1 : Int32) (x2 : Int32) (x3 : Int32) {z : Int32} (hc : gC v = 7) (hf : f_X7_waysWith fu v x1 x2 x3 = some z) : Ct l yX7_waysWith w_X7_waysWith RM_X7_waysWith G (st S a v) [.ref a, .int x1, .int x2, .int x3] (some (.int z)) (st S a v) 0 0 := by
  refine Met.ofW (cc := cX7_waysWith) (maxL := 5) (ret := (some .int)) (by decide) rfl ?_
  intro p e s m args below meth c s₁ B hml hv
  obtain ⟨rfl, hB, hK, hz⟩ := hv
  have hM : MC G p s m _ c cX7_waysWith w_X7_waysWith RX7 := ⟨B.exec, B.bytes, findClass_of_methodNamed B.named, atoms_spec (ws := w_X7_waysWith) B.pre, hK, hz⟩
  have hW : WB G (st S a v) s s.heap [] := ⟨hB, va_S.rf⟩
  have hl := lv_entry ([.ref a, .int x1, .int x2, .int x3]) (n := 5) (Nat.le_of_ble_eq_true rfl)
  rw [lg_entry_eq]
  generalize (lg_sl ([.ref a, .int x1, .int x2, .int x3]) ++ List.replicate (5 - (lg_sl ([.ref a, .int x1, .int x2, .int x3])).length) Slot.unset).toArray = ls at hl ⊢
  have hl : lv_has ls 5 [(0, .ref a), (1, .int x1), (2, .int x2), (3, .int x3)] := hl
  exact t_X7_waysWith_0 (fu := fu) hM hml B.returns B.notSynchronized hc hf _ _ hW _ (lv_sub hl [0, 1, 2, 3] rfl)
