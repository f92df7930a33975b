abbrev w_X13_readCopy : List Cond := Cond.code yX13_readCopy cX13_readCopy 3 none :: wsL_law0
abbrev RM_X13_readCopy : Room := { frames := 5, cells := 0, slots := 0, locals := 112 }
noncomputable def f_X13_readCopy_0 (fu : Nat)  (v : GV) : Option (GV) :=
  nm ((gA v 10 (73 : Int32).toNatClampNeg)) fun y1 =>
  if y1 = (8 : Int32) then
    (bd (f_X13_wrong fu v (5 : Int32)) fun v29 =>
    some v29)
  else
    (nm (sI v 7 ((gI v 7) + (1 : Int32))) fun v3 =>
    nm (((100 : Int32) + ((4 : Int32) * y1))) fun y4 =>
    bd2 (f_X13_takeAfter fu v3 (6 : Int32) (0 : Int32) (y1 - (1 : Int32))) fun r5 v6 =>
    ck (inb y4 140) <|
    nm (sA v6 10 y4.toNatClampNeg r5) fun v8 =>
    bd (f_X13_takeWord fu v8 (7 : Int32)) fun v10 =>
    bd2 (f_X13_readSpots fu v10 (3 : Int32)) fun r11 v12 =>
    ck (inb (y4 + (1 : Int32)) 140) <|
    nm (sA v12 10 (y4 + (1 : Int32)).toNatClampNeg r11) fun v14 =>
    nm ((y4 + (1 : Int32))) fun y15 =>
    ck (inb y15 140) <|
    bd (f_X13_firstOf fu (gA v14 10 y15.toNatClampNeg)) fun r17 =>
    ck (inb (y4 + (2 : Int32)) 140) <|
    nm (sA v14 10 (y4 + (2 : Int32)).toNatClampNeg r17) fun v19 =>
    bd (f_X13_takeWord fu v19 (8 : Int32)) fun v21 =>
    bd2 (f_X13_takeTold fu v21 (1 : Int32) (20 : Int32)) fun r22 v23 =>
    ck (inb (y4 + (3 : Int32)) 140) <|
    nm (sA v23 10 (y4 + (3 : Int32)).toNatClampNeg r22) fun v25 =>
    nm (((gA v25 10 (73 : Int32).toNatClampNeg) + (1 : Int32))) fun y26 =>
    nm (sA v25 10 (73 : Int32).toNatClampNeg y26) fun v27 =>
    some v27)
set_option maxHeartbeats 4000000 in
set_option maxRecDepth 100000 in
theorem t_X13_readCopy_0 {G : GG} {p : Program} {l : Launch} {e : Env} {s : State} {m : MethodId} {args : Array Value} {below : List Frame} {meth : Method} {c : Code} {S : ST} {fu : Nat} {z : GV} {a : Nat} {v0 : GV}  {v : GV} (hM : MC G p s m args c cX13_readCopy w_X13_readCopy RX13) (hml : c.maxLocals = 3) (hr : meth.sig.returnType = none) (hlk : meth.locks = false) (hc0 : gC v0 = 12)  (hf : f_X13_readCopy_0 fu  v  = some z) : gC v = 12 → ∀ (H : Heap) (locs : List Loc), WB G (st S a v) s H locs → ∀ (ls : Array Slot), lv_has ls 3 [(0, .ref a)] → W p l e RM_X13_readCopy s m args below meth c H locs 0 0 (QR G below args s none (st S a v0) (st S a z)) (F0 m 0 ls []) := by
  intro hc H locs hW ls hl
  have hx := hM.1
  have hb := hM.2.1
  refine lv_aload_n hx hb dX13_readCopy_0 rfl (lv_at hl 0 rfl) ?_
  refine b_get hM hW 11 10 hc rfl rfl (by decide) wi_X13 (wgm fk_RX13_95) (x := .ref (a + 6)) rfl dX13_readCopy_1 ?_
  refine lv_bipush (v := (73 : Int32)) hx hb dX13_readCopy_4 (by decide) ?_
  refine b_iald (n := 140) hM hW 11 10 hc (by decide) rfl rfl rfl rfl (by decide) dX13_readCopy_6 ?_
  refine lv_topi (fun y1 ey1 => ?_)
  have hf := nm_at ey1 hf
  refine lv_istore_n (lv' := [(1, .int y1), (0, .ref a)]) hx hb dX13_readCopy_7 rfl hl (by decide) rfl (fun ls hl => ?_)
  refine lv_iload_n hx hb dX13_readCopy_8 rfl (lv_at hl 0 rfl) ?_
  refine lv_bipush (v := (8 : Int32)) hx hb dX13_readCopy_9 (by decide) ?_
  refine lv_icmp_ne (tgt := 20) hx hb dX13_readCopy_11 (by decide) (fun c2 => ?_) (fun c2 => ?_)
  · have hf := if_f c2 hf
    refine lv_aload_n hx hb dX13_readCopy_20 rfl (lv_at hl 1 rfl) ?_
    refine lv_dup hx hb dX13_readCopy_21 rfl ?_
    refine b_get hM hW 11 7 hc rfl rfl (by decide) wi_X13 (wgm fk_RX13_189) (x := .int (gI v 7)) rfl dX13_readCopy_22 ?_
    refine lv_iconst (v := (1 : Int32)) hx hb dX13_readCopy_25 (by decide) ?_
    refine lv_iadd hx hb dX13_readCopy_26 ?_
    refine b_putI hM hW 11 7 hc rfl rfl (by decide) wi_X13 tyX13 tyX13_ok nmX13 (wgm fk_RX13_189) rfl rfl rfl dX13_readCopy_27 (fun v3 ev3 hc H locs hW => ?_)
    have hf := nm_at ev3 hf
    refine lv_bipush (v := (100 : Int32)) hx hb dX13_readCopy_30 (by decide) ?_
    refine lv_iconst (v := (4 : Int32)) hx hb dX13_readCopy_32 (by decide) ?_
    refine lv_iload_n hx hb dX13_readCopy_33 rfl (lv_at hl 0 rfl) ?_
    refine lv_imul hx hb dX13_readCopy_34 ?_
    refine lv_iadd hx hb dX13_readCopy_35 ?_
    refine lv_topi (fun y4 ey4 => ?_)
    have hf := nm_at ey4 hf
    refine lv_istore_n (lv' := [(2, .int y4), (1, .int y1), (0, .ref a)]) hx hb dX13_readCopy_36 rfl hl (by decide) rfl (fun ls hl => ?_)
    refine lv_aload_n hx hb dX13_readCopy_37 rfl (lv_at hl 2 rfl) ?_
    refine b_get hM hW 11 10 hc rfl rfl (by decide) wi_X13 (wgm fk_RX13_95) (x := .ref (a + 6)) rfl dX13_readCopy_38 ?_
    refine lv_iload_n hx hb dX13_readCopy_41 rfl (lv_at hl 0 rfl) ?_
    refine lv_aload_n hx hb dX13_readCopy_42 rfl (lv_at hl 2 rfl) ?_
    refine lv_bipush (v := (6 : Int32)) hx hb dX13_readCopy_43 (by decide) ?_
    refine lv_iconst (v := (0 : Int32)) hx hb dX13_readCopy_45 (by decide) ?_
    refine lv_iload_n hx hb dX13_readCopy_46 rfl (lv_at hl 1 rfl) ?_
    refine lv_iconst (v := (1 : Int32)) hx hb dX13_readCopy_47 (by decide) ?_
    refine lv_isub hx hb dX13_readCopy_48 ?_
    obtain ⟨r5, v6, hr5, hf⟩ := bd2_elim hf
    refine b_callVi [.int (6 : Int32), .int (0 : Int32), .int (y1 - (1 : Int32))] [.int y4, .ref (a + 6)] hM hml hl.1 hW hc rfl (by decide) (c_X13_takeAfter l G fu _ a v3 _ _ _ hc hr5) (cwV 3 hM.2.2.2.1 (gV mk_RX13_272 im_X13_takeAfter se_X13_takeAfter it_RX13 cd_X13_takeAfter) rfl rfl rfl (by decide +kernel) ⟨Nat.le_of_ble_eq_true rfl, Nat.le_of_ble_eq_true rfl⟩) rfl rfl (Nat.le_of_ble_eq_true rfl) ⟨Nat.zero_le _, Nat.zero_le _⟩ dX13_readCopy_49 (fun H locs hW hk => ?_)
    have hc := keep_at hc hk
    obtain ⟨h7, hf⟩ := ck_elim hf
    refine b_iast (n := 140) hM hW 11 10 hc (by decide) rfl rfl rfl rfl h7 dX13_readCopy_52 (fun v8 ev8 hc H locs hW => ?_)
    have hf := nm_at ev8 hf
    refine lv_aload_n hx hb dX13_readCopy_53 rfl (lv_at hl 2 rfl) ?_
    refine lv_bipush (v := (7 : Int32)) hx hb dX13_readCopy_54 (by decide) ?_
    obtain ⟨v10, hr9, hf⟩ := bd_elim hf
    refine b_callVv [.int (7 : Int32)] [] hM hml hl.1 hW hc rfl (by decide) (c_X13_takeWord l G fu _ a v8 _ hc hr9) (cwV 1 hM.2.2.2.1 (gV mk_RX13_207 im_X13_takeWord se_X13_takeWord it_RX13 cd_X13_takeWord) rfl rfl rfl (by decide +kernel) ⟨Nat.le_of_ble_eq_true rfl, Nat.le_of_ble_eq_true rfl⟩) rfl rfl (Nat.le_of_ble_eq_true rfl) ⟨Nat.zero_le _, Nat.zero_le _⟩ dX13_readCopy_56 (fun H locs hW hk => ?_)
    have hc := keep_at hc hk
    refine lv_aload_n hx hb dX13_readCopy_59 rfl (lv_at hl 2 rfl) ?_
    refine b_get hM hW 11 10 hc rfl rfl (by decide) wi_X13 (wgm fk_RX13_95) (x := .ref (a + 6)) rfl dX13_readCopy_60 ?_
    refine lv_iload_n hx hb dX13_readCopy_63 rfl (lv_at hl 0 rfl) ?_
    refine lv_iconst (v := (1 : Int32)) hx hb dX13_readCopy_64 (by decide) ?_
    refine lv_iadd hx hb dX13_readCopy_65 ?_
    refine lv_aload_n hx hb dX13_readCopy_66 rfl (lv_at hl 2 rfl) ?_
    refine lv_iconst (v := (3 : Int32)) hx hb dX13_readCopy_67 (by decide) ?_
    obtain ⟨r11, v12, hr11, hf⟩ := bd2_elim hf
    refine b_callVi [.int (3 : Int32)] [.int (y4 + (1 : Int32)), .ref (a + 6)] hM hml hl.1 hW hc rfl (by decide) (c_X13_readSpots l G fu _ a v10 _ hc hr11) (cwV 1 hM.2.2.2.1 (gV mk_RX13_280 im_X13_readSpots se_X13_readSpots it_RX13 cd_X13_readSpots) rfl rfl rfl (by decide +kernel) ⟨Nat.le_of_ble_eq_true rfl, Nat.le_of_ble_eq_true rfl⟩) rfl rfl (Nat.le_of_ble_eq_true rfl) ⟨Nat.zero_le _, Nat.zero_le _⟩ dX13_readCopy_68 (fun H locs hW hk => ?_)
    have hc := keep_at hc hk
    obtain ⟨h13, hf⟩ := ck_elim hf
    refine b_iast (n := 140) hM hW 11 10 hc (by decide) rfl rfl rfl rfl h13 dX13_readCopy_71 (fun v14 ev14 hc H locs hW => ?_)
    have hf := nm_at ev14 hf
    refine lv_aload_n hx hb dX13_readCopy_72 rfl (lv_at hl 2 rfl) ?_
    refine b_get hM hW 11 10 hc rfl rfl (by decide) wi_X13 (wgm fk_RX13_95) (x := .ref (a + 6)) rfl dX13_readCopy_73 ?_
    refine lv_iload_n hx hb dX13_readCopy_76 rfl (lv_at hl 0 rfl) ?_
    refine lv_iconst (v := (2 : Int32)) hx hb dX13_readCopy_77 (by decide) ?_
    refine lv_iadd hx hb dX13_readCopy_78 ?_
    refine lv_aload_n hx hb dX13_readCopy_79 rfl (lv_at hl 2 rfl) ?_
    refine b_get hM hW 11 10 hc rfl rfl (by decide) wi_X13 (wgm fk_RX13_95) (x := .ref (a + 6)) rfl dX13_readCopy_80 ?_
    refine lv_iload_n hx hb dX13_readCopy_83 rfl (lv_at hl 0 rfl) ?_
    refine lv_iconst (v := (1 : Int32)) hx hb dX13_readCopy_84 (by decide) ?_
    refine lv_iadd hx hb dX13_readCopy_85 ?_
    refine lv_topi (fun y15 ey15 => ?_)
    have hf := nm_at ey15 hf
    obtain ⟨h16, hf⟩ := ck_elim hf
    refine b_iald (n := 140) hM hW 11 10 hc (by decide) rfl rfl rfl rfl h16 dX13_readCopy_86 ?_
    obtain ⟨r17, hr17, hf⟩ := bd_elim hf
    refine b_callSi [.int (gA v14 10 y15.toNatClampNeg)] [.int (y4 + (2 : Int32)), .ref (a + 6)] hM hml hl.1 hW (c_X13_firstOf l G fu _ _ hr17) (va_cwS 1 hM.2.2.2.1 (gS mk_RX13_283 sm_X13_firstOf it_RX13 cd_X13_firstOf) rfl rfl rfl (by decide +kernel) ⟨Nat.le_of_ble_eq_true rfl, Nat.le_of_ble_eq_true rfl⟩) rfl rfl (Nat.le_of_ble_eq_true rfl) ⟨Nat.zero_le _, Nat.zero_le _⟩ dX13_readCopy_87 (fun H locs hW hk => ?_)
    obtain ⟨h18, hf⟩ := ck_elim hf
    refine b_iast (n := 140) hM hW 11 10 hc (by decide) rfl rfl rfl rfl h18 dX13_readCopy_90 (fun v19 ev19 hc H locs hW => ?_)
    have hf := nm_at ev19 hf
    refine lv_aload_n hx hb dX13_readCopy_91 rfl (lv_at hl 2 rfl) ?_
    refine lv_bipush (v := (8 : Int32)) hx hb dX13_readCopy_92 (by decide) ?_
    obtain ⟨v21, hr20, hf⟩ := bd_elim hf
    refine b_callVv [.int (8 : Int32)] [] hM hml hl.1 hW hc rfl (by decide) (c_X13_takeWord l G fu _ a v19 _ hc hr20) (cwV 1 hM.2.2.2.1 (gV mk_RX13_207 im_X13_takeWord se_X13_takeWord it_RX13 cd_X13_takeWord) rfl rfl rfl (by decide +kernel) ⟨Nat.le_of_ble_eq_true rfl, Nat.le_of_ble_eq_true rfl⟩) rfl rfl (Nat.le_of_ble_eq_true rfl) ⟨Nat.zero_le _, Nat.zero_le _⟩ dX13_readCopy_94 (fun H locs hW hk => ?_)
    have hc := keep_at hc hk
    refine lv_aload_n hx hb dX13_readCopy_97 rfl (lv_at hl 2 rfl) ?_
    refine b_get hM hW 11 10 hc rfl rfl (by decide) wi_X13 (wgm fk_RX13_95) (x := .ref (a + 6)) rfl dX13_readCopy_98 ?_
    refine lv_iload_n hx hb dX13_readCopy_101 rfl (lv_at hl 0 rfl) ?_
    refine lv_iconst (v := (3 : Int32)) hx hb dX13_readCopy_102 (by decide) ?_
    refine lv_iadd hx hb dX13_readCopy_103 ?_
    refine lv_aload_n hx hb dX13_readCopy_104 rfl (lv_at hl 2 rfl) ?_
    refine lv_iconst (v := (1 : Int32)) hx hb dX13_readCopy_105 (by decide) ?_
    refine lv_bipush (v := (20 : Int32)) hx hb dX13_readCopy_106 (by decide) ?_
    obtain ⟨r22, v23, hr22, hf⟩ := bd2_elim hf
    refine b_callVi [.int (1 : Int32), .int (20 : Int32)] [.int (y4 + (3 : Int32)), .ref (a + 6)] hM hml hl.1 hW hc rfl (by decide) (c_X13_takeTold l G fu _ a v21 _ _ hc hr22) (cwV 2 hM.2.2.2.1 (gV mk_RX13_286 im_X13_takeTold se_X13_takeTold it_RX13 cd_X13_takeTold) rfl rfl rfl (by decide +kernel) ⟨Nat.le_of_ble_eq_true rfl, Nat.le_of_ble_eq_true rfl⟩) rfl rfl (Nat.le_of_ble_eq_true rfl) ⟨Nat.zero_le _, Nat.zero_le _⟩ dX13_readCopy_108 (fun H locs hW hk => ?_)
    have hc := keep_at hc hk
    obtain ⟨h24, hf⟩ := ck_elim hf
    refine b_iast (n := 140) hM hW 11 10 hc (by decide) rfl rfl rfl rfl h24 dX13_readCopy_111 (fun v25 ev25 hc H locs hW => ?_)
    have hf := nm_at ev25 hf
    refine lv_aload_n hx hb dX13_readCopy_112 rfl (lv_at hl 2 rfl) ?_
    refine b_get hM hW 11 10 hc rfl rfl (by decide) wi_X13 (wgm fk_RX13_95) (x := .ref (a + 6)) rfl dX13_readCopy_113 ?_
    refine lv_bipush (v := (73 : Int32)) hx hb dX13_readCopy_116 (by decide) ?_
    refine lv_dup2_11 hx hb dX13_readCopy_118 rfl rfl ?_
    refine b_iald (n := 140) hM hW 11 10 hc (by decide) rfl rfl rfl rfl (by decide) dX13_readCopy_119 ?_
    refine lv_iconst (v := (1 : Int32)) hx hb dX13_readCopy_120 (by decide) ?_
    refine lv_iadd hx hb dX13_readCopy_121 ?_
    refine lv_topi (fun y26 ey26 => ?_)
    have hf := nm_at ey26 hf
    refine b_iast (n := 140) hM hW 11 10 hc (by decide) rfl rfl rfl rfl (by decide) dX13_readCopy_122 (fun v27 ev27 hc H locs hW => ?_)
    have hf := nm_at ev27 hf
    cases hf
    exact W.vret hx hb hr (b_ret0 hW (keep_s2 hc0 hc) _) hW.2.2.2 dX13_readCopy_123 hlk
  · have hf := if_t c2 hf
    refine lv_aload_n hx hb dX13_readCopy_14 rfl (lv_at hl 1 rfl) ?_
    refine lv_iconst (v := (5 : Int32)) hx hb dX13_readCopy_15 (by decide) ?_
    obtain ⟨v29, hr28, hf⟩ := bd_elim hf
    refine b_callVv [.int (5 : Int32)] [] hM hml hl.1 hW hc rfl (by decide) (c_X13_wrong l G fu _ a v _ hc hr28) (cwV 1 hM.2.2.2.1 (gV mk_RX13_198 im_X13_wrong se_X13_wrong it_RX13 cd_X13_wrong) rfl rfl rfl (by decide +kernel) ⟨Nat.le_of_ble_eq_true rfl, Nat.le_of_ble_eq_true rfl⟩) rfl rfl (Nat.le_of_ble_eq_true rfl) ⟨Nat.zero_le _, Nat.zero_le _⟩ dX13_readCopy_16 (fun H locs hW hk => ?_)
    have hc := keep_at hc hk
    cases hf
    exact W.vret hx hb hr (b_ret0 hW (keep_s2 hc0 hc) _) hW.2.2.2 dX13_readCopy_19 hlk
noncomputable def f_X13_readCopy (fu : Nat) (v : GV) : Option (GV) := f_X13_readCopy_0 fu v
set_option maxHeartbeats 4000000 in
set_option maxRecDepth 100000 in
theorem c_X13_readCopy (l : Launch) (G : GG) (fu : Nat) (S : ST) (a : Nat) (v : GV) {z : GV} (hc : gC v = 12) (hf : f_X13_readCopy fu v = some z) : Ct l yX13_readCopy w_X13_readCopy RM_X13_readCopy G (st S a v) [.ref a] none (st S a z) 0 0 := by
  refine Met.ofW (cc := cX13_readCopy) (maxL := 3) (ret := none) (by decide) rfl ?_
  intro p e s m args below meth c s₁ B hml hv
  obtain ⟨rfl, hB, hK, hz⟩ := hv
  have hM : MC G p s m _ c cX13_readCopy w_X13_readCopy RX13 := ⟨B.exec, B.bytes, findClass_of_methodNamed B.named, atoms_spec (ws := w_X13_readCopy) B.pre, hK, hz⟩
  have hW : WB G (st S a v) s s.heap [] := ⟨hB, va_S.rf⟩
  have hl := lv_entry ([.ref a]) (n := 3) (Nat.le_of_ble_eq_true rfl)
  rw [lg_entry_eq]
  generalize (lg_sl ([.ref a]) ++ List.replicate (3 - (lg_sl ([.ref a])).length) Slot.unset).toArray = ls at hl ⊢
  have hl : lv_has ls 3 [(0, .ref a)] := hl
  exact t_X13_readCopy_0 hM hml B.returns B.notSynchronized hc hf hc _ _ hW _ (lv_sub hl [0] rfl)
abbrev w_X13_readExpert : List Cond := Cond.code yX13_readExpert cX13_readExpert 2 none :: wsL_law0
abbrev RM_X13_readExpert : Room := { frames := 5, cells := 0, slots := 0, locals := 112 }
noncomputable def f_X13_readExpert_0 (fu : Nat)  (v : GV) : Option (GV) :=
  nm ((gA v 10 (72 : Int32).toNatClampNeg)) fun y1 =>
  if y1 = (4 : Int32) then
    (bd (f_X13_wrong fu v (5 : Int32)) fun v14 =>
    some v14)
  else
    (bd (f_X13_readName fu v (40 : Int32)) fun v4 =>
    bd (f_X13_takeWord fu v4 (10 : Int32)) fun v6 =>
    bd2 (f_X13_readSpots fu v6 (4 : Int32)) fun r7 v8 =>
    ck (inb ((96 : Int32) + y1) 140) <|
    nm (sA v8 10 ((96 : Int32) + y1).toNatClampNeg r7) fun v10 =>
    nm (((gA v10 10 (72 : Int32).toNatClampNeg) + (1 : Int32))) fun y11 =>
    nm (sA v10 10 (72 : Int32).toNatClampNeg y11) fun v12 =>
    some v12)
set_option maxHeartbeats 4000000 in
set_option maxRecDepth 100000 in
theorem t_X13_readExpert_0 {G : GG} {p : Program} {l : Launch} {e : Env} {s : State} {m : MethodId} {args : Array Value} {below : List Frame} {meth : Method} {c : Code} {S : ST} {fu : Nat} {z : GV} {a : Nat} {v0 : GV}  {v : GV} (hM : MC G p s m args c cX13_readExpert w_X13_readExpert RX13) (hml : c.maxLocals = 2) (hr : meth.sig.returnType = none) (hlk : meth.locks = false) (hc0 : gC v0 = 12)  (hf : f_X13_readExpert_0 fu  v  = some z) : gC v = 12 → ∀ (H : Heap) (locs : List Loc), WB G (st S a v) s H locs → ∀ (ls : Array Slot), lv_has ls 2 [(0, .ref a)] → W p l e RM_X13_readExpert s m args below meth c H locs 0 0 (QR G below args s none (st S a v0) (st S a z)) (F0 m 0 ls []) := by
  intro hc H locs hW ls hl
  have hx := hM.1
  have hb := hM.2.1
  refine lv_aload_n hx hb dX13_readExpert_0 rfl (lv_at hl 0 rfl) ?_
  refine b_get hM hW 11 10 hc rfl rfl (by decide) wi_X13 (wgm fk_RX13_95) (x := .ref (a + 6)) rfl dX13_readExpert_1 ?_
  refine lv_bipush (v := (72 : Int32)) hx hb dX13_readExpert_4 (by decide) ?_
  refine b_iald (n := 140) hM hW 11 10 hc (by decide) rfl rfl rfl rfl (by decide) dX13_readExpert_6 ?_
  refine lv_topi (fun y1 ey1 => ?_)
  have hf := nm_at ey1 hf
  refine lv_istore_n (lv' := [(1, .int y1), (0, .ref a)]) hx hb dX13_readExpert_7 rfl hl (by decide) rfl (fun ls hl => ?_)
  refine lv_iload_n hx hb dX13_readExpert_8 rfl (lv_at hl 0 rfl) ?_
  refine lv_iconst (v := (4 : Int32)) hx hb dX13_readExpert_9 (by decide) ?_
  refine lv_icmp_ne (tgt := 19) hx hb dX13_readExpert_10 (by decide) (fun c2 => ?_) (fun c2 => ?_)
  · have hf := if_f c2 hf
    refine lv_aload_n hx hb dX13_readExpert_19 rfl (lv_at hl 1 rfl) ?_
    refine lv_bipush (v := (40 : Int32)) hx hb dX13_readExpert_20 (by decide) ?_
    obtain ⟨v4, hr3, hf⟩ := bd_elim hf
    refine b_callVv [.int (40 : Int32)] [] hM hml hl.1 hW hc rfl (by decide) (c_X13_readName l G fu _ a v _ hc hr3) (cwV 1 hM.2.2.2.1 (gV mk_RX13_266 im_X13_readName se_X13_readName it_RX13 cd_X13_readName) rfl rfl rfl (by decide +kernel) ⟨Nat.le_of_ble_eq_true rfl, Nat.le_of_ble_eq_true rfl⟩) rfl rfl (Nat.le_of_ble_eq_true rfl) ⟨Nat.zero_le _, Nat.zero_le _⟩ dX13_readExpert_22 (fun H locs hW hk => ?_)
    have hc := keep_at hc hk
    refine lv_aload_n hx hb dX13_readExpert_25 rfl (lv_at hl 1 rfl) ?_
    refine lv_bipush (v := (10 : Int32)) hx hb dX13_readExpert_26 (by decide) ?_
    obtain ⟨v6, hr5, hf⟩ := bd_elim hf
    refine b_callVv [.int (10 : Int32)] [] hM hml hl.1 hW hc rfl (by decide) (c_X13_takeWord l G fu _ a v4 _ hc hr5) (cwV 1 hM.2.2.2.1 (gV mk_RX13_207 im_X13_takeWord se_X13_takeWord it_RX13 cd_X13_takeWord) rfl rfl rfl (by decide +kernel) ⟨Nat.le_of_ble_eq_true rfl, Nat.le_of_ble_eq_true rfl⟩) rfl rfl (Nat.le_of_ble_eq_true rfl) ⟨Nat.zero_le _, Nat.zero_le _⟩ dX13_readExpert_28 (fun H locs hW hk => ?_)
    have hc := keep_at hc hk
    refine lv_aload_n hx hb dX13_readExpert_31 rfl (lv_at hl 1 rfl) ?_
    refine b_get hM hW 11 10 hc rfl rfl (by decide) wi_X13 (wgm fk_RX13_95) (x := .ref (a + 6)) rfl dX13_readExpert_32 ?_
    refine lv_bipush (v := (96 : Int32)) hx hb dX13_readExpert_35 (by decide) ?_
    refine lv_iload_n hx hb dX13_readExpert_37 rfl (lv_at hl 0 rfl) ?_
    refine lv_iadd hx hb dX13_readExpert_38 ?_
    refine lv_aload_n hx hb dX13_readExpert_39 rfl (lv_at hl 1 rfl) ?_
    refine lv_iconst (v := (4 : Int32)) hx hb dX13_readExpert_40 (by decide) ?_
    obtain ⟨r7, v8, hr7, hf⟩ := bd2_elim hf
    refine b_callVi [.int (4 : Int32)] [.int ((96 : Int32) + y1), .ref (a + 6)] hM hml hl.1 hW hc rfl (by decide) (c_X13_readSpots l G fu _ a v6 _ hc hr7) (cwV 1 hM.2.2.2.1 (gV mk_RX13_280 im_X13_readSpots se_X13_readSpots it_RX13 cd_X13_readSpots) rfl rfl rfl (by decide +kernel) ⟨Nat.le_of_ble_eq_true rfl, Nat.le_of_ble_eq_true rfl⟩) rfl rfl (Nat.le_of_ble_eq_true rfl) ⟨Nat.zero_le _, Nat.zero_le _⟩ dX13_readExpert_41 (fun H locs hW hk => ?_)
    have hc := keep_at hc hk
    obtain ⟨h9, hf⟩ := ck_elim hf
    refine b_iast (n := 140) hM hW 11 10 hc (by decide) rfl rfl rfl rfl h9 dX13_readExpert_44 (fun v10 ev10 hc H locs hW => ?_)
    have hf := nm_at ev10 hf
    refine lv_aload_n hx hb dX13_readExpert_45 rfl (lv_at hl 1 rfl) ?_
    refine b_get hM hW 11 10 hc rfl rfl (by decide) wi_X13 (wgm fk_RX13_95) (x := .ref (a + 6)) rfl dX13_readExpert_46 ?_
    refine lv_bipush (v := (72 : Int32)) hx hb dX13_readExpert_49 (by decide) ?_
    refine lv_dup2_11 hx hb dX13_readExpert_51 rfl rfl ?_
    refine b_iald (n := 140) hM hW 11 10 hc (by decide) rfl rfl rfl rfl (by decide) dX13_readExpert_52 ?_
    refine lv_iconst (v := (1 : Int32)) hx hb dX13_readExpert_53 (by decide) ?_
    refine lv_iadd hx hb dX13_readExpert_54 ?_
    refine lv_topi (fun y11 ey11 => ?_)
    have hf := nm_at ey11 hf
    refine b_iast (n := 140) hM hW 11 10 hc (by decide) rfl rfl rfl rfl (by decide) dX13_readExpert_55 (fun v12 ev12 hc H locs hW => ?_)
    have hf := nm_at ev12 hf
    cases hf
    exact W.vret hx hb hr (b_ret0 hW (keep_s2 hc0 hc) _) hW.2.2.2 dX13_readExpert_56 hlk
  · have hf := if_t c2 hf
    refine lv_aload_n hx hb dX13_readExpert_13 rfl (lv_at hl 1 rfl) ?_
    refine lv_iconst (v := (5 : Int32)) hx hb dX13_readExpert_14 (by decide) ?_
    obtain ⟨v14, hr13, hf⟩ := bd_elim hf
    refine b_callVv [.int (5 : Int32)] [] hM hml hl.1 hW hc rfl (by decide) (c_X13_wrong l G fu _ a v _ hc hr13) (cwV 1 hM.2.2.2.1 (gV mk_RX13_198 im_X13_wrong se_X13_wrong it_RX13 cd_X13_wrong) rfl rfl rfl (by decide +kernel) ⟨Nat.le_of_ble_eq_true rfl, Nat.le_of_ble_eq_true rfl⟩) rfl rfl (Nat.le_of_ble_eq_true rfl) ⟨Nat.zero_le _, Nat.zero_le _⟩ dX13_readExpert_15 (fun H locs hW hk => ?_)
    have hc := keep_at hc hk
    cases hf
    exact W.vret hx hb hr (b_ret0 hW (keep_s2 hc0 hc) _) hW.2.2.2 dX13_readExpert_18 hlk
noncomputable def f_X13_readExpert (fu : Nat) (v : GV) : Option (GV) := f_X13_readExpert_0 fu v
set_option maxHeartbeats 4000000 in
set_option maxRecDepth 100000 in
theorem c_X13_readExpert (l : Launch) (G : GG) (fu : Nat) (S : ST) (a : Nat) (v : GV) {z : GV} (hc : gC v = 12) (hf : f_X13_readExpert fu v = some z) : Ct l yX13_readExpert w_X13_readExpert RM_X13_readExpert G (st S a v) [.ref a] none (st S a z) 0 0 := by
  refine Met.ofW (cc := cX13_readExpert) (maxL := 2) (ret := none) (by decide) rfl ?_
  intro p e s m args below meth c s₁ B hml hv
  obtain ⟨rfl, hB, hK, hz⟩ := hv
  have hM : MC G p s m _ c cX13_readExpert w_X13_readExpert RX13 := ⟨B.exec, B.bytes, findClass_of_methodNamed B.named, atoms_spec (ws := w_X13_readExpert) B.pre, hK, hz⟩
  have hW : WB G (st S a v) s s.heap [] := ⟨hB, va_S.rf⟩
  have hl := lv_entry ([.ref a]) (n := 2) (Nat.le_of_ble_eq_true rfl)
  rw [lg_entry_eq]
  generalize (lg_sl ([.ref a]) ++ List.replicate (2 - (lg_sl ([.ref a])).length) Slot.unset).toArray = ls at hl ⊢
  have hl : lv_has ls 2 [(0, .ref a)] := hl
  exact t_X13_readExpert_0 hM hml B.returns B.notSynchronized hc hf hc _ _ hW _ (lv_sub hl [0] rfl)
abbrev w_X13_emit : List Cond := Cond.code yX13_emit cX13_emit 3 none :: wsL_law0
abbrev RM_X13_emit : Room := { frames := 0, cells := 0, slots := 0, locals := 0 }
noncomputable def f_X13_emit_0 (fu : Nat)  (v : GV) (x1 : Int32) (x2 : Int32) : Option (GV) :=
  ck (inb ((1100 : Int32) + (gI v 13)) 2200) <|
  nm (sA v 11 ((1100 : Int32) + (gI v 13)).toNatClampNeg x1) fun v2 =>
  ck (inb ((1100 : Int32) + (gI v2 13)) 2200) <|
  nm (sA v2 12 ((1100 : Int32) + (gI v2 13)).toNatClampNeg x2) fun v4 =>
  nm (sI v4 13 ((gI v4 13) + (1 : Int32))) fun v5 =>
  some v5
set_option maxHeartbeats 4000000 in
set_option maxRecDepth 100000 in
theorem t_X13_emit_0 {G : GG} {p : Program} {l : Launch} {e : Env} {s : State} {m : MethodId} {args : Array Value} {below : List Frame} {meth : Method} {c : Code} {S : ST} {fu : Nat} {z : GV} {a : Nat} {v0 : GV}  {v : GV} {x1 : Int32} {x2 : Int32} (hM : MC G p s m args c cX13_emit w_X13_emit RX13) (hml : c.maxLocals = 3) (hr : meth.sig.returnType = none) (hlk : meth.locks = false) (hc0 : gC v0 = 12)  (hf : f_X13_emit_0 fu  v x1 x2 = some z) : gC v = 12 → ∀ (H : Heap) (locs : List Loc), WB G (st S a v) s H locs → ∀ (ls : Array Slot), lv_has ls 3 [(0, .ref a), (1, .int x1), (2, .int x2)] → W p l e RM_X13_emit s m args below meth c H locs 0 0 (QR G below args s none (st S a v0) (st S a z)) (F0 m 0 ls []) := by
  intro hc H locs hW ls hl
  have hx := hM.1
  have hb := hM.2.1
  refine lv_aload_n hx hb dX13_emit_0 rfl (lv_at hl 0 rfl) ?_
  refine b_get hM hW 11 11 hc rfl rfl (by decide) wi_X13 (wgm fk_RX13_98) (x := .ref (a + 7)) rfl dX13_emit_1 ?_
  refine lv_sipush (v := (1100 : Int32)) hx hb dX13_emit_4 (by decide) ?_
  refine lv_aload_n hx hb dX13_emit_7 rfl (lv_at hl 0 rfl) ?_
  refine b_get hM hW 11 13 hc rfl rfl (by decide) wi_X13 (wgm fk_RX13_242) (x := .int (gI v 13)) rfl dX13_emit_8 ?_
  refine lv_iadd hx hb dX13_emit_11 ?_
  refine lv_iload_n hx hb dX13_emit_12 rfl (lv_at hl 1 rfl) ?_
  obtain ⟨h1, hf⟩ := ck_elim hf
  refine b_iast (n := 2200) hM hW 11 11 hc (by decide) rfl rfl rfl rfl h1 dX13_emit_13 (fun v2 ev2 hc H locs hW => ?_)
  have hf := nm_at ev2 hf
  refine lv_aload_n hx hb dX13_emit_14 rfl (lv_at hl 0 rfl) ?_
  refine b_get hM hW 11 12 hc rfl rfl (by decide) wi_X13 (wgm fk_RX13_101) (x := .ref (a + 8)) rfl dX13_emit_15 ?_
  refine lv_sipush (v := (1100 : Int32)) hx hb dX13_emit_18 (by decide) ?_
  refine lv_aload_n hx hb dX13_emit_21 rfl (lv_at hl 0 rfl) ?_
  refine b_get hM hW 11 13 hc rfl rfl (by decide) wi_X13 (wgm fk_RX13_242) (x := .int (gI v2 13)) rfl dX13_emit_22 ?_
  refine lv_iadd hx hb dX13_emit_25 ?_
  refine lv_iload_n hx hb dX13_emit_26 rfl (lv_at hl 2 rfl) ?_
  obtain ⟨h3, hf⟩ := ck_elim hf
  refine b_iast (n := 2200) hM hW 11 12 hc (by decide) rfl rfl rfl rfl h3 dX13_emit_27 (fun v4 ev4 hc H locs hW => ?_)
  have hf := nm_at ev4 hf
  refine lv_aload_n hx hb dX13_emit_28 rfl (lv_at hl 0 rfl) ?_
  refine lv_dup hx hb dX13_emit_29 rfl ?_
  refine b_get hM hW 11 13 hc rfl rfl (by decide) wi_X13 (wgm fk_RX13_242) (x := .int (gI v4 13)) rfl dX13_emit_30 ?_
  refine lv_iconst (v := (1 : Int32)) hx hb dX13_emit_33 (by decide) ?_
  refine lv_iadd hx hb dX13_emit_34 ?_
  refine b_putI hM hW 11 13 hc rfl rfl (by decide) wi_X13 tyX13 tyX13_ok nmX13 (wgm fk_RX13_242) rfl rfl rfl dX13_emit_35 (fun v5 ev5 hc H locs hW => ?_)
  have hf := nm_at ev5 hf
  cases hf
  exact W.vret hx hb hr (b_ret0 hW (keep_s2 hc0 hc) _) hW.2.2.2 dX13_emit_38 hlk
noncomputable def f_X13_emit (fu : Nat) (v : GV) (x1 : Int32) (x2 : Int32) : Option (GV) := f_X13_emit_0 fu v x1 x2
set_option maxHeartbeats 4000000 in
set_option maxRecDepth 100000 in
theorem c_X13_emit (l : Launch) (G : GG) (fu : Nat) (S : ST) (a : Nat) (v : GV) (x1 : Int32) (x2 : Int32) {z : GV} (hc : gC v = 12) (hf : f_X13_emit fu v x1 x2 = some z) : Ct l yX13_emit w_X13_emit RM_X13_emit G (st S a v) [.ref a, .int x1, .int x2] none (st S a z) 0 0 := by
  refine Met.ofW (cc := cX13_emit) (maxL := 3) (ret := none) (by decide) rfl ?_
  intro p e s m args below meth c s₁ B hml hv
  obtain ⟨rfl, hB, hK, hz⟩ := hv
  have hM : MC G p s m _ c cX13_emit w_X13_emit RX13 := ⟨B.exec, B.bytes, findClass_of_methodNamed B.named, atoms_spec (ws := w_X13_emit) B.pre, hK, hz⟩
  have hW : WB G (st S a v) s s.heap [] := ⟨hB, va_S.rf⟩
  have hl := lv_entry ([.ref a, .int x1, .int x2]) (n := 3) (Nat.le_of_ble_eq_true rfl)
  rw [lg_entry_eq]
  generalize (lg_sl ([.ref a, .int x1, .int x2]) ++ List.replicate (3 - (lg_sl ([.ref a, .int x1, .int x2])).length) Slot.unset).toArray = ls at hl ⊢
  have hl : lv_has ls 3 [(0, .ref a), (1, .int x1), (2, .int x2)] := hl
  exact t_X13_emit_0 hM hml B.returns B.notSynchronized hc hf hc _ _ hW _ (lv_sub hl [0, 1, 2] rfl)
abbrev w_X13_products : List Cond := Cond.code yX13_products cX13_products 2 none :: wsL_law0
abbrev w_X13_takePart : List Cond := Cond.code yX13_takePart cX13_takePart 4 none :: wsL_law0
abbrev RM_X13_takePart (d : Nat) : Room := { frames := 5 * d + 2, cells := 0, slots := 0, locals := 110 * d + 45 }
abbrev RM_X13_products (d : Nat) : Room := { frames := 5 * d + 3, cells := 0, slots := 0, locals := 110 * d + 68 }
abbrev RM_X13_sums (d : Nat) : Room := { frames := 5 * d + 4, cells := 0, slots := 0, locals := 110 * d + 89 }
abbrev RM_X13_test (d : Nat) : Room := { frames := 5 * d + 5, cells := 0, slots := 0, locals := 110 * d + 111 }
abbrev RM_X13_all (d : Nat) : Room := { frames := 5 * d + 6, cells := 0, slots := 0, locals := 110 * d + 133 }
noncomputable def f_X13_products_5s (fu : Nat) (rec : GV → Int32 → Option (GV))  (k5 : GV → Option (GV)) (x1 : Int32) (v : GV) : Option (GV) :=
  bd2 (f_X13_hasSign fu v (42 : Int32)) fun r1 v2 =>
  if r1 = 0 then
    (some v2)
  else
    (bd (rec v2 x1) fun v5 =>
    bd (f_X13_emit fu v5 (6 : Int32) (0 : Int32)) fun v7 =>
    k5 v7)
noncomputable def f_X13_products_5 (fu n : Nat) (rec : GV → Int32 → Option (GV))  (x1 : Int32) : GV → Option (GV) :=
  lq_1 (fun k5 => f_X13_products_5s fu rec  k5 x1) n
set_option maxHeartbeats 4000000 in
set_option maxRecDepth 100000 in
theorem t_X13_products_5s {G : GG} {p : Program} {l : Launch} {e : Env} {s : State} {m : MethodId} {args : Array Value} {below : List Frame} {meth : Method} {c : Code} {S : ST} {fu : Nat} {z : GV} {a : Nat} {v0 : GV} {d : Nat} {rec : GV → Int32 → Option (GV)}  (hM : MC G p s m args c cX13_products w_X13_products RX13) (hml : c.maxLocals = 2) (hr : meth.sig.returnType = none) (hlk : meth.locks = false) (hrec : ∀ (S : ST) (v : GV) (x1 : Int32) (z : GV), gC v = 12 → rec v x1 = some z → Ct l yX13_takePart w_X13_takePart (RM_X13_takePart d) G (st S a v) [.ref a, .int x1] none (st S a z) 0 0) (hc0 : gC v0 = 12) {k5 : GV → Option (GV)} {x1 : Int32}  (hk5 : ∀ (v : GV), k5 v = some z → gC v = 12 → ∀ (H : Heap) (locs : List Loc), WB G (st S a v) s H locs → ∀ (ls : Array Slot), lv_has ls 2 [(0, .ref a), (1, .int x1)] → W p l e (RM_X13_products d) s m args below meth c H locs 0 0 (QR G below args s none (st S a v0) (st S a z)) (F0 m 5 ls [])) : ∀ (v : GV), f_X13_products_5s fu rec  k5 x1 v = some z → gC v = 12 → ∀ (H : Heap) (locs : List Loc), WB G (st S a v) s H locs → ∀ (ls : Array Slot), lv_has ls 2 [(0, .ref a), (1, .int x1)] → W p l e (RM_X13_products d) s m args below meth c H locs 0 0 (QR G below args s none (st S a v0) (st S a z)) (F0 m 5 ls []) := by
  intro v hf hc H locs hW ls hl
  have hx := hM.1
  have hb := hM.2.1
  refine lv_aload_n hx hb dX13_products_5 rfl (lv_at hl 0 rfl) ?_
  refine lv_bipush (v := (42 : Int32)) hx hb dX13_products_6 (by decide) ?_
  obtain ⟨r1, v2, hr1, hf⟩ := bd2_elim hf
  refine b_callVi [.int (42 : Int32)] [] hM hml hl.1 hW hc rfl (by decide) (c_X13_hasSign l G fu _ a v _ hc hr1) (cwV 1 hM.2.2.2.1 (gV mk_RX13_308 im_X13_hasSign se_X13_hasSign it_RX13 cd_X13_hasSign) rfl rfl rfl (by decide +kernel) ⟨by show 1 + 1 ≤ 5 * d + 3; omega, by show 8 + (3 + 11) + 21 ≤ 110 * d + 68; omega⟩) rfl rfl (Nat.le_of_ble_eq_true rfl) ⟨Nat.zero_le _, Nat.zero_le _⟩ dX13_products_8 (fun H locs hW hk => ?_)
  have hc := keep_at hc hk
  refine lv_if_eq (tgt := 29) hx hb dX13_products_11 (by decide) (fun c3 => ?_) (fun c3 => ?_)
  · have hf := if_t c3 hf
    cases hf
    exact W.vret hx hb hr (b_ret0 hW (keep_s2 hc0 hc) _) hW.2.2.2 dX13_products_29 hlk
  · have hf := if_f c3 hf
    refine lv_aload_n hx hb dX13_products_14 rfl (lv_at hl 0 rfl) ?_
    refine lv_iload_n hx hb dX13_products_15 rfl (lv_at hl 1 rfl) ?_
    obtain ⟨v5, hr4, hf⟩ := bd_elim hf
    refine b_callVv [.int x1] [] hM hml hl.1 hW hc rfl (by decide) (hrec _ v2 _ _ hc hr4) (cwV 1 hM.2.2.2.1 (gV mk_RX13_314 im_X13_takePart se_X13_takePart it_RX13 cd_X13_takePart) rfl rfl rfl (by decide +kernel) ⟨by show (5 * d + 2) + 1 ≤ 5 * d + 3; omega, by show 8 + (4 + 11) + (110 * d + 45) ≤ 110 * d + 68; omega⟩) rfl rfl (Nat.le_of_ble_eq_true rfl) ⟨Nat.zero_le _, Nat.zero_le _⟩ dX13_products_16 (fun H locs hW hk => ?_)
    have hc := keep_at hc hk
    refine lv_aload_n hx hb dX13_products_19 rfl (lv_at hl 0 rfl) ?_
    refine lv_bipush (v := (6 : Int32)) hx hb dX13_products_20 (by decide) ?_
    refine lv_iconst (v := (0 : Int32)) hx hb dX13_products_22 (by decide) ?_
    obtain ⟨v7, hr6, hf⟩ := bd_elim hf
    refine b_callVv [.int (6 : Int32), .int (0 : Int32)] [] hM hml hl.1 hW hc rfl (by decide) (c_X13_emit l G fu _ a v5 _ _ hc hr6) (cwV 2 hM.2.2.2.1 (gV mk_RX13_295 im_X13_emit se_X13_emit it_RX13 cd_X13_emit) rfl rfl rfl (by decide +kernel) ⟨by show 0 + 1 ≤ 5 * d + 3; omega, by show 8 + (3 + 11) + 0 ≤ 110 * d + 68; omega⟩) rfl rfl (Nat.le_of_ble_eq_true rfl) ⟨Nat.zero_le _, Nat.zero_le _⟩ dX13_products_23 (fun H locs hW hk => ?_)
    have hc := keep_at hc hk
    refine lv_goto (tgt := 5) hx hb dX13_products_26 (by decide) ?_
    exact hk5 _ hf hc _ _ hW _ (lv_sub hl [0, 1] rfl)
theorem t_X13_products_5 {G : GG} {p : Program} {l : Launch} {e : Env} {s : State} {m : MethodId} {args : Array Value} {below : List Frame} {meth : Method} {c : Code} {S : ST} {fu : Nat} {z : GV} {a : Nat} {v0 : GV} {d : Nat} {rec : GV → Int32 → Option (GV)}  {x1 : Int32} (hM : MC G p s m args c cX13_products w_X13_products RX13) (hml : c.maxLocals = 2) (hr : meth.sig.returnType = none) (hlk : meth.locks = false) (hrec : ∀ (S : ST) (v : GV) (x1 : Int32) (z : GV), gC v = 12 → rec v x1 = some z → Ct l yX13_takePart w_X13_takePart (RM_X13_takePart d) G (st S a v) [.ref a, .int x1] none (st S a z) 0 0) (hc0 : gC v0 = 12)  : ∀ {n : Nat} (v : GV), f_X13_products_5 fu n rec  x1 v = some z → gC v = 12 → ∀ (H : Heap) (locs : List Loc), WB G (st S a v) s H locs → ∀ (ls : Array Slot), lv_has ls 2 [(0, .ref a), (1, .int x1)] → W p l e (RM_X13_products d) s m args below meth c H locs 0 0 (QR G below args s none (st S a v0) (st S a z)) (F0 m 5 ls []) := by
  intro n
  induction n with
  | zero => intro v hf; cases hf
  | succ n ih => intro v hf; exact t_X13_products_5s (fu := fu) hM hml hr hlk hrec hc0  (k5 := f_X13_products_5 fu n rec  x1) ih _ hf
noncomputable def f_X13_products_0 (fu : Nat) (rec : GV → Int32 → Option (GV))  (v : GV) (x1 : Int32) : Option (GV) :=
  bd (rec v x1) fun v2 =>
  f_X13_products_5 fu fu rec x1 v2
set_option maxHeartbeats 4000000 in
set_option maxRecDepth 100000 in
theorem t_X13_products_0 {G : GG} {p : Program} {l : Launch} {e : Env} {s : State} {m : MethodId} {args : Array Value} {below : List Frame} {meth : Method} {c : Code} {S : ST} {fu : Nat} {z : GV} {a : Nat} {v0 : GV} {d : Nat} {rec : GV → Int32 → Option (GV)}  {v : GV} {x1 : Int32} (hM : MC G p s m args c cX13_products w_X13_products RX13) (hml : c.maxLocals = 2) (hr : meth.sig.returnType = none) (hlk : meth.locks = false) (hrec : ∀ (S : ST) (v : GV) (x1 : Int32) (z : GV), gC v = 12 → rec v x1 = some z → Ct l yX13_takePart w_X13_takePart (RM_X13_takePart d) G (st S a v) [.ref a, .int x1] none (st S a z) 0 0) (hc0 : gC v0 = 12)  (hf : f_X13_products_0 fu rec  v x1 = some z) : gC v = 12 → ∀ (H : Heap) (locs : List Loc), WB G (st S a v) s H locs → ∀ (ls : Array Slot), lv_has ls 2 [(0, .ref a), (1, .int x1)] → W p l e (RM_X13_products d) s m args below meth c H locs 0 0 (QR G below args s none (st S a v0) (st S a z)) (F0 m 0 ls []) := by
  intro hc H locs hW ls hl
  have hx := hM.1
  have hb := hM.2.1
  refine lv_aload_n hx hb dX13_products_0 rfl (lv_at hl 0 rfl) ?_
  refine lv_iload_n hx hb dX13_products_1 rfl (lv_at hl 1 rfl) ?_
  obtain ⟨v2, hr1, hf⟩ := bd_elim hf
  refine b_callVv [.int x1] [] hM hml hl.1 hW hc rfl (by decide) (hrec _ v _ _ hc hr1) (cwV 1 hM.2.2.2.1 (gV mk_RX13_314 im_X13_takePart se_X13_takePart it_RX13 cd_X13_takePart) rfl rfl rfl (by decide +kernel) ⟨by show (5 * d + 2) + 1 ≤ 5 * d + 3; omega, by show 8 + (4 + 11) + (110 * d + 45) ≤ 110 * d + 68; omega⟩) rfl rfl (Nat.le_of_ble_eq_true rfl) ⟨Nat.zero_le _, Nat.zero_le _⟩ dX13_products_2 (fun H locs hW hk => ?_)
  have hc := keep_at hc hk
  exact t_X13_products_5 (fu := fu) hM hml hr hlk hrec hc0 _ hf hc _ _ hW _ (lv_sub hl [0, 1] rfl)
noncomputable def f_X13_products (fu : Nat) (rec : GV → Int32 → Option (GV)) (v : GV) (x1 : Int32) : Option (GV) := f_X13_products_0 fu rec v x1
set_option maxHeartbeats 4000000 in
set_option maxRecDepth 100000 in
theorem c_X13_products (l : Launch) (G : GG) (fu : Nat) {a d : Nat} {rec : GV → Int32 → Option (GV)} (hrec : ∀ (S : ST) (v : GV) (x1 : Int32) (z : GV), gC v = 12 → rec v x1 = some z → Ct l yX13_takePart w_X13_takePart (RM_X13_takePart d) G (st S a v) [.ref a, .int x1] none (st S a z) 0 0) (S : ST) (v : GV) (x1 : Int32) {z : GV} (hc : gC v = 12) (hf : f_X13_products fu rec v x1 = some z) : Ct l yX13_products w_X13_products (RM_X13_products d) G (st S a v) [.ref a, .int x1] none (st S a z) 0 0 := by
  refine Met.ofW (cc := cX13_products) (maxL := 2) (ret := none) (by decide) rfl ?_
  intro p e s m args below meth c s₁ B hml hv
  obtain ⟨rfl, hB, hK, hz⟩ := hv
  have hM : MC G p s m _ c cX13_products w_X13_products RX13 := ⟨B.exec, B.bytes, findClass_of_methodNamed B.named, atoms_spec (ws := w_X13_products) B.pre, hK, hz⟩
  have hW : WB G (st S a v) s s.heap [] := ⟨hB, va_S.rf⟩
  have hl := lv_entry ([.ref a, .int x1]) (n := 2) (Nat.le_of_ble_eq_true rfl)
  rw [lg_entry_eq]
  generalize (lg_sl ([.ref a, .int x1]) ++ List.replicate (2 - (lg_sl ([.ref a, .int x1])).length) Slot.unset).toArray = ls at hl ⊢
  have hl : lv_has ls 2 [(0, .ref a), (1, .int x1)] := hl
  exact t_X13_products_0 hM hml B.returns B.notSynchronized hrec hc hf hc _ _ hW _ (lv_sub hl [0, 1] rfl)
abbrev w_X13_sums : List Cond := Cond.code yX13_sums cX13_sums 3 none :: wsL_law0
noncomputable def f_X13_sums_55 (fu : Nat) (rec : GV → Int32 → Option (GV)) (k5 : GV → Option (GV)) (v : GV) (x1 : Int32) (t1 : Int32) : Option (GV) :=
  bd (f_X13_emit fu v t1 (0 : Int32)) fun v2 =>
  k5 v2
set_option maxHeartbeats 4000000 in
set_option maxRecDepth 100000 in
theorem t_X13_sums_55 {G : GG} {p : Program} {l : Launch} {e : Env} {s : State} {m : MethodId} {args : Array Value} {below : List Frame} {meth : Method} {c : Code} {S : ST} {fu : Nat} {z : GV} {a : Nat} {v0 : GV} {d : Nat} {rec : GV → Int32 → Option (GV)} {k5 : GV → Option (GV)} {v : GV} {x1 : Int32} {t1 : Int32} (hM : MC G p s m args c cX13_sums w_X13_sums RX13) (hml : c.maxLocals = 3) (hr : meth.sig.returnType = none) (hlk : meth.locks = false) (hrec : ∀ (S : ST) (v : GV) (x1 : Int32) (z : GV), gC v = 12 → rec v x1 = some z → Ct l yX13_takePart w_X13_takePart (RM_X13_takePart d) G (st S a v) [.ref a, .int x1] none (st S a z) 0 0) (hc0 : gC v0 = 12) (hk5 : ∀ (v : GV), k5 v = some z → gC v = 12 → ∀ (H : Heap) (locs : List Loc), WB G (st S a v) s H locs → ∀ (ls : Array Slot), lv_has ls 3 [(0, .ref a), (1, .int x1)] → W p l e (RM_X13_sums d) s m args below meth c H locs 0 0 (QR G below args s none (st S a v0) (st S a z)) (F0 m 5 ls [])) (hf : f_X13_sums_55 fu rec k5 v x1 t1 = some z) : gC v = 12 → ∀ (H : Heap) (locs : List Loc), WB G (st S a v) s H locs → ∀ (ls : Array Slot), lv_has ls 3 [(0, .ref a), (1, .int x1)] → W p l e (RM_X13_sums d) s m args below meth c H locs 0 0 (QR G below args s none (st S a v0) (st S a z)) (F0 m 55 ls [.int t1, .ref a]) := by
  intro hc H locs hW ls hl
  have hx := hM.1
  have hb := hM.2.1
  refine lv_iconst (v := (0 : Int32)) hx hb dX13_sums_55 (by decide) ?_
  obtain ⟨v2, hr1, hf⟩ := bd_elim hf
  refine b_callVv [.int t1, .int (0 : Int32)] [] hM hml hl.1 hW hc rfl (by decide) (c_X13_emit l G fu _ a v _ _ hc hr1) (cwV 2 hM.2.2.2.1 (gV mk_RX13_295 im_X13_emit se_X13_emit it_RX13 cd_X13_emit) rfl rfl rfl (by decide +kernel) ⟨by show 0 + 1 ≤ 5 * d + 4; omega, by show 8 + (3 + 11) + 0 ≤ 110 * d + 89; omega⟩) rfl rfl (Nat.le_of_ble_eq_true rfl) ⟨Nat.zero_le _, Nat.zero_le _⟩ dX13_sums_56 (fun H locs hW hk => ?_)
  have hc := keep_at hc hk
  refine lv_goto (tgt := 5) hx hb dX13_sums_59 (by decide) ?_
  exact hk5 _ hf hc _ _ hW _ (lv_sub hl [0, 1] rfl)
noncomputable def f_X13_sums_23 (fu : Nat) (rec : GV → Int32 → Option (GV)) (k5 : GV → Option (GV)) (v : GV) (x1 : Int32) : Option (GV) :=
  bd (f_X13_isSign fu v (43 : Int32)) fun r1 =>
  nm (sI v 7 ((gI v 7) + (1 : Int32))) fun v2 =>
  bd (f_X13_products fu rec v2 x1) fun v4 =>
  if r1 = 0 then
    (f_X13_sums_55 fu rec k5 v4 x1 (5 : Int32))
  else
    (f_X13_sums_55 fu rec k5 v4 x1 (4 : Int32))
set_option maxHeartbeats 4000000 in
set_option maxRecDepth 100000 in
theorem t_X13_sums_23 {G : GG} {p : Program} {l : Launch} {e : Env} {s : State} {m : MethodId} {args : Array Value} {below : List Frame} {meth : Method} {c : Code} {S : ST} {fu : Nat} {z : GV} {a : Nat} {v0 : GV} {d : Nat} {rec : GV → Int32 → Option (GV)} {k5 : GV → Option (GV)} {v : GV} {x1 : Int32} (hM : MC G p s m args c cX13_sums w_X13_sums RX13) (hml : c.maxLocals = 3) (hr : meth.sig.returnType = none) (hlk : meth.locks = false) (hrec : ∀ (S : ST) (v : GV) (x1 : Int32) (z : GV), gC v = 12 → rec v x1 = some z → Ct l yX13_takePart w_X13_takePart (RM_X13_takePart d) G (st S a v) [.ref a, .int x1] none (st S a z) 0 0) (hc0 : gC v0 = 12) (hk5 : ∀ (v : GV), k5 v = some z → gC v = 12 → ∀ (H : Heap) (locs : List Loc), WB G (st S a v) s H locs → ∀ (ls : Array Slot), lv_has ls 3 [(0, .ref a), (1, .int x1)] → W p l e (RM_X13_sums d) s m args below meth c H locs 0 0 (QR G below args s none (st S a v0) (st S a z)) (F0 m 5 ls [])) (hf : f_X13_sums_23 fu rec k5 v x1 = some z) : gC v = 12 → ∀ (H : Heap) (locs : List Loc), WB G (st S a v) s H locs → ∀ (ls : Array Slot), lv_has ls 3 [(0, .ref a), (1, .int x1)] → W p l e (RM_X13_sums d) s m args below meth c H locs 0 0 (QR G below args s none (st S a v0) (st S a z)) (F0 m 23 ls []) := by
  intro hc H locs hW ls hl
  have hx := hM.1
  have hb := hM.2.1
  refine lv_aload_n hx hb dX13_sums_23 rfl (lv_at hl 0 rfl) ?_
  refine lv_bipush (v := (43 : Int32)) hx hb dX13_sums_24 (by decide) ?_
  obtain ⟨r1, hr1, hf⟩ := bd_elim hf
  refine b_callVi [.int (43 : Int32)] [] hM hml hl.1 hW hc rfl (by decide) (c_X13_isSign l G fu _ a v _ hc hr1) (cwV 1 hM.2.2.2.1 (gV mk_RX13_195 im_X13_isSign se_X13_isSign it_RX13 cd_X13_isSign) rfl rfl rfl (by decide +kernel) ⟨by show 0 + 1 ≤ 5 * d + 4; omega, by show 8 + (2 + 11) + 0 ≤ 110 * d + 89; omega⟩) rfl rfl (Nat.le_of_ble_eq_true rfl) ⟨Nat.zero_le _, Nat.zero_le _⟩ dX13_sums_26 (fun H locs hW hk => ?_)
  refine lv_istore_n (lv' := [(2, .int r1), (0, .ref a), (1, .int x1)]) hx hb dX13_sums_29 rfl hl (by decide) rfl (fun ls hl => ?_)
  refine lv_aload_n hx hb dX13_sums_30 rfl (lv_at hl 1 rfl) ?_
  refine lv_dup hx hb dX13_sums_31 rfl ?_
  refine b_get hM hW 11 7 hc rfl rfl (by decide) wi_X13 (wgm fk_RX13_189) (x := .int (gI v 7)) rfl dX13_sums_32 ?_
  refine lv_iconst (v := (1 : Int32)) hx hb dX13_sums_35 (by decide) ?_
  refine lv_iadd hx hb dX13_sums_36 ?_
  refine b_putI hM hW 11 7 hc rfl rfl (by decide) wi_X13 tyX13 tyX13_ok nmX13 (wgm fk_RX13_189) rfl rfl rfl dX13_sums_37 (fun v2 ev2 hc H locs hW => ?_)
  have hf := nm_at ev2 hf
  refine lv_aload_n hx hb dX13_sums_40 rfl (lv_at hl 1 rfl) ?_
  refine lv_iload_n hx hb dX13_sums_41 rfl (lv_at hl 2 rfl) ?_
  obtain ⟨v4, hr3, hf⟩ := bd_elim hf
  refine b_callVv [.int x1] [] hM hml hl.1 hW hc rfl (by decide) (c_X13_products l G fu hrec _ v2 _ hc hr3) (cwV 1 hM.2.2.2.1 (gV mk_RX13_311 im_X13_products se_X13_products it_RX13 cd_X13_products) rfl rfl rfl (by decide +kernel) ⟨by show (5 * d + 3) + 1 ≤ 5 * d + 4; omega, by show 8 + (2 + 11) + (110 * d + 68) ≤ 110 * d + 89; omega⟩) rfl rfl (Nat.le_of_ble_eq_true rfl) ⟨Nat.zero_le _, Nat.zero_le _⟩ dX13_sums_42 (fun H locs hW hk => ?_)
  have hc := keep_at hc hk
  refine lv_aload_n hx hb dX13_sums_45 rfl (lv_at hl 1 rfl) ?_
  refine lv_iload_n hx hb dX13_sums_46 rfl (lv_at hl 0 rfl) ?_
  refine lv_if_eq (tgt := 54) hx hb dX13_sums_47 (by decide) (fun c5 => ?_) (fun c5 => ?_)
  · have hf := if_t c5 hf
    refine lv_iconst (v := (5 : Int32)) hx hb dX13_sums_54 (by decide) ?_
    exact t_X13_sums_55 (fu := fu) hM hml hr hlk hrec hc0 hk5 hf hc _ _ hW _ (lv_sub hl [1, 2] rfl)
  · have hf := if_f c5 hf
    refine lv_iconst (v := (4 : Int32)) hx hb dX13_sums_50 (by decide) ?_
    refine lv_goto (tgt := 55) hx hb dX13_sums_51 (by decide) ?_
    exact t_X13_sums_55 (fu := fu) hM hml hr hlk hrec hc0 hk5 hf hc _ _ hW _ (lv_sub hl [1, 2] rfl)
noncomputable def f_X13_sums_5s (fu : Nat) (rec : GV → Int32 → Option (GV))  (k5 : GV → Option (GV)) (x1 : Int32) (v : GV) : Option (GV) :=
  bd (f_X13_isSign fu v (43 : Int32)) fun r1 =>
  if r1 = 0 then
    (bd (f_X13_isSign fu v (45 : Int32)) fun r3 =>
    if r3 = 0 then
      (some v)
    else
      (f_X13_sums_23 fu rec k5 v x1))
  else
    (f_X13_sums_23 fu rec k5 v x1)
noncomputable def f_X13_sums_5 (fu n : Nat) (rec : GV → Int32 → Option (GV))  (x1 : Int32) : GV → Option (GV) :=
  lq_1 (fun k5 => f_X13_sums_5s fu rec  k5 x1) n
set_option maxHeartbeats 4000000 in
set_option maxRecDepth 100000 in
theorem t_X13_sums_5s {G : GG} {p : Program} {l : Launch} {e : Env} {s : State} {m : MethodId} {args : Array Value} {below : List Frame} {meth : Method} {c : Code} {S : ST} {fu : Nat} {z : GV} {a : Nat} {v0 : GV} {d : Nat} {rec : GV → Int32 → Option (GV)}  (hM : MC G p s m args c cX13_sums w_X13_sums RX13) (hml : c.maxLocals = 3) (hr : meth.sig.returnType = none) (hlk : meth.locks = false) (hrec : ∀ (S : ST) (v : GV) (x1 : Int32) (z : GV), gC v = 12 → rec v x1 = some z → Ct l yX13_takePart w_X13_takePart (RM_X13_takePart d) G (st S a v) [.ref a, .int x1] none (st S a z) 0 0) (hc0 : gC v0 = 12) {k5 : GV → Option (GV)} {x1 : Int32}  (hk5 : ∀ (v : GV), k5 v = some z → gC v = 12 → ∀ (H : Heap) (locs : List Loc), WB G (st S a v) s H locs → ∀ (ls : Array Slot), lv_has ls 3 [(0, .ref a), (1, .int x1)] → W p l e (RM_X13_sums d) s m args below meth c H locs 0 0 (QR G below args s none (st S a v0) (st S a z)) (F0 m 5 ls [])) : ∀ (v : GV), f_X13_sums_5s fu rec  k5 x1 v = some z → gC v = 12 → ∀ (H : Heap) (locs : List Loc), WB G (st S a v) s H locs → ∀ (ls : Array Slot), lv_has ls 3 [(0, .ref a), (1, .int x1)] → W p l e (RM_X13_sums d) s m args below meth c H locs 0 0 (QR G below args s none (st S a v0) (st S a z)) (F0 m 5 ls []) := by
  intro v hf hc H locs hW ls hl
  have hx := hM.1
  have hb := hM.2.1
  refine lv_aload_n hx hb dX13_sums_5 rfl (lv_at hl 0 rfl) ?_
  refine lv_bipush (v := (43 : Int32)) hx hb dX13_sums_6 (by decide) ?_
  obtain ⟨r1, hr1, hf⟩ := bd_elim hf
  refine b_callVi [.int (43 : Int32)] [] hM hml hl.1 hW hc rfl (by decide) (c_X13_isSign l G fu _ a v _ hc hr1) (cwV 1 hM.2.2.2.1 (gV mk_RX13_195 im_X13_isSign se_X13_isSign it_RX13 cd_X13_isSign) rfl rfl rfl (by decide +kernel) ⟨by show 0 + 1 ≤ 5 * d + 4; omega, by show 8 + (2 + 11) + 0 ≤ 110 * d + 89; omega⟩) rfl rfl (Nat.le_of_ble_eq_true rfl) ⟨Nat.zero_le _, Nat.zero_le _⟩ dX13_sums_8 (fun H locs hW hk => ?_)
  refine lv_if_ne (tgt := 23) hx hb dX13_sums_11 (by decide) (fun c2 => ?_) (fun c2 => ?_)
  · have hf := if_f c2 hf
    exact t_X13_sums_23 (fu := fu) hM hml hr hlk hrec hc0 hk5 hf hc _ _ hW _ (lv_sub hl [0, 1] rfl)
  · have hf := if_t c2 hf
    refine lv_aload_n hx hb dX13_sums_14 rfl (lv_at hl 0 rfl) ?_
    refine lv_bipush (v := (45 : Int32)) hx hb dX13_sums_15 (by decide) ?_
    obtain ⟨r3, hr3, hf⟩ := bd_elim hf
    refine b_callVi [.int (45 : Int32)] [] hM hml hl.1 hW hc rfl (by decide) (c_X13_isSign l G fu _ a v _ hc hr3) (cwV 1 hM.2.2.2.1 (gV mk_RX13_195 im_X13_isSign se_X13_isSign it_RX13 cd_X13_isSign) rfl rfl rfl (by decide +kernel) ⟨by show 0 + 1 ≤ 5 * d + 4; omega, by show 8 + (2 + 11) + 0 ≤ 110 * d + 89; omega⟩) rfl rfl (Nat.le_of_ble_eq_true rfl) ⟨Nat.zero_le _, Nat.zero_le _⟩ dX13_sums_17 (fun H locs hW hk => ?_)
    refine lv_if_eq (tgt := 62) hx hb dX13_sums_20 (by decide) (fun c4 => ?_) (fun c4 => ?_)
    · have hf := if_t c4 hf
      cases hf
      exact W.vret hx hb hr (b_ret0 hW (keep_s2 hc0 hc) _) hW.2.2.2 dX13_sums_62 hlk
    · have hf := if_f c4 hf
      exact t_X13_sums_23 (fu := fu) hM hml hr hlk hrec hc0 hk5 hf hc _ _ hW _ (lv_sub hl [0, 1] rfl)
theorem t_X13_sums_5 {G : GG} {p : Program} {l : Launch} {e : Env} {s : State} {m : MethodId} {args : Array Value} {below : List Frame} {meth : Method} {c : Code} {S : ST} {fu : Nat} {z : GV} {a : Nat} {v0 : GV} {d : Nat} {rec : GV → Int32 → Option (GV)}  {x1 : Int32} (hM : MC G p s m args c cX13_sums w_X13_sums RX13) (hml : c.maxLocals = 3) (hr : meth.sig.returnType = none) (hlk : meth.locks = false) (hrec : ∀ (S : ST) (v : GV) (x1 : Int32) (z : GV), gC v = 12 → rec v x1 = some z → Ct l yX13_takePart w_X13_takePart (RM_X13_takePart d) G (st S a v) [.ref a, .int x1] none (st S a z) 0 0) (hc0 : gC v0 = 12)  : ∀ {n : Nat} (v : GV), f_X13_sums_5 fu n rec  x1 v = some z → gC v = 12 → ∀ (H : Heap) (locs : List Loc), WB G (st S a v) s H locs → ∀ (ls : Array Slot), lv_has ls 3 [(0, .ref a), (1, .int x1)] → W p l e (RM_X13_sums d) s m args below meth c H locs 0 0 (QR G below args s none (st S a v0) (st S a z)) (F0 m 5 ls []) := by
  intro n
  induction n with
  | zero => intro v hf; cases hf
  | succ n ih => intro v hf; exact t_X13_sums_5s (fu := fu) hM hml hr hlk hrec hc0  (k5 := f_X13_sums_5 fu n rec  x1) ih _ hf
noncomputable def f_X13_sums_0 (fu : Nat) (rec : GV → Int32 → Option (GV))  (v : GV) (x1 : Int32) : Option (GV) :=
  bd (f_X13_products fu rec v x1) fun v2 =>
  f_X13_sums_5 fu fu rec x1 v2
set_option maxHeartbeats 4000000 in
set_option maxRecDepth 100000 in
theorem t_X13_sums_0 {G : GG} {p : Program} {l : Launch} {e : Env} {s : State} {m : MethodId} {args : Array Value} {below : List Frame} {meth : Method} {c : Code} {S : ST} {fu : Nat} {z : GV} {a : Nat} {v0 : GV} {d : Nat} {rec : GV → Int32 → Option (GV)}  {v : GV} {x1 : Int32} (hM : MC G p s m args c cX13_sums w_X13_sums RX13) (hml : c.maxLocals = 3) (hr : meth.sig.returnType = none) (hlk : meth.locks = false) (hrec : ∀ (S : ST) (v : GV) (x1 : Int32) (z : GV), gC v = 12 → rec v x1 = some z → Ct l yX13_takePart w_X13_takePart (RM_X13_takePart d) G (st S a v) [.ref a, .int x1] none (st S a z) 0 0) (hc0 : gC v0 = 12)  (hf : f_X13_sums_0 fu rec  v x1 = some z) : gC v = 12 → ∀ (H : Heap) (locs : List Loc), WB G (st S a v) s H locs → ∀ (ls : Array Slot), lv_has ls 3 [(0, .ref a), (1, .int x1)] → W p l e (RM_X13_sums d) s m args below meth c H locs 0 0 (QR G below args s none (st S a v0) (st S a z)) (F0 m 0 ls []) := by
  intro hc H locs hW ls hl
  have hx := hM.1
  have hb := hM.2.1
  refine lv_aload_n hx hb dX13_sums_0 rfl (lv_at hl 0 rfl) ?_
  refine lv_iload_n hx hb dX13_sums_1 rfl (lv_at hl 1 rfl) ?_
  obtain ⟨v2, hr1, hf⟩ := bd_elim hf
  refine b_callVv [.int x1] [] hM hml hl.1 hW hc rfl (by decide) (c_X13_products l G fu hrec _ v _ hc hr1) (cwV 1 hM.2.2.2.1 (gV mk_RX13_311 im_X13_products se_X13_products it_RX13 cd_X13_products) rfl rfl rfl (by decide +kernel) ⟨by show (5 * d + 3) + 1 ≤ 5 * d + 4; omega, by show 8 + (2 + 11) + (110 * d + 68) ≤ 110 * d + 89; omega⟩) rfl rfl (Nat.le_of_ble_eq_true rfl) ⟨Nat.zero_le _, Nat.zero_le _⟩ dX13_sums_2 (fun H locs hW hk => ?_)
  have hc := keep_at hc hk
  exact t_X13_sums_5 (fu := fu) hM hml hr hlk hrec hc0 _ hf hc _ _ hW _ (lv_sub hl [0, 1] rfl)
noncomputable def f_X13_sums (fu : Nat) (rec : GV → Int32 → Option (GV)) (v : GV) (x1 : Int32) : Option (GV) := f_X13_sums_0 fu rec v x1
set_option maxHeartbeats 4000000 in
set_option maxRecDepth 100000 in
theorem c_X13_sums (l : Launch) (G : GG) (fu : Nat) {a d : Nat} {rec : GV → Int32 → Option (GV)} (hrec : ∀ (S : ST) (v : GV) (x1 : Int32) (z : GV), gC v = 12 → rec v x1 = some z → Ct l yX13_takePart w_X13_takePart (RM_X13_takePart d) G (st S a v) [.ref a, .int x1] none (st S a z) 0 0) (S : ST) (v : GV) (x1 : Int32) {z : GV} (hc : gC v = 12) (hf : f_X13_sums fu rec v x1 = some z) : Ct l yX13_sums w_X13_sums (RM_X13_sums d) G (st S a v) [.ref a, .int x1] none (st S a z) 0 0 := by
  refine Met.ofW (cc := cX13_sums) (maxL := 3) (ret := none) (by decide) rfl ?_
  intro p e s m args below meth c s₁ B hml hv
  obtain ⟨rfl, hB, hK, hz⟩ := hv
  have hM : MC G p s m _ c cX13_sums w_X13_sums RX13 := ⟨B.exec, B.bytes, findClass_of_methodNamed B.named, atoms_spec (ws := w_X13_sums) B.pre, hK, hz⟩
  have hW : WB G (st S a v) s s.heap [] := ⟨hB, va_S.rf⟩
  have hl := lv_entry ([.ref a, .int x1]) (n := 3) (Nat.le_of_ble_eq_true rfl)
  rw [lg_entry_eq]
  generalize (lg_sl ([.ref a, .int x1]) ++ List.replicate (3 - (lg_sl ([.ref a, .int x1])).length) Slot.unset).toArray = ls at hl ⊢
  have hl : lv_has ls 3 [(0, .ref a), (1, .int x1)] := hl
  exact t_X13_sums_0 hM hml B.returns B.notSynchronized hrec hc hf hc _ _ hW _ (lv_sub hl [0, 1] rfl)
abbrev w_X13_test : List Cond := Cond.code yX13_test cX13_test 3 none :: wsL_law0
noncomputable def f_X13_test_47 (fu : Nat) (rec : GV → Int32 → Option (GV))  (v : GV) (t1 : Int32) : Option (GV) :=
  bd (f_X13_emit fu v t1 (0 : Int32)) fun v2 =>
  some v2
set_option maxHeartbeats 4000000 in
set_option maxRecDepth 100000 in
theorem t_X13_test_47 {G : GG} {p : Program} {l : Launch} {e : Env} {s : State} {m : MethodId} {args : Array Value} {below : List Frame} {meth : Method} {c : Code} {S : ST} {fu : Nat} {z : GV} {a : Nat} {v0 : GV} {d : Nat} {rec : GV → Int32 → Option (GV)}  {v : GV} {t1 : Int32} (hM : MC G p s m args c cX13_test w_X13_test RX13) (hml : c.maxLocals = 3) (hr : meth.sig.returnType = none) (hlk : meth.locks = false) (hrec : ∀ (S : ST) (v : GV) (x1 : Int32) (z : GV), gC v = 12 → rec v x1 = some z → Ct l yX13_takePart w_X13_takePart (RM_X13_takePart d) G (st S a v) [.ref a, .int x1] none (st S a z) 0 0) (hc0 : gC v0 = 12)  (hf : f_X13_test_47 fu rec  v t1 = some z) : gC v = 12 → ∀ (H : Heap) (locs : List Loc), WB G (st S a v) s H locs → ∀ (ls : Array Slot), lv_has ls 3 [] → W p l e (RM_X13_test d) s m args below meth c H locs 0 0 (QR G below args s none (st S a v0) (st S a z)) (F0 m 47 ls [.int t1, .ref a]) := by
  intro hc H locs hW ls hl
  have hx := hM.1
  have hb := hM.2.1
  refine lv_iconst (v := (0 : Int32)) hx hb dX13_test_47 (by decide) ?_
  obtain ⟨v2, hr1, hf⟩ := bd_elim hf
  refine b_callVv [.int t1, .int (0 : Int32)] [] hM hml hl.1 hW hc rfl (by decide) (c_X13_emit l G fu _ a v _ _ hc hr1) (cwV 2 hM.2.2.2.1 (gV mk_RX13_295 im_X13_emit se_X13_emit it_RX13 cd_X13_emit) rfl rfl rfl (by decide +kernel) ⟨by show 0 + 1 ≤ 5 * d + 5; omega, by show 8 + (3 + 11) + 0 ≤ 110 * d + 111; omega⟩) rfl rfl (Nat.le_of_ble_eq_true rfl) ⟨Nat.zero_le _, Nat.zero_le _⟩ dX13_test_48 (fun H locs hW hk => ?_)
  have hc := keep_at hc hk
  cases hf
  exact W.vret hx hb hr (b_ret0 hW (keep_s2 hc0 hc) _) hW.2.2.2 dX13_test_51 hlk
noncomputable def f_X13_test_30 (fu : Nat) (rec : GV → Int32 → Option (GV))  (v : GV) (x1 : Int32) (x2 : Int32) : Option (GV) :=
  bd (f_X13_sums fu rec v x1) fun v2 =>
  if x2 = 0 then
    (f_X13_test_47 fu rec v2 (8 : Int32))
  else
    (f_X13_test_47 fu rec v2 (7 : Int32))
set_option maxHeartbeats 4000000 in
set_option maxRecDepth 100000 in
theorem t_X13_test_30 {G : GG} {p : Program} {l : Launch} {e : Env} {s : State} {m : MethodId} {args : Array Value} {below : List Frame} {meth : Method} {c : Code} {S : ST} {fu : Nat} {z : GV} {a : Nat} {v0 : GV} {d : Nat} {rec : GV → Int32 → Option (GV)}  {v : GV} {x1 : Int32} {x2 : Int32} (hM : MC G p s m args c cX13_test w_X13_test RX13) (hml : c.maxLocals = 3) (hr : meth.sig.returnType = none) (hlk : meth.locks = false) (hrec : ∀ (S : ST) (v : GV) (x1 : Int32) (z : GV), gC v = 12 → rec v x1 = some z → Ct l yX13_takePart w_X13_takePart (RM_X13_takePart d) G (st S a v) [.ref a, .int x1] none (st S a z) 0 0) (hc0 : gC v0 = 12)  (hf : f_X13_test_30 fu rec  v x1 x2 = some z) : gC v = 12 → ∀ (H : Heap) (locs : List Loc), WB G (st S a v) s H locs → ∀ (ls : Array Slot), lv_has ls 3 [(0, .ref a), (1, .int x1), (2, .int x2)] → W p l e (RM_X13_test d) s m args below meth c H locs 0 0 (QR G below args s none (st S a v0) (st S a z)) (F0 m 30 ls []) := by
  intro hc H locs hW ls hl
  have hx := hM.1
  have hb := hM.2.1
  refine lv_aload_n hx hb dX13_test_30 rfl (lv_at hl 0 rfl) ?_
  refine lv_iload_n hx hb dX13_test_31 rfl (lv_at hl 1 rfl) ?_
  obtain ⟨v2, hr1, hf⟩ := bd_elim hf
  refine b_callVv [.int x1] [] hM hml hl.1 hW hc rfl (by decide) (c_X13_sums l G fu hrec _ v _ hc hr1) (cwV 1 hM.2.2.2.1 (gV mk_RX13_305 im_X13_sums se_X13_sums it_RX13 cd_X13_sums) rfl rfl rfl (by decide +kernel) ⟨by show (5 * d + 4) + 1 ≤ 5 * d + 5; omega, by show 8 + (3 + 11) + (110 * d + 89) ≤ 110 * d + 111; omega⟩) rfl rfl (Nat.le_of_ble_eq_true rfl) ⟨Nat.zero_le _, Nat.zero_le _⟩ dX13_test_32 (fun H locs hW hk => ?_)
  have hc := keep_at hc hk
  refine lv_aload_n hx hb dX13_test_35 rfl (lv_at hl 0 rfl) ?_
  refine lv_iload_n hx hb dX13_test_36 rfl (lv_at hl 2 rfl) ?_
  refine lv_if_eq (tgt := 45) hx hb dX13_test_37 (by decide) (fun c3 => ?_) (fun c3 => ?_)
  · have hf := if_t c3 hf
    refine lv_bipush (v := (8 : Int32)) hx hb dX13_test_45 (by decide) ?_
    exact t_X13_test_47 (fu := fu) hM hml hr hlk hrec hc0 hf hc _ _ hW _ (lv_sub hl [] rfl)
  · have hf := if_f c3 hf
    refine lv_bipush (v := (7 : Int32)) hx hb dX13_test_40 (by decide) ?_
    refine lv_goto (tgt := 47) hx hb dX13_test_42 (by decide) ?_
    exact t_X13_test_47 (fu := fu) hM hml hr hlk hrec hc0 hf hc _ _ hW _ (lv_sub hl [] rfl)
noncomputable def f_X13_test_0 (fu : Nat) (rec : GV → Int32 → Option (GV))  (v : GV) (x1 : Int32) : Option (GV) :=
  bd (f_X13_sums fu rec v x1) fun v2 =>
  bd (f_X13_isSign fu v2 (60 : Int32)) fun r3 =>
  bd2 (f_X13_hasSign fu v2 (60 : Int32)) fun r4 v5 =>
  if r4 = 0 then
    (bd2 (f_X13_hasSign fu v5 (61 : Int32)) fun r7 v8 =>
    if r7 = 0 then
      (some v8)
    else
      (f_X13_test_30 fu rec v8 x1 r3))
  else
    (f_X13_test_30 fu rec v5 x1 r3)
set_option maxHeartbeats 4000000 in
set_option maxRecDepth 100000 in
theorem t_X13_test_0 {G : GG} {p : Program} {l : Launch} {e : Env} {s : State} {m : MethodId} {args : Array Value} {below : List Frame} {meth : Method} {c : Code} {S : ST} {fu : Nat} {z : GV} {a : Nat} {v0 : GV} {d : Nat} {rec : GV → Int32 → Option (GV)}  {v : GV} {x1 : Int32} (hM : MC G p s m args c cX13_test w_X13_test RX13) (hml : c.maxLocals = 3) (hr : meth.sig.returnType = none) (hlk : meth.locks = false) (hrec : ∀ (S : ST) (v : GV) (x1 : Int32) (z : GV), gC v = 12 → rec v x1 = some z → Ct l yX13_takePart w_X13_takePart (RM_X13_takePart d) G (st S a v) [.ref a, .int x1] none (st S a z) 0 0) (hc0 : gC v0 = 12)  (hf : f_X13_test_0 fu rec  v x1 = some z) : gC v = 12 → ∀ (H : Heap) (locs : List Loc), WB G (st S a v) s H locs → ∀ (ls : Array Slot), lv_has ls 3 [(0, .ref a), (1, .int x1)] → W p l e (RM_X13_test d) s m args below meth c H locs 0 0 (QR G below args s none (st S a v0) (st S a z)) (F0 m 0 ls []) := by
  intro hc H locs hW ls hl
  have hx := hM.1
  have hb := hM.2.1
  refine lv_aload_n hx hb dX13_test_0 rfl (lv_at hl 0 rfl) ?_
  refine lv_iload_n hx hb dX13_test_1 rfl (lv_at hl 1 rfl) ?_
  obtain ⟨v2, hr1, hf⟩ := bd_elim hf
  refine b_callVv [.int x1] [] hM hml hl.1 hW hc rfl (by decide) (c_X13_sums l G fu hrec _ v _ hc hr1) (cwV 1 hM.2.2.2.1 (gV mk_RX13_305 im_X13_sums se_X13_sums it_RX13 cd_X13_sums) rfl rfl rfl (by decide +kernel) ⟨by show (5 * d + 4) + 1 ≤ 5 * d + 5; omega, by show 8 + (3 + 11) + (110 * d + 89) ≤ 110 * d + 111; omega⟩) rfl rfl (Nat.le_of_ble_eq_true rfl) ⟨Nat.zero_le _, Nat.zero_le _⟩ dX13_test_2 (fun H locs hW hk => ?_)
  have hc := keep_at hc hk
  refine lv_aload_n hx hb dX13_test_5 rfl (lv_at hl 0 rfl) ?_
  refine lv_bipush (v := (60 : Int32)) hx hb dX13_test_6 (by decide) ?_
  obtain ⟨r3, hr3, hf⟩ := bd_elim hf
  refine b_callVi [.int (60 : Int32)] [] hM hml hl.1 hW hc rfl (by decide) (c_X13_isSign l G fu _ a v2 _ hc hr3) (cwV 1 hM.2.2.2.1 (gV mk_RX13_195 im_X13_isSign se_X13_isSign it_RX13 cd_X13_isSign) rfl rfl rfl (by decide +kernel) ⟨by show 0 + 1 ≤ 5 * d + 5; omega, by show 8 + (2 + 11) + 0 ≤ 110 * d + 111; omega⟩) rfl rfl (Nat.le_of_ble_eq_true rfl) ⟨Nat.zero_le _, Nat.zero_le _⟩ dX13_test_8 (fun H locs hW hk => ?_)
  refine lv_istore_n (lv' := [(2, .int r3), (0, .ref a), (1, .int x1)]) hx hb dX13_test_11 rfl hl (by decide) rfl (fun ls hl => ?_)
  refine lv_aload_n hx hb dX13_test_12 rfl (lv_at hl 1 rfl) ?_
  refine lv_bipush (v := (60 : Int32)) hx hb dX13_test_13 (by decide) ?_
  obtain ⟨r4, v5, hr4, hf⟩ := bd2_elim hf
  refine b_callVi [.int (60 : Int32)] [] hM hml hl.1 hW hc rfl (by decide) (c_X13_hasSign l G fu _ a v2 _ hc hr4) (cwV 1 hM.2.2.2.1 (gV mk_RX13_308 im_X13_hasSign se_X13_hasSign it_RX13 cd_X13_hasSign) rfl rfl rfl (by decide +kernel) ⟨by show 1 + 1 ≤ 5 * d + 5; omega, by show 8 + (3 + 11) + 21 ≤ 110 * d + 111; omega⟩) rfl rfl (Nat.le_of_ble_eq_true rfl) ⟨Nat.zero_le _, Nat.zero_le _⟩ dX13_test_15 (fun H locs hW hk => ?_)
  have hc := keep_at hc hk
  refine lv_if_ne (tgt := 30) hx hb dX13_test_18 (by decide) (fun c6 => ?_) (fun c6 => ?_)
  · have hf := if_f c6 hf
    exact t_X13_test_30 (fu := fu) hM hml hr hlk hrec hc0 hf hc _ _ hW _ (lv_sub hl [1, 2, 0] rfl)
  · have hf := if_t c6 hf
    refine lv_aload_n hx hb dX13_test_21 rfl (lv_at hl 1 rfl) ?_
    refine lv_bipush (v := (61 : Int32)) hx hb dX13_test_22 (by decide) ?_
    obtain ⟨r7, v8, hr7, hf⟩ := bd2_elim hf
    refine b_callVi [.int (61 : Int32)] [] hM hml hl.1 hW hc rfl (by decide) (c_X13_hasSign l G fu _ a v5 _ hc hr7) (cwV 1 hM.2.2.2.1 (gV mk_RX13_308 im_X13_hasSign se_X13_hasSign it_RX13 cd_X13_hasSign) rfl rfl rfl (by decide +kernel) ⟨by show 1 + 1 ≤ 5 * d + 5; omega, by show 8 + (3 + 11) + 21 ≤ 110 * d + 111; omega⟩) rfl rfl (Nat.le_of_ble_eq_true rfl) ⟨Nat.zero_le _, Nat.zero_le _⟩ dX13_test_24 (fun H locs hW hk => ?_)
    have hc := keep_at hc hk
    refine lv_if_eq (tgt := 51) hx hb dX13_test_27 (by decide) (fun c9 => ?_) (fun c9 => ?_)
    · have hf := if_t c9 hf
      cases hf
      exact W.vret hx hb hr (b_ret0 hW (keep_s2 hc0 hc) _) hW.2.2.2 dX13_test_51 hlk
    · have hf := if_f c9 hf
      exact t_X13_test_30 (fu := fu) hM hml hr hlk hrec hc0 hf hc _ _ hW _ (lv_sub hl [1, 2, 0] rfl)
noncomputable def f_X13_test (fu : Nat) (rec : GV → Int32 → Option (GV)) (v : GV) (x1 : Int32) : Option (GV) := f_X13_test_0 fu rec v x1
set_option maxHeartbeats 4000000 in
set_option maxRecDepth 100000 in
theorem c_X13_test (l : Launch) (G : GG) (fu : Nat) {a d : Nat} {rec : GV → Int32 → Option (GV)} (hrec : ∀ (S : ST) (v : GV) (x1 : Int32) (z : GV), gC v = 12 → rec v x1 = some z → Ct l yX13_takePart w_X13_takePart (RM_X13_takePart d) G (st S a v) [.ref a, .int x1] none (st S a z) 0 0) (S : ST) (v : GV) (x1 : Int32) {z : GV} (hc : gC v = 12) (hf : f_X13_test fu rec v x1 = some z) : Ct l yX13_test w_X13_test (RM_X13_test d) G (st S a v) [.ref a, .int x1] none (st S a z) 0 0 := by
  refine Met.ofW (cc := cX13_test) (maxL := 3) (ret := none) (by decide) rfl ?_
  intro p e s m args below meth c s₁ B hml hv
  obtain ⟨rfl, hB, hK, hz⟩ := hv
  have hM : MC G p s m _ c cX13_test w_X13_test RX13 := ⟨B.exec, B.bytes, findClass_of_methodNamed B.named, atoms_spec (ws := w_X13_test) B.pre, hK, hz⟩
  have hW : WB G (st S a v) s s.heap [] := ⟨hB, va_S.rf⟩
  have hl := lv_entry ([.ref a, .int x1]) (n := 3) (Nat.le_of_ble_eq_true rfl)
  rw [lg_entry_eq]
  generalize (lg_sl ([.ref a, .int x1]) ++ List.replicate (3 - (lg_sl ([.ref a, .int x1])).length) Slot.unset).toArray = ls at hl ⊢
  have hl : lv_has ls 3 [(0, .ref a), (1, .int x1)] := hl
  exact t_X13_test_0 hM hml B.returns B.notSynchronized hrec hc hf hc _ _ hW _ (lv_sub hl [0, 1] rfl)
abbrev w_X13_all : List Cond := Cond.code yX13_all cX13_all 3 none :: wsL_law0
noncomputable def f_X13_all_57 (fu : Nat) (rec : GV → Int32 → Option (GV)) (k5 : GV → Option (GV)) (v : GV) (x1 : Int32) (t1 : Int32) : Option (GV) :=
  bd (f_X13_emit fu v t1 (0 : Int32)) fun v2 =>
  k5 v2
set_option maxHeartbeats 4000000 in
set_option maxRecDepth 100000 in
theorem t_X13_all_57 {G : GG} {p : Program} {l : Launch} {e : Env} {s : State} {m : MethodId} {args : Array Value} {below : List Frame} {meth : Method} {c : Code} {S : ST} {fu : Nat} {z : GV} {a : Nat} {v0 : GV} {d : Nat} {rec : GV → Int32 → Option (GV)} {k5 : GV → Option (GV)} {v : GV} {x1 : Int32} {t1 : Int32} (hM : MC G p s m args c cX13_all w_X13_all RX13) (hml : c.maxLocals = 3) (hr : meth.sig.returnType = none) (hlk : meth.locks = false) (hrec : ∀ (S : ST) (v : GV) (x1 : Int32) (z : GV), gC v = 12 → rec v x1 = some z → Ct l yX13_takePart w_X13_takePart (RM_X13_takePart d) G (st S a v) [.ref a, .int x1] none (st S a z) 0 0) (hc0 : gC v0 = 12) (hk5 : ∀ (v : GV), k5 v = some z → gC v = 12 → ∀ (H : Heap) (locs : List Loc), WB G (st S a v) s H locs → ∀ (ls : Array Slot), lv_has ls 3 [(0, .ref a), (1, .int x1)] → W p l e (RM_X13_all d) s m args below meth c H locs 0 0 (QR G below args s none (st S a v0) (st S a z)) (F0 m 5 ls [])) (hf : f_X13_all_57 fu rec k5 v x1 t1 = some z) : gC v = 12 → ∀ (H : Heap) (locs : List Loc), WB G (st S a v) s H locs → ∀ (ls : Array Slot), lv_has ls 3 [(0, .ref a), (1, .int x1)] → W p l e (RM_X13_all d) s m args below meth c H locs 0 0 (QR G below args s none (st S a v0) (st S a z)) (F0 m 57 ls [.int t1, .ref a]) := by
  intro hc H locs hW ls hl
  have hx := hM.1
  have hb := hM.2.1
  refine lv_iconst (v := (0 : Int32)) hx hb dX13_all_57 (by decide) ?_
  obtain ⟨v2, hr1, hf⟩ := bd_elim hf
  refine b_callVv [.int t1, .int (0 : Int32)] [] hM hml hl.1 hW hc rfl (by decide) (c_X13_emit l G fu _ a v _ _ hc hr1) (cwV 2 hM.2.2.2.1 (gV mk_RX13_295 im_X13_emit se_X13_emit it_RX13 cd_X13_emit) rfl rfl rfl (by decide +kernel) ⟨by show 0 + 1 ≤ 5 * d + 6; omega, by show 8 + (3 + 11) + 0 ≤ 110 * d + 133; omega⟩) rfl rfl (Nat.le_of_ble_eq_true rfl) ⟨Nat.zero_le _, Nat.zero_le _⟩ dX13_all_58 (fun H locs hW hk => ?_)
  have hc := keep_at hc hk
  refine lv_goto (tgt := 5) hx hb dX13_all_61 (by decide) ?_
  exact hk5 _ hf hc _ _ hW _ (lv_sub hl [0, 1] rfl)
noncomputable def f_X13_all_23 (fu : Nat) (rec : GV → Int32 → Option (GV)) (k5 : GV → Option (GV)) (v : GV) (x1 : Int32) : Option (GV) :=
  bd (f_X13_isWord fu v (23 : Int32)) fun r1 =>
  nm (sI v 7 ((gI v 7) + (1 : Int32))) fun v2 =>
  bd (f_X13_test fu rec v2 x1) fun v4 =>
  if r1 = 0 then
    (f_X13_all_57 fu rec k5 v4 x1 (10 : Int32))
  else
    (f_X13_all_57 fu rec k5 v4 x1 (9 : Int32))
set_option maxHeartbeats 4000000 in
set_option maxRecDepth 100000 in
theorem t_X13_all_23 {G : GG} {p : Program} {l : Launch} {e : Env} {s : State} {m : MethodId} {args : Array Value} {below : List Frame} {meth : Method} {c : Code} {S : ST} {fu : Nat} {z : GV} {a : Nat} {v0 : GV} {d : Nat} {rec : GV → Int32 → Option (GV)} {k5 : GV → Option (GV)} {v : GV} {x1 : Int32} (hM : MC G p s m args c cX13_all w_X13_all RX13) (hml : c.maxLocals = 3) (hr : meth.sig.returnType = none) (hlk : meth.locks = false) (hrec : ∀ (S : ST) (v : GV) (x1 : Int32) (z : GV), gC v = 12 → rec v x1 = some z → Ct l yX13_takePart w_X13_takePart (RM_X13_takePart d) G (st S a v) [.ref a, .int x1] none (st S a z) 0 0) (hc0 : gC v0 = 12) (hk5 : ∀ (v : GV), k5 v = some z → gC v = 12 → ∀ (H : Heap) (locs : List Loc), WB G (st S a v) s H locs → ∀ (ls : Array Slot), lv_has ls 3 [(0, .ref a), (1, .int x1)] → W p l e (RM_X13_all d) s m args below meth c H locs 0 0 (QR G below args s none (st S a v0) (st S a z)) (F0 m 5 ls [])) (hf : f_X13_all_23 fu rec k5 v x1 = some z) : gC v = 12 → ∀ (H : Heap) (locs : List Loc), WB G (st S a v) s H locs → ∀ (ls : Array Slot), lv_has ls 3 [(0, .ref a), (1, .int x1)] → W p l e (RM_X13_all d) s m args below meth c H locs 0 0 (QR G below args s none (st S a v0) (st S a z)) (F0 m 23 ls []) := by
  intro hc H locs hW ls hl
  have hx := hM.1
  have hb := hM.2.1
  refine lv_aload_n hx hb dX13_all_23 rfl (lv_at hl 0 rfl) ?_
  refine lv_bipush (v := (23 : Int32)) hx hb dX13_all_24 (by decide) ?_
  obtain ⟨r1, hr1, hf⟩ := bd_elim hf
  refine b_callVi [.int (23 : Int32)] [] hM hml hl.1 hW hc rfl (by decide) (c_X13_isWord l G fu _ a v _ hc hr1) (cwV 1 hM.2.2.2.1 (gV mk_RX13_201 im_X13_isWord se_X13_isWord it_RX13 cd_X13_isWord) rfl rfl rfl (by decide +kernel) ⟨by show 0 + 1 ≤ 5 * d + 6; omega, by show 8 + (2 + 11) + 0 ≤ 110 * d + 133; omega⟩) rfl rfl (Nat.le_of_ble_eq_true rfl) ⟨Nat.zero_le _, Nat.zero_le _⟩ dX13_all_26 (fun H locs hW hk => ?_)
  refine lv_istore_n (lv' := [(2, .int r1), (0, .ref a), (1, .int x1)]) hx hb dX13_all_29 rfl hl (by decide) rfl (fun ls hl => ?_)
  refine lv_aload_n hx hb dX13_all_30 rfl (lv_at hl 1 rfl) ?_
  refine lv_dup hx hb dX13_all_31 rfl ?_
  refine b_get hM hW 11 7 hc rfl rfl (by decide) wi_X13 (wgm fk_RX13_189) (x := .int (gI v 7)) rfl dX13_all_32 ?_
  refine lv_iconst (v := (1 : Int32)) hx hb dX13_all_35 (by decide) ?_
  refine lv_iadd hx hb dX13_all_36 ?_
  refine b_putI hM hW 11 7 hc rfl rfl (by decide) wi_X13 tyX13 tyX13_ok nmX13 (wgm fk_RX13_189) rfl rfl rfl dX13_all_37 (fun v2 ev2 hc H locs hW => ?_)
  have hf := nm_at ev2 hf
  refine lv_aload_n hx hb dX13_all_40 rfl (lv_at hl 1 rfl) ?_
  refine lv_iload_n hx hb dX13_all_41 rfl (lv_at hl 2 rfl) ?_
  obtain ⟨v4, hr3, hf⟩ := bd_elim hf
  refine b_callVv [.int x1] [] hM hml hl.1 hW hc rfl (by decide) (c_X13_test l G fu hrec _ v2 _ hc hr3) (cwV 1 hM.2.2.2.1 (gV mk_RX13_302 im_X13_test se_X13_test it_RX13 cd_X13_test) rfl rfl rfl (by decide +kernel) ⟨by show (5 * d + 5) + 1 ≤ 5 * d + 6; omega, by show 8 + (3 + 11) + (110 * d + 111) ≤ 110 * d + 133; omega⟩) rfl rfl (Nat.le_of_ble_eq_true rfl) ⟨Nat.zero_le _, Nat.zero_le _⟩ dX13_all_42 (fun H locs hW hk => ?_)
  have hc := keep_at hc hk
  refine lv_aload_n hx hb dX13_all_45 rfl (lv_at hl 1 rfl) ?_
  refine lv_iload_n hx hb dX13_all_46 rfl (lv_at hl 0 rfl) ?_
  refine lv_if_eq (tgt := 55) hx hb dX13_all_47 (by decide) (fun c5 => ?_) (fun c5 => ?_)
  · have hf := if_t c5 hf
    refine lv_bipush (v := (10 : Int32)) hx hb dX13_all_55 (by decide) ?_
    exact t_X13_all_57 (fu := fu) hM hml hr hlk hrec hc0 hk5 hf hc _ _ hW _ (lv_sub hl [1, 2] rfl)
  · have hf := if_f c5 hf
    refine lv_bipush (v := (9 : Int32)) hx hb dX13_all_50 (by decide) ?_
    refine lv_goto (tgt := 57) hx hb dX13_all_52 (by decide) ?_
    exact t_X13_all_57 (fu := fu) hM hml hr hlk hrec hc0 hk5 hf hc _ _ hW _ (lv_sub hl [1, 2] rfl)
noncomputable def f_X13_all_5s (fu : Nat) (rec : GV → Int32 → Option (GV))  (k5 : GV → Option (GV)) (x1 : Int32) (v : GV) : Option (GV) :=
  bd (f_X13_isWord fu v (23 : Int32)) fun r1 =>
  if r1 = 0 then
    (bd (f_X13_isWord fu v (24 : Int32)) fun r3 =>
    if r3 = 0 then
      (some v)
    else
      (f_X13_all_23 fu rec k5 v x1))
  else
    (f_X13_all_23 fu rec k5 v x1)
noncomputable def f_X13_all_5 (fu n : Nat) (rec : GV → Int32 → Option (GV))  (x1 : Int32) : GV → Option (GV) :=
  lq_1 (fun k5 => f_X13_all_5s fu rec  k5 x1) n
set_option maxHeartbeats 4000000 in
set_option maxRecDepth 100000 in
theorem t_X13_all_5s {G : GG} {p : Program} {l : Launch} {e : Env} {s : State} {m : MethodId} {args : Array Value} {below : List Frame} {meth : Method} {c : Code} {S : ST} {fu : Nat} {z : GV} {a : Nat} {v0 : GV} {d : Nat} {rec : GV → Int32 → Option (GV)}  (hM : MC G p s m args c cX13_all w_X13_all RX13) (hml : c.maxLocals = 3) (hr : meth.sig.returnType = none) (hlk : meth.locks = false) (hrec : ∀ (S : ST) (v : GV) (x1 : Int32) (z : GV), gC v = 12 → rec v x1 = some z → Ct l yX13_takePart w_X13_takePart (RM_X13_takePart d) G (st S a v) [.ref a, .int x1] none (st S a z) 0 0) (hc0 : gC v0 = 12) {k5 : GV → Option (GV)} {x1 : Int32}  (hk5 : ∀ (v : GV), k5 v = some z → gC v = 12 → ∀ (H : Heap) (locs : List Loc), WB G (st S a v) s H locs → ∀ (ls : Array Slot), lv_has ls 3 [(0, .ref a), (1, .int x1)] → W p l e (RM_X13_all d) s m args below meth c H locs 0 0 (QR G below args s none (st S a v0) (st S a z)) (F0 m 5 ls [])) : ∀ (v : GV), f_X13_all_5s fu rec  k5 x1 v = some z → gC v = 12 → ∀ (H : Heap) (locs : List Loc), WB G (st S a v) s H locs → ∀ (ls : Array Slot), lv_has ls 3 [(0, .ref a), (1, .int x1)] → W p l e (RM_X13_all d) s m args below meth c H locs 0 0 (QR G below args s none (st S a v0) (st S a z)) (F0 m 5 ls []) := by
  intro v hf hc H locs hW ls hl
  have hx := hM.1
  have hb := hM.2.1
  refine lv_aload_n hx hb dX13_all_5 rfl (lv_at hl 0 rfl) ?_
  refine lv_bipush (v := (23 : Int32)) hx hb dX13_all_6 (by decide) ?_
  obtain ⟨r1, hr1, hf⟩ := bd_elim hf
  refine b_callVi [.int (23 : Int32)] [] hM hml hl.1 hW hc rfl (by decide) (c_X13_isWord l G fu _ a v _ hc hr1) (cwV 1 hM.2.2.2.1 (gV mk_RX13_201 im_X13_isWord se_X13_isWord it_RX13 cd_X13_isWord) rfl rfl rfl (by decide +kernel) ⟨by show 0 + 1 ≤ 5 * d + 6; omega, by show 8 + (2 + 11) + 0 ≤ 110 * d + 133; omega⟩) rfl rfl (Nat.le_of_ble_eq_true rfl) ⟨Nat.zero_le _, Nat.zero_le _⟩ dX13_all_8 (fun H locs hW hk => ?_)
  refine lv_if_ne (tgt := 23) hx hb dX13_all_11 (by decide) (fun c2 => ?_) (fun c2 => ?_)
  · have hf := if_f c2 hf
    exact t_X13_all_23 (fu := fu) hM hml hr hlk hrec hc0 hk5 hf hc _ _ hW _ (lv_sub hl [0, 1] rfl)
  · have hf := if_t c2 hf
    refine lv_aload_n hx hb dX13_all_14 rfl (lv_at hl 0 rfl) ?_
    refine lv_bipush (v := (24 : Int32)) hx hb dX13_all_15 (by decide) ?_
    obtain ⟨r3, hr3, hf⟩ := bd_elim hf
    refine b_callVi [.int (24 : Int32)] [] hM hml hl.1 hW hc rfl (by decide) (c_X13_isWord l G fu _ a v _ hc hr3) (cwV 1 hM.2.2.2.1 (gV mk_RX13_201 im_X13_isWord se_X13_isWord it_RX13 cd_X13_isWord) rfl rfl rfl (by decide +kernel) ⟨by show 0 + 1 ≤ 5 * d + 6; omega, by show 8 + (2 + 11) + 0 ≤ 110 * d + 133; omega⟩) rfl rfl (Nat.le_of_ble_eq_true rfl) ⟨Nat.zero_le _, Nat.zero_le _⟩ dX13_all_17 (fun H locs hW hk => ?_)
    refine lv_if_eq (tgt := 64) hx hb dX13_all_20 (by decide) (fun c4 => ?_) (fun c4 => ?_)
    · have hf := if_t c4 hf
      cases hf
      exact W.vret hx hb hr (b_ret0 hW (keep_s2 hc0 hc) _) hW.2.2.2 dX13_all_64 hlk
    · have hf := if_f c4 hf
      exact t_X13_all_23 (fu := fu) hM hml hr hlk hrec hc0 hk5 hf hc _ _ hW _ (lv_sub hl [0, 1] rfl)
theorem t_X13_all_5 {G : GG} {p : Program} {l : Launch} {e : Env} {s : State} {m : MethodId} {args : Array Value} {below : List Frame} {meth : Method} {c : Code} {S : ST} {fu : Nat} {z : GV} {a : Nat} {v0 : GV} {d : Nat} {rec : GV → Int32 → Option (GV)}  {x1 : Int32} (hM : MC G p s m args c cX13_all w_X13_all RX13) (hml : c.maxLocals = 3) (hr : meth.sig.returnType = none) (hlk : meth.locks = false) (hrec : ∀ (S : ST) (v : GV) (x1 : Int32) (z : GV), gC v = 12 → rec v x1 = some z → Ct l yX13_takePart w_X13_takePart (RM_X13_takePart d) G (st S a v) [.ref a, .int x1] none (st S a z) 0 0) (hc0 : gC v0 = 12)  : ∀ {n : Nat} (v : GV), f_X13_all_5 fu n rec  x1 v = some z → gC v = 12 → ∀ (H : Heap) (locs : List Loc), WB G (st S a v) s H locs → ∀ (ls : Array Slot), lv_has ls 3 [(0, .ref a), (1, .int x1)] → W p l e (RM_X13_all d) s m args below meth c H locs 0 0 (QR G below args s none (st S a v0) (st S a z)) (F0 m 5 ls []) := by
  intro n
  induction n with
  | zero => intro v hf; cases hf
  | succ n ih => intro v hf; exact t_X13_all_5s (fu := fu) hM hml hr hlk hrec hc0  (k5 := f_X13_all_5 fu n rec  x1) ih _ hf
noncomputable def f_X13_all_0 (fu : Nat) (rec : GV → Int32 → Option (GV))  (v : GV) (x1 : Int32) : Option (GV) :=
  bd (f_X13_test fu rec v x1) fun v2 =>
  f_X13_all_5 fu fu rec x1 v2
set_option maxHeartbeats 4000000 in
set_option maxRecDepth 100000 in
theorem t_X13_all_0 {G : GG} {p : Program} {l : Launch} {e : Env} {s : State} {m : MethodId} {args : Array Value} {below : List Frame} {meth : Method} {c : Code} {S : ST} {fu : Nat} {z : GV} {a : Nat} {v0 : GV} {d : Nat} {rec : GV → Int32 → Option (GV)}  {v : GV} {x1 : Int32} (hM : MC G p s m args c cX13_all w_X13_all RX13) (hml : c.maxLocals = 3) (hr : meth.sig.returnType = none) (hlk : meth.locks = false) (hrec : ∀ (S : ST) (v : GV) (x1 : Int32) (z : GV), gC v = 12 → rec v x1 = some z → Ct l yX13_takePart w_X13_takePart (RM_X13_takePart d) G (st S a v) [.ref a, .int x1] none (st S a z) 0 0) (hc0 : gC v0 = 12)  (hf : f_X13_all_0 fu rec  v x1 = some z) : gC v = 12 → ∀ (H : Heap) (locs : List Loc), WB G (st S a v) s H locs → ∀ (ls : Array Slot), lv_has ls 3 [(0, .ref a), (1, .int x1)] → W p l e (RM_X13_all d) s m args below meth c H locs 0 0 (QR G below args s none (st S a v0) (st S a z)) (F0 m 0 ls []) := by
  intro hc H locs hW ls hl
  have hx := hM.1
  have hb := hM.2.1
  refine lv_aload_n hx hb dX13_all_0 rfl (lv_at hl 0 rfl) ?_
  refine lv_iload_n hx hb dX13_all_1 rfl (lv_at hl 1 rfl) ?_
  obtain ⟨v2, hr1, hf⟩ := bd_elim hf
  refine b_callVv [.int x1] [] hM hml hl.1 hW hc rfl (by decide) (c_X13_test l G fu hrec _ v _ hc hr1) (cwV 1 hM.2.2.2.1 (gV mk_RX13_302 im_X13_test se_X13_test it_RX13 cd_X13_test) rfl rfl rfl (by decide +kernel) ⟨by show (5 * d + 5) + 1 ≤ 5 * d + 6; omega, by show 8 + (3 + 11) + (110 * d + 111) ≤ 110 * d + 133; omega⟩) rfl rfl (Nat.le_of_ble_eq_true rfl) ⟨Nat.zero_le _, Nat.zero_le _⟩ dX13_all_2 (fun H locs hW hk => ?_)
  have hc := keep_at hc hk
  exact t_X13_all_5 (fu := fu) hM hml hr hlk hrec hc0 _ hf hc _ _ hW _ (lv_sub hl [0, 1] rfl)
noncomputable def f_X13_all (fu : Nat) (rec : GV → Int32 → Option (GV)) (v : GV) (x1 : Int32) : Option (GV) := f_X13_all_0 fu rec v x1
set_option maxHeartbeats 4000000 in
set_option maxRecDepth 100000 in
theorem c_X13_all (l : Launch) (G : GG) (fu : Nat) {a d : Nat} {rec : GV → Int32 → Option (GV)} (hrec : ∀ (S : ST) (v : GV) (x1 : Int32) (z : GV), gC v = 12 → rec v x1 = some z → Ct l yX13_takePart w_X13_takePart (RM_X13_takePart d) G (st S a v) [.ref a, .int x1] none (st S a z) 0 0) (S : ST) (v : GV) (x1 : Int32) {z : GV} (hc : gC v = 12) (hf : f_X13_all fu rec v x1 = some z) : Ct l yX13_all w_X13_all (RM_X13_all d) G (st S a v) [.ref a, .int x1] none (st S a z) 0 0 := by
  refine Met.ofW (cc := cX13_all) (maxL := 3) (ret := none) (by decide) rfl ?_
  intro p e s m args below meth c s₁ B hml hv
  obtain ⟨rfl, hB, hK, hz⟩ := hv
  have hM : MC G p s m _ c cX13_all w_X13_all RX13 := ⟨B.exec, B.bytes, findClass_of_methodNamed B.named, atoms_spec (ws := w_X13_all) B.pre, hK, hz⟩
  have hW : WB G (st S a v) s s.heap [] := ⟨hB, va_S.rf⟩
  have hl := lv_entry ([.ref a, .int x1]) (n := 3) (Nat.le_of_ble_eq_true rfl)
  rw [lg_entry_eq]
  generalize (lg_sl ([.ref a, .int x1]) ++ List.replicate (3 - (lg_sl ([.ref a, .int x1])).length) Slot.unset).toArray = ls at hl ⊢
  have hl : lv_has ls 3 [(0, .ref a), (1, .int x1)] := hl
  exact t_X13_all_0 hM hml B.returns B.notSynchronized hrec hc hf hc _ _ hW _ (lv_sub hl [0, 1] rfl)

noncomputable def f_X13_takePart_187 (fu : Nat) (rec : GV → Int32 → Option (GV))  (v : GV) (t1 : Int32) (t2 : Int32) : Option (GV) :=
  bd (f_X13_emit fu v t1 t2) fun v2 =>
  nm (sI v2 7 ((gI v2 7) + (1 : Int32))) fun v3 =>
  some v3
set_option maxHeartbeats 4000000 in
set_option maxRecDepth 100000 in
theorem t_X13_takePart_187 {G : GG} {p : Program} {l : Launch} {e : Env} {s : State} {m : MethodId} {args : Array Value} {below : List Frame} {meth : Method} {c : Code} {S : ST} {fu : Nat} {z : GV} {a : Nat} {v0 : GV} {d : Nat} {rec : GV → Int32 → Option (GV)}  {v : GV} {t1 : Int32} {t2 : Int32} (hM : MC G p s m args c cX13_takePart w_X13_takePart RX13) (hml : c.maxLocals = 4) (hr : meth.sig.returnType = none) (hlk : meth.locks = false) (hrec : ∀ (S : ST) (v : GV) (x1 : Int32) (z : GV), gC v = 12 → rec v x1 = some z → Ct l yX13_takePart w_X13_takePart (RM_X13_takePart d) G (st S a v) [.ref a, .int x1] none (st S a z) 0 0) (hc0 : gC v0 = 12)  (hf : f_X13_takePart_187 fu rec  v t1 t2 = some z) : gC v = 12 → ∀ (H : Heap) (locs : List Loc), WB G (st S a v) s H locs → ∀ (ls : Array Slot), lv_has ls 4 [(0, .ref a)] → W p l e (RM_X13_takePart (d + 1)) s m args below meth c H locs 0 0 (QR G below args s none (st S a v0) (st S a z)) (F0 m 187 ls [.int t2, .int t1, .ref a]) := by
  intro hc H locs hW ls hl
  have hx := hM.1
  have hb := hM.2.1
  obtain ⟨v2, hr1, hf⟩ := bd_elim hf
  refine b_callVv [.int t1, .int t2] [] hM hml hl.1 hW hc rfl (by decide) (c_X13_emit l G fu _ a v _ _ hc hr1) (cwV 2 hM.2.2.2.1 (gV mk_RX13_295 im_X13_emit se_X13_emit it_RX13 cd_X13_emit) rfl rfl rfl (by decide +kernel) ⟨by show 0 + 1 ≤ 5 * (d + 1) + 2; omega, by show 8 + (3 + 11) + 0 ≤ 110 * (d + 1) + 45; omega⟩) rfl rfl (Nat.le_of_ble_eq_true rfl) ⟨Nat.zero_le _, Nat.zero_le _⟩ dX13_takePart_187 (fun H locs hW hk => ?_)
  have hc := keep_at hc hk
  refine lv_aload_n hx hb dX13_takePart_190 rfl (lv_at hl 0 rfl) ?_
  refine lv_dup hx hb dX13_takePart_191 rfl ?_
  refine b_get hM hW 11 7 hc rfl rfl (by decide) wi_X13 (wgm fk_RX13_189) (x := .int (gI v2 7)) rfl dX13_takePart_192 ?_
  refine lv_iconst (v := (1 : Int32)) hx hb dX13_takePart_195 (by decide) ?_
  refine lv_iadd hx hb dX13_takePart_196 ?_
  refine b_putI hM hW 11 7 hc rfl rfl (by decide) wi_X13 tyX13 tyX13_ok nmX13 (wgm fk_RX13_189) rfl rfl rfl dX13_takePart_197 (fun v3 ev3 hc H locs hW => ?_)
  have hf := nm_at ev3 hf
  cases hf
  exact W.vret hx hb hr (b_ret0 hW (keep_s2 hc0 hc) _) hW.2.2.2 dX13_takePart_200 hlk
noncomputable def f_X13_takePart_169 (fu : Nat) (rec : GV → Int32 → Option (GV))  (v : GV) (x2 : Int32) (x3 : Int32) (t1 : Int32) : Option (GV) :=
  if x2 = 0 then
    (f_X13_takePart_187 fu rec v t1 x3)
  else
    (nm ((gI v 7)) fun y2 =>
    ck (inb y2 1002) <|
    f_X13_takePart_187 fu rec v t1 ((gL v 6 y2.toNatClampNeg)).toInt32)
set_option maxHeartbeats 4000000 in
set_option maxRecDepth 100000 in
theorem t_X13_takePart_169 {G : GG} {p : Program} {l : Launch} {e : Env} {s : State} {m : MethodId} {args : Array Value} {below : List Frame} {meth : Method} {c : Code} {S : ST} {fu : Nat} {z : GV} {a : Nat} {v0 : GV} {d : Nat} {rec : GV → Int32 → Option (GV)}  {v : GV} {x2 : Int32} {x3 : Int32} {t1 : Int32} (hM : MC G p s m args c cX13_takePart w_X13_takePart RX13) (hml : c.maxLocals = 4) (hr : meth.sig.returnType = none) (hlk : meth.locks = false) (hrec : ∀ (S : ST) (v : GV) (x1 : Int32) (z : GV), gC v = 12 → rec v x1 = some z → Ct l yX13_takePart w_X13_takePart (RM_X13_takePart d) G (st S a v) [.ref a, .int x1] none (st S a z) 0 0) (hc0 : gC v0 = 12)  (hf : f_X13_takePart_169 fu rec  v x2 x3 t1 = some z) : gC v = 12 → ∀ (H : Heap) (locs : List Loc), WB G (st S a v) s H locs → ∀ (ls : Array Slot), lv_has ls 4 [(0, .ref a), (2, .int x2), (3, .int x3)] → W p l e (RM_X13_takePart (d + 1)) s m args below meth c H locs 0 0 (QR G below args s none (st S a v0) (st S a z)) (F0 m 169 ls [.int t1, .ref a]) := by
  intro hc H locs hW ls hl
  have hx := hM.1
  have hb := hM.2.1
  refine lv_iload_n hx hb dX13_takePart_169 rfl (lv_at hl 1 rfl) ?_
  refine lv_if_eq (tgt := 186) hx hb dX13_takePart_170 (by decide) (fun c1 => ?_) (fun c1 => ?_)
  · have hf := if_t c1 hf
    refine lv_iload_n hx hb dX13_takePart_186 rfl (lv_at hl 2 rfl) ?_
    exact t_X13_takePart_187 (fu := fu) hM hml hr hlk hrec hc0 hf hc _ _ hW _ (lv_sub hl [0] rfl)
  · have hf := if_f c1 hf
    refine lv_aload_n hx hb dX13_takePart_173 rfl (lv_at hl 0 rfl) ?_
    refine b_get hM hW 11 6 hc rfl rfl (by decide) wi_X13 (wgm fk_RX13_30) (x := .ref (a + 4)) rfl dX13_takePart_174 ?_
    refine lv_aload_n hx hb dX13_takePart_177 rfl (lv_at hl 0 rfl) ?_
    refine b_get hM hW 11 7 hc rfl rfl (by decide) wi_X13 (wgm fk_RX13_189) (x := .int (gI v 7)) rfl dX13_takePart_178 ?_
    refine lv_topi (fun y2 ey2 => ?_)
    have hf := nm_at ey2 hf
    obtain ⟨h3, hf⟩ := ck_elim hf
    refine b_lald (n := 1002) hM hW 11 6 hc (by decide) rfl rfl rfl rfl h3 dX13_takePart_181 ?_
    refine lv_l2i hx hb dX13_takePart_182 rfl ?_
    refine lv_goto (tgt := 187) hx hb dX13_takePart_183 (by decide) ?_
    exact t_X13_takePart_187 (fu := fu) hM hml hr hlk hrec hc0 hf hc _ _ hW _ (lv_sub hl [0] rfl)
noncomputable def f_X13_takePart_101 (fu : Nat) (rec : GV → Int32 → Option (GV))  (v : GV) (x1 : Int32) (x2 : Int32) (x3 : Int32) : Option (GV) :=
  if (gI v 8) ≤ 0 then
    (bd2 (f_X13_hasWord fu v (22 : Int32)) fun r2 v3 =>
    if r2 = 0 then
      (bd2 (f_X13_hasSign fu v3 (40 : Int32)) fun r5 v6 =>
      if r5 = 0 then
        (if x2 = 0 then
          (f_X13_takePart_169 fu rec v6 x2 x3 (2 : Int32))
        else
          (f_X13_takePart_169 fu rec v6 x2 x3 (1 : Int32)))
      else
        (bd (f_X13_all fu rec v6 (x1 + (1 : Int32))) fun v10 =>
        bd (f_X13_takeSign fu v10 (41 : Int32)) fun v12 =>
        some v12))
    else
      (bd (rec v3 (x1 + (1 : Int32))) fun v14 =>
      bd (f_X13_emit fu v14 (3 : Int32) (0 : Int32)) fun v16 =>
      some v16))
  else
    (some v)
set_option maxHeartbeats 4000000 in
set_option maxRecDepth 100000 in
theorem t_X13_takePart_101 {G : GG} {p : Program} {l : Launch} {e : Env} {s : State} {m : MethodId} {args : Array Value} {below : List Frame} {meth : Method} {c : Code} {S : ST} {fu : Nat} {z : GV} {a : Nat} {v0 : GV} {d : Nat} {rec : GV → Int32 → Option (GV)}  {v : GV} {x1 : Int32} {x2 : Int32} {x3 : Int32} (hM : MC G p s m args c cX13_takePart w_X13_takePart RX13) (hml : c.maxLocals = 4) (hr : meth.sig.returnType = none) (hlk : meth.locks = false) (hrec : ∀ (S : ST) (v : GV) (x1 : Int32) (z : GV), gC v = 12 → rec v x1 = some z → Ct l yX13_takePart w_X13_takePart (RM_X13_takePart d) G (st S a v) [.ref a, .int x1] none (st S a z) 0 0) (hc0 : gC v0 = 12)  (hf : f_X13_takePart_101 fu rec  v x1 x2 x3 = some z) : gC v = 12 → ∀ (H : Heap) (locs : List Loc), WB G (st S a v) s H locs → ∀ (ls : Array Slot), lv_has ls 4 [(0, .ref a), (1, .int x1), (2, .int x2), (3, .int x3)] → W p l e (RM_X13_takePart (d + 1)) s m args below meth c H locs 0 0 (QR G below args s none (st S a v0) (st S a z)) (F0 m 101 ls []) := by
  intro hc H locs hW ls hl
  have hx := hM.1
  have hb := hM.2.1
  refine lv_aload_n hx hb dX13_takePart_101 rfl (lv_at hl 0 rfl) ?_
  refine b_get hM hW 11 8 hc rfl rfl (by decide) wi_X13 (wgm fk_RX13_192) (x := .int (gI v 8)) rfl dX13_takePart_102 ?_
  refine lv_if_le (tgt := 109) hx hb dX13_takePart_105 (by decide) (fun c1 => ?_) (fun c1 => ?_)
  · have hf := if_t c1 hf
    refine lv_aload_n hx hb dX13_takePart_109 rfl (lv_at hl 0 rfl) ?_
    refine lv_bipush (v := (22 : Int32)) hx hb dX13_takePart_110 (by decide) ?_
    obtain ⟨r2, v3, hr2, hf⟩ := bd2_elim hf
    refine b_callVi [.int (22 : Int32)] [] hM hml hl.1 hW hc rfl (by decide) (c_X13_hasWord l G fu _ a v _ hc hr2) (cwV 1 hM.2.2.2.1 (gV mk_RX13_204 im_X13_hasWord se_X13_hasWord it_RX13 cd_X13_hasWord) rfl rfl rfl (by decide +kernel) ⟨by show 1 + 1 ≤ 5 * (d + 1) + 2; omega, by show 8 + (3 + 11) + 21 ≤ 110 * (d + 1) + 45; omega⟩) rfl rfl (Nat.le_of_ble_eq_true rfl) ⟨Nat.zero_le _, Nat.zero_le _⟩ dX13_takePart_112 (fun H locs hW hk => ?_)
    have hc := keep_at hc hk
    refine lv_if_eq (tgt := 134) hx hb dX13_takePart_115 (by decide) (fun c4 => ?_) (fun c4 => ?_)
    · have hf := if_t c4 hf
      refine lv_aload_n hx hb dX13_takePart_134 rfl (lv_at hl 0 rfl) ?_
      refine lv_bipush (v := (40 : Int32)) hx hb dX13_takePart_135 (by decide) ?_
      obtain ⟨r5, v6, hr5, hf⟩ := bd2_elim hf
      refine b_callVi [.int (40 : Int32)] [] hM hml hl.1 hW hc rfl (by decide) (c_X13_hasSign l G fu _ a v3 _ hc hr5) (cwV 1 hM.2.2.2.1 (gV mk_RX13_308 im_X13_hasSign se_X13_hasSign it_RX13 cd_X13_hasSign) rfl rfl rfl (by decide +kernel) ⟨by show 1 + 1 ≤ 5 * (d + 1) + 2; omega, by show 8 + (3 + 11) + 21 ≤ 110 * (d + 1) + 45; omega⟩) rfl rfl (Nat.le_of_ble_eq_true rfl) ⟨Nat.zero_le _, Nat.zero_le _⟩ dX13_takePart_137 (fun H locs hW hk => ?_)
      have hc := keep_at hc hk
      refine lv_if_eq (tgt := 159) hx hb dX13_takePart_140 (by decide) (fun c7 => ?_) (fun c7 => ?_)
      · have hf := if_t c7 hf
        refine lv_aload_n hx hb dX13_takePart_159 rfl (lv_at hl 0 rfl) ?_
        refine lv_iload_n hx hb dX13_takePart_160 rfl (lv_at hl 2 rfl) ?_
        refine lv_if_eq (tgt := 168) hx hb dX13_takePart_161 (by decide) (fun c8 => ?_) (fun c8 => ?_)
        · have hf := if_t c8 hf
          refine lv_iconst (v := (2 : Int32)) hx hb dX13_takePart_168 (by decide) ?_
          exact t_X13_takePart_169 (fu := fu) hM hml hr hlk hrec hc0 hf hc _ _ hW _ (lv_sub hl [0, 2, 3] rfl)
        · have hf := if_f c8 hf
          refine lv_iconst (v := (1 : Int32)) hx hb dX13_takePart_164 (by decide) ?_
          refine lv_goto (tgt := 169) hx hb dX13_takePart_165 (by decide) ?_
          exact t_X13_takePart_169 (fu := fu) hM hml hr hlk hrec hc0 hf hc _ _ hW _ (lv_sub hl [0, 2, 3] rfl)
      · have hf := if_f c7 hf
        refine lv_aload_n hx hb dX13_takePart_143 rfl (lv_at hl 0 rfl) ?_
        refine lv_iload_n hx hb dX13_takePart_144 rfl (lv_at hl 1 rfl) ?_
        refine lv_iconst (v := (1 : Int32)) hx hb dX13_takePart_145 (by decide) ?_
        refine lv_iadd hx hb dX13_takePart_146 ?_
        obtain ⟨v10, hr9, hf⟩ := bd_elim hf
        refine b_callVv [.int (x1 + (1 : Int32))] [] hM hml hl.1 hW hc rfl (by decide) (c_X13_all l G fu hrec _ v6 _ hc hr9) (cwV 1 hM.2.2.2.1 (gV mk_RX13_292 im_X13_all se_X13_all it_RX13 cd_X13_all) rfl rfl rfl (by decide +kernel) ⟨by show (5 * d + 6) + 1 ≤ 5 * (d + 1) + 2; omega, by show 8 + (3 + 11) + (110 * d + 133) ≤ 110 * (d + 1) + 45; omega⟩) rfl rfl (Nat.le_of_ble_eq_true rfl) ⟨Nat.zero_le _, Nat.zero_le _⟩ dX13_takePart_147 (fun H locs hW hk => ?_)
        have hc := keep_at hc hk
        refine lv_aload_n hx hb dX13_takePart_150 rfl (lv_at hl 0 rfl) ?_
        refine lv_bipush (v := (41 : Int32)) hx hb dX13_takePart_151 (by decide) ?_
        obtain ⟨v12, hr11, hf⟩ := bd_elim hf
        refine b_callVv [.int (41 : Int32)] [] hM hml hl.1 hW hc rfl (by decide) (c_X13_takeSign l G fu _ a v10 _ hc hr11) (cwV 1 hM.2.2.2.1 (gV mk_RX13_248 im_X13_takeSign se_X13_takeSign it_RX13 cd_X13_takeSign) rfl rfl rfl (by decide +kernel) ⟨by show 1 + 1 ≤ 5 * (d + 1) + 2; omega, by show 8 + (2 + 11) + 21 ≤ 110 * (d + 1) + 45; omega⟩) rfl rfl (Nat.le_of_ble_eq_true rfl) ⟨Nat.zero_le _, Nat.zero_le _⟩ dX13_takePart_153 (fun H locs hW hk => ?_)
        have hc := keep_at hc hk
        refine lv_goto (tgt := 200) hx hb dX13_takePart_156 (by decide) ?_
        cases hf
        exact W.vret hx hb hr (b_ret0 hW (keep_s2 hc0 hc) _) hW.2.2.2 dX13_takePart_200 hlk
    · have hf := if_f c4 hf
      refine lv_aload_n hx hb dX13_takePart_118 rfl (lv_at hl 0 rfl) ?_
      refine lv_iload_n hx hb dX13_takePart_119 rfl (lv_at hl 1 rfl) ?_
      refine lv_iconst (v := (1 : Int32)) hx hb dX13_takePart_120 (by decide) ?_
      refine lv_iadd hx hb dX13_takePart_121 ?_
      obtain ⟨v14, hr13, hf⟩ := bd_elim hf
      refine b_callVv [.int (x1 + (1 : Int32))] [] hM hml hl.1 hW hc rfl (by decide) (hrec _ v3 _ _ hc hr13) (cwV 1 hM.2.2.2.1 (gV mk_RX13_314 im_X13_takePart se_X13_takePart it_RX13 cd_X13_takePart) rfl rfl rfl (by decide +kernel) ⟨by show (5 * d + 2) + 1 ≤ 5 * (d + 1) + 2; omega, by show 8 + (4 + 11) + (110 * d + 45) ≤ 110 * (d + 1) + 45; omega⟩) rfl rfl (Nat.le_of_ble_eq_true rfl) ⟨Nat.zero_le _, Nat.zero_le _⟩ dX13_takePart_122 (fun H locs hW hk => ?_)
      have hc := keep_at hc hk
      refine lv_aload_n hx hb dX13_takePart_125 rfl (lv_at hl 0 rfl) ?_
      refine lv_iconst (v := (3 : Int32)) hx hb dX13_takePart_126 (by decide) ?_
      refine lv_iconst (v := (0 : Int32)) hx hb dX13_takePart_127 (by decide) ?_
      obtain ⟨v16, hr15, hf⟩ := bd_elim hf
      refine b_callVv [.int (3 : Int32), .int (0 : Int32)] [] hM hml hl.1 hW hc rfl (by decide) (c_X13_emit l G fu _ a v14 _ _ hc hr15) (cwV 2 hM.2.2.2.1 (gV mk_RX13_295 im_X13_emit se_X13_emit it_RX13 cd_X13_emit) rfl rfl rfl (by decide +kernel) ⟨by show 0 + 1 ≤ 5 * (d + 1) + 2; omega, by show 8 + (3 + 11) + 0 ≤ 110 * (d + 1) + 45; omega⟩) rfl rfl (Nat.le_of_ble_eq_true rfl) ⟨Nat.zero_le _, Nat.zero_le _⟩ dX13_takePart_128 (fun H locs hW hk => ?_)
      have hc := keep_at hc hk
      refine lv_goto (tgt := 200) hx hb dX13_takePart_131 (by decide) ?_
      cases hf
      exact W.vret hx hb hr (b_ret0 hW (keep_s2 hc0 hc) _) hW.2.2.2 dX13_takePart_200 hlk
  · have hf := if_f c1 hf
    cases hf
    exact W.vret hx hb hr (b_ret0 hW (keep_s2 hc0 hc) _) hW.2.2.2 dX13_takePart_108 hlk
noncomputable def f_X13_takePart_91 (fu : Nat) (rec : GV → Int32 → Option (GV))  (v : GV) (x1 : Int32) (x2 : Int32) (x3 : Int32) : Option (GV) :=
  if x1 = (5 : Int32) then
    (bd (f_X13_wrong fu v (5 : Int32)) fun v3 =>
    f_X13_takePart_101 fu rec v3 x1 x2 x3)
  else
    (f_X13_takePart_101 fu rec v x1 x2 x3)
set_option maxHeartbeats 4000000 in
set_option maxRecDepth 100000 in
theorem t_X13_takePart_91 {G : GG} {p : Program} {l : Launch} {e : Env} {s : State} {m : MethodId} {args : Array Value} {below : List Frame} {meth : Method} {c : Code} {S : ST} {fu : Nat} {z : GV} {a : Nat} {v0 : GV} {d : Nat} {rec : GV → Int32 → Option (GV)}  {v : GV} {x1 : Int32} {x2 : Int32} {x3 : Int32} (hM : MC G p s m args c cX13_takePart w_X13_takePart RX13) (hml : c.maxLocals = 4) (hr : meth.sig.returnType = none) (hlk : meth.locks = false) (hrec : ∀ (S : ST) (v : GV) (x1 : Int32) (z : GV), gC v = 12 → rec v x1 = some z → Ct l yX13_takePart w_X13_takePart (RM_X13_takePart d) G (st S a v) [.ref a, .int x1] none (st S a z) 0 0) (hc0 : gC v0 = 12)  (hf : f_X13_takePart_91 fu rec  v x1 x2 x3 = some z) : gC v = 12 → ∀ (H : Heap) (locs : List Loc), WB G (st S a v) s H locs → ∀ (ls : Array Slot), lv_has ls 4 [(0, .ref a), (1, .int x1), (2, .int x2), (3, .int x3)] → W p l e (RM_X13_takePart (d + 1)) s m args below meth c H locs 0 0 (QR G below args s none (st S a v0) (st S a z)) (F0 m 91 ls []) := by
  intro hc H locs hW ls hl
  have hx := hM.1
  have hb := hM.2.1
  refine lv_iload_n hx hb dX13_takePart_91 rfl (lv_at hl 1 rfl) ?_
  refine lv_iconst (v := (5 : Int32)) hx hb dX13_takePart_92 (by decide) ?_
  refine lv_icmp_ne (tgt := 101) hx hb dX13_takePart_93 (by decide) (fun c1 => ?_) (fun c1 => ?_)
  · have hf := if_f c1 hf
    exact t_X13_takePart_101 (fu := fu) hM hml hr hlk hrec hc0 hf hc _ _ hW _ (lv_sub hl [0, 1, 2, 3] rfl)
  · have hf := if_t c1 hf
    refine lv_aload_n hx hb dX13_takePart_96 rfl (lv_at hl 0 rfl) ?_
    refine lv_iconst (v := (5 : Int32)) hx hb dX13_takePart_97 (by decide) ?_
    obtain ⟨v3, hr2, hf⟩ := bd_elim hf
    refine b_callVv [.int (5 : Int32)] [] hM hml hl.1 hW hc rfl (by decide) (c_X13_wrong l G fu _ a v _ hc hr2) (cwV 1 hM.2.2.2.1 (gV mk_RX13_198 im_X13_wrong se_X13_wrong it_RX13 cd_X13_wrong) rfl rfl rfl (by decide +kernel) ⟨by show 0 + 1 ≤ 5 * (d + 1) + 2; omega, by show 8 + (2 + 11) + 0 ≤ 110 * (d + 1) + 45; omega⟩) rfl rfl (Nat.le_of_ble_eq_true rfl) ⟨Nat.zero_le _, Nat.zero_le _⟩ dX13_takePart_98 (fun H locs hW hk => ?_)
    have hc := keep_at hc hk
    exact t_X13_takePart_101 (fu := fu) hM hml hr hlk hrec hc0 hf hc _ _ hW _ (lv_sub hl [0, 1, 2, 3] rfl)
noncomputable def f_X13_takePart_56 (fu : Nat) (rec : GV → Int32 → Option (GV))  (v : GV) (x1 : Int32) (x2 : Int32) (t0 : Int32) : Option (GV) :=
  if 0 ≤ t0 then
    (f_X13_takePart_91 fu rec v x1 x2 t0)
  else
    (if x2 = 0 then
      (bd (f_X13_isSign fu v (40 : Int32)) fun r3 =>
      if r3 = 0 then
        (bd (f_X13_isWord fu v (22 : Int32)) fun r5 =>
        if r5 = 0 then
          (bd (f_X13_wrong fu v (1 : Int32)) fun v8 =>
          f_X13_takePart_101 fu rec v8 x1 x2 t0)
        else
          (f_X13_takePart_91 fu rec v x1 x2 t0))
      else
        (f_X13_takePart_91 fu rec v x1 x2 t0))
    else
      (f_X13_takePart_91 fu rec v x1 x2 t0))
set_option maxHeartbeats 4000000 in
set_option maxRecDepth 100000 in
theorem t_X13_takePart_56 {G : GG} {p : Program} {l : Launch} {e : Env} {s : State} {m : MethodId} {args : Array Value} {below : List Frame} {meth : Method} {c : Code} {S : ST} {fu : Nat} {z : GV} {a : Nat} {v0 : GV} {d : Nat} {rec : GV → Int32 → Option (GV)}  {v : GV} {x1 : Int32} {x2 : Int32} {t0 : Int32} (hM : MC G p s m args c cX13_takePart w_X13_takePart RX13) (hml : c.maxLocals = 4) (hr : meth.sig.returnType = none) (hlk : meth.locks = false) (hrec : ∀ (S : ST) (v : GV) (x1 : Int32) (z : GV), gC v = 12 → rec v x1 = some z → Ct l yX13_takePart w_X13_takePart (RM_X13_takePart d) G (st S a v) [.ref a, .int x1] none (st S a z) 0 0) (hc0 : gC v0 = 12)  (hf : f_X13_takePart_56 fu rec  v x1 x2 t0 = some z) : gC v = 12 → ∀ (H : Heap) (locs : List Loc), WB G (st S a v) s H locs → ∀ (ls : Array Slot), lv_has ls 4 [(0, .ref a), (1, .int x1), (2, .int x2)] → W p l e (RM_X13_takePart (d + 1)) s m args below meth c H locs 0 0 (QR G below args s none (st S a v0) (st S a z)) (F0 m 56 ls [.int t0]) := by
  intro hc H locs hW ls hl
  have hx := hM.1
  have hb := hM.2.1
  refine lv_istore_n (lv' := [(3, .int t0), (0, .ref a), (1, .int x1), (2, .int x2)]) hx hb dX13_takePart_56 rfl hl (by decide) rfl (fun ls hl => ?_)
  refine lv_iload_n hx hb dX13_takePart_57 rfl (lv_at hl 0 rfl) ?_
  refine lv_if_ge (tgt := 91) hx hb dX13_takePart_58 (by decide) (fun c1 => ?_) (fun c1 => ?_)
  · have hf := if_t c1 hf
    exact t_X13_takePart_91 (fu := fu) hM hml hr hlk hrec hc0 hf hc _ _ hW _ (lv_sub hl [1, 2, 3, 0] rfl)
  · have hf := if_f c1 hf
    refine lv_iload_n hx hb dX13_takePart_61 rfl (lv_at hl 3 rfl) ?_
    refine lv_if_ne (tgt := 91) hx hb dX13_takePart_62 (by decide) (fun c2 => ?_) (fun c2 => ?_)
    · have hf := if_f c2 hf
      exact t_X13_takePart_91 (fu := fu) hM hml hr hlk hrec hc0 hf hc _ _ hW _ (lv_sub hl [1, 2, 3, 0] rfl)
    · have hf := if_t c2 hf
      refine lv_aload_n hx hb dX13_takePart_65 rfl (lv_at hl 1 rfl) ?_
      refine lv_bipush (v := (40 : Int32)) hx hb dX13_takePart_66 (by decide) ?_
      obtain ⟨r3, hr3, hf⟩ := bd_elim hf
      refine b_callVi [.int (40 : Int32)] [] hM hml hl.1 hW hc rfl (by decide) (c_X13_isSign l G fu _ a v _ hc hr3) (cwV 1 hM.2.2.2.1 (gV mk_RX13_195 im_X13_isSign se_X13_isSign it_RX13 cd_X13_isSign) rfl rfl rfl (by decide +kernel) ⟨by show 0 + 1 ≤ 5 * (d + 1) + 2; omega, by show 8 + (2 + 11) + 0 ≤ 110 * (d + 1) + 45; omega⟩) rfl rfl (Nat.le_of_ble_eq_true rfl) ⟨Nat.zero_le _, Nat.zero_le _⟩ dX13_takePart_68 (fun H locs hW hk => ?_)
      refine lv_if_ne (tgt := 91) hx hb dX13_takePart_71 (by decide) (fun c4 => ?_) (fun c4 => ?_)
      · have hf := if_f c4 hf
        exact t_X13_takePart_91 (fu := fu) hM hml hr hlk hrec hc0 hf hc _ _ hW _ (lv_sub hl [1, 2, 3, 0] rfl)
      · have hf := if_t c4 hf
        refine lv_aload_n hx hb dX13_takePart_74 rfl (lv_at hl 1 rfl) ?_
        refine lv_bipush (v := (22 : Int32)) hx hb dX13_takePart_75 (by decide) ?_
        obtain ⟨r5, hr5, hf⟩ := bd_elim hf
        refine b_callVi [.int (22 : Int32)] [] hM hml hl.1 hW hc rfl (by decide) (c_X13_isWord l G fu _ a v _ hc hr5) (cwV 1 hM.2.2.2.1 (gV mk_RX13_201 im_X13_isWord se_X13_isWord it_RX13 cd_X13_isWord) rfl rfl rfl (by decide +kernel) ⟨by show 0 + 1 ≤ 5 * (d + 1) + 2; omega, by show 8 + (2 + 11) + 0 ≤ 110 * (d + 1) + 45; omega⟩) rfl rfl (Nat.le_of_ble_eq_true rfl) ⟨Nat.zero_le _, Nat.zero_le _⟩ dX13_takePart_77 (fun H locs hW hk => ?_)
        refine lv_if_ne (tgt := 91) hx hb dX13_takePart_80 (by decide) (fun c6 => ?_) (fun c6 => ?_)
        · have hf := if_f c6 hf
          exact t_X13_takePart_91 (fu := fu) hM hml hr hlk hrec hc0 hf hc _ _ hW _ (lv_sub hl [1, 2, 3, 0] rfl)
        · have hf := if_t c6 hf
          refine lv_aload_n hx hb dX13_takePart_83 rfl (lv_at hl 1 rfl) ?_
          refine lv_iconst (v := (1 : Int32)) hx hb dX13_takePart_84 (by decide) ?_
          obtain ⟨v8, hr7, hf⟩ := bd_elim hf
          refine b_callVv [.int (1 : Int32)] [] hM hml hl.1 hW hc rfl (by decide) (c_X13_wrong l G fu _ a v _ hc hr7) (cwV 1 hM.2.2.2.1 (gV mk_RX13_198 im_X13_wrong se_X13_wrong it_RX13 cd_X13_wrong) rfl rfl rfl (by decide +kernel) ⟨by show 0 + 1 ≤ 5 * (d + 1) + 2; omega, by show 8 + (2 + 11) + 0 ≤ 110 * (d + 1) + 45; omega⟩) rfl rfl (Nat.le_of_ble_eq_true rfl) ⟨Nat.zero_le _, Nat.zero_le _⟩ dX13_takePart_85 (fun H locs hW hk => ?_)
          have hc := keep_at hc hk
          refine lv_goto (tgt := 101) hx hb dX13_takePart_88 (by decide) ?_
          exact t_X13_takePart_101 (fu := fu) hM hml hr hlk hrec hc0 hf hc _ _ hW _ (lv_sub hl [1, 2, 3, 0] rfl)
noncomputable def f_X13_takePart_55 (fu : Nat) (rec : GV → Int32 → Option (GV))  (v : GV) (x1 : Int32) (x2 : Int32) : Option (GV) :=
  f_X13_takePart_56 fu rec v x1 x2 (-1 : Int32)
set_option maxHeartbeats 4000000 in
set_option maxRecDepth 100000 in
theorem t_X13_takePart_55 {G : GG} {p : Program} {l : Launch} {e : Env} {s : State} {m : MethodId} {args : Array Value} {below : List Frame} {meth : Method} {c : Code} {S : ST} {fu : Nat} {z : GV} {a : Nat} {v0 : GV} {d : Nat} {rec : GV → Int32 → Option (GV)}  {v : GV} {x1 : Int32} {x2 : Int32} (hM : MC G p s m args c cX13_takePart w_X13_takePart RX13) (hml : c.maxLocals = 4) (hr : meth.sig.returnType = none) (hlk : meth.locks = false) (hrec : ∀ (S : ST) (v : GV) (x1 : Int32) (z : GV), gC v = 12 → rec v x1 = some z → Ct l yX13_takePart w_X13_takePart (RM_X13_takePart d) G (st S a v) [.ref a, .int x1] none (st S a z) 0 0) (hc0 : gC v0 = 12)  (hf : f_X13_takePart_55 fu rec  v x1 x2 = some z) : gC v = 12 → ∀ (H : Heap) (locs : List Loc), WB G (st S a v) s H locs → ∀ (ls : Array Slot), lv_has ls 4 [(0, .ref a), (1, .int x1), (2, .int x2)] → W p l e (RM_X13_takePart (d + 1)) s m args below meth c H locs 0 0 (QR G below args s none (st S a v0) (st S a z)) (F0 m 55 ls []) := by
  intro hc H locs hW ls hl
  have hx := hM.1
  have hb := hM.2.1
  refine lv_iconst (v := (-1 : Int32)) hx hb dX13_takePart_55 (by decide) ?_
  exact t_X13_takePart_56 (fu := fu) hM hml hr hlk hrec hc0 hf hc _ _ hW _ (lv_sub hl [0, 1, 2] rfl)
noncomputable def f_X13_takePart_26 (fu : Nat) (rec : GV → Int32 → Option (GV))  (v : GV) (x1 : Int32) (t0 : Int32) : Option (GV) :=
  bd (f_X13_wordHere fu v (25 : Int32) (4 : Int32)) fun r1 =>
  if r1 < 0 then
    (f_X13_takePart_55 fu rec v x1 t0)
  else
    (if (((gI v 20) >>> (r1 &&& 31)) &&& (1 : Int32)) = (1 : Int32) then
      (f_X13_takePart_56 fu rec v x1 t0 r1)
    else
      (f_X13_takePart_55 fu rec v x1 t0))
set_option maxHeartbeats 4000000 in
set_option maxRecDepth 100000 in
theorem t_X13_takePart_26 {G : GG} {p : Program} {l : Launch} {e : Env} {s : State} {m : MethodId} {args : Array Value} {below : List Frame} {meth : Method} {c : Code} {S : ST} {fu : Nat} {z : GV} {a : Nat} {v0 : GV} {d : Nat} {rec : GV → Int32 → Option (GV)}  {v : GV} {x1 : Int32} {t0 : Int32} (hM : MC G p s m args c cX13_takePart w_X13_takePart RX13) (hml : c.maxLocals = 4) (hr : meth.sig.returnType = none) (hlk : meth.locks = false) (hrec : ∀ (S : ST) (v : GV) (x1 : Int32) (z : GV), gC v = 12 → rec v x1 = some z → Ct l yX13_takePart w_X13_takePart (RM_X13_takePart d) G (st S a v) [.ref a, .int x1] none (st S a z) 0 0) (hc0 : gC v0 = 12)  (hf : f_X13_takePart_26 fu rec  v x1 t0 = some z) : gC v = 12 → ∀ (H : Heap) (locs : List Loc), WB G (st S a v) s H locs → ∀ (ls : Array Slot), lv_has ls 4 [(0, .ref a), (1, .int x1)] → W p l e (RM_X13_takePart (d + 1)) s m args below meth c H locs 0 0 (QR G below args s none (st S a v0) (st S a z)) (F0 m 26 ls [.int t0]) := by
  intro hc H locs hW ls hl
  have hx := hM.1
  have hb := hM.2.1
  refine lv_istore_n (lv' := [(2, .int t0), (0, .ref a), (1, .int x1)]) hx hb dX13_takePart_26 rfl hl (by decide) rfl (fun ls hl => ?_)
  refine lv_aload_n hx hb dX13_takePart_27 rfl (lv_at hl 1 rfl) ?_
  refine lv_bipush (v := (25 : Int32)) hx hb dX13_takePart_28 (by decide) ?_
  refine lv_iconst (v := (4 : Int32)) hx hb dX13_takePart_30 (by decide) ?_
  obtain ⟨r1, hr1, hf⟩ := bd_elim hf
  refine b_callVi [.int (25 : Int32), .int (4 : Int32)] [] hM hml hl.1 hW hc rfl (by decide) (c_X13_wordHere l G fu _ a v _ _ hc hr1) (cwV 2 hM.2.2.2.1 (gV mk_RX13_214 im_X13_wordHere se_X13_wordHere it_RX13 cd_X13_wordHere) rfl rfl rfl (by decide +kernel) ⟨by show 1 + 1 ≤ 5 * (d + 1) + 2; omega, by show 8 + (5 + 11) + 21 ≤ 110 * (d + 1) + 45; omega⟩) rfl rfl (Nat.le_of_ble_eq_true rfl) ⟨Nat.zero_le _, Nat.zero_le _⟩ dX13_takePart_31 (fun H locs hW hk => ?_)
  refine lv_istore_n (lv' := [(3, .int r1), (2, .int t0), (0, .ref a), (1, .int x1)]) hx hb dX13_takePart_34 rfl hl (by decide) rfl (fun ls hl => ?_)
  refine lv_iload_n hx hb dX13_takePart_35 rfl (lv_at hl 0 rfl) ?_
  refine lv_if_lt (tgt := 55) hx hb dX13_takePart_36 (by decide) (fun c2 => ?_) (fun c2 => ?_)
  · have hf := if_t c2 hf
    exact t_X13_takePart_55 (fu := fu) hM hml hr hlk hrec hc0 hf hc _ _ hW _ (lv_sub hl [2, 3, 1] rfl)
  · have hf := if_f c2 hf
    refine lv_aload_n hx hb dX13_takePart_39 rfl (lv_at hl 2 rfl) ?_
    refine b_get hM hW 11 20 hc rfl rfl (by decide) wi_X13 (wgm fk_RX13_289) (x := .int (gI v 20)) rfl dX13_takePart_40 ?_
    refine lv_iload_n hx hb dX13_takePart_43 rfl (lv_at hl 0 rfl) ?_
    refine lv_ishr hx hb dX13_takePart_44 ?_
    refine lv_iconst (v := (1 : Int32)) hx hb dX13_takePart_45 (by decide) ?_
    refine lv_iand hx hb dX13_takePart_46 ?_
    refine lv_iconst (v := (1 : Int32)) hx hb dX13_takePart_47 (by decide) ?_
    refine lv_icmp_ne (tgt := 55) hx hb dX13_takePart_48 (by decide) (fun c3 => ?_) (fun c3 => ?_)
    · have hf := if_f c3 hf
      exact t_X13_takePart_55 (fu := fu) hM hml hr hlk hrec hc0 hf hc _ _ hW _ (lv_sub hl [2, 3, 1] rfl)
    · have hf := if_t c3 hf
      refine lv_iload_n hx hb dX13_takePart_51 rfl (lv_at hl 0 rfl) ?_
      refine lv_goto (tgt := 56) hx hb dX13_takePart_52 (by decide) ?_
      exact t_X13_takePart_56 (fu := fu) hM hml hr hlk hrec hc0 hf hc _ _ hW _ (lv_sub hl [2, 3, 1] rfl)
noncomputable def f_X13_takePart_0 (fu : Nat) (rec : GV → Int32 → Option (GV))  (v : GV) (x1 : Int32) : Option (GV) :=
  if (gI v 8) ≤ 0 then
    (nm ((gI v 7)) fun y2 =>
    ck (inb y2 1002) <|
    if (gA v 4 y2.toNatClampNeg) = (2 : Int32) then
      (f_X13_takePart_26 fu rec v x1 (1 : Int32))
    else
      (f_X13_takePart_26 fu rec v x1 (0 : Int32)))
  else
    (some v)
set_option maxHeartbeats 4000000 in
set_option maxRecDepth 100000 in
theorem t_X13_takePart_0 {G : GG} {p : Program} {l : Launch} {e : Env} {s : State} {m : MethodId} {args : Array Value} {below : List Frame} {meth : Method} {c : Code} {S : ST} {fu : Nat} {z : GV} {a : Nat} {v0 : GV} {d : Nat} {rec : GV → Int32 → Option (GV)}  {v : GV} {x1 : Int32} (hM : MC G p s m args c cX13_takePart w_X13_takePart RX13) (hml : c.maxLocals = 4) (hr : meth.sig.returnType = none) (hlk : meth.locks = false) (hrec : ∀ (S : ST) (v : GV) (x1 : Int32) (z : GV), gC v = 12 → rec v x1 = some z → Ct l yX13_takePart w_X13_takePart (RM_X13_takePart d) G (st S a v) [.ref a, .int x1] none (st S a z) 0 0) (hc0 : gC v0 = 12)  (hf : f_X13_takePart_0 fu rec  v x1 = some z) : gC v = 12 → ∀ (H : Heap) (locs : List Loc), WB G (st S a v) s H locs → ∀ (ls : Array Slot), lv_has ls 4 [(0, .ref a), (1, .int x1)] → W p l e (RM_X13_takePart (d + 1)) s m args below meth c H locs 0 0 (QR G below args s none (st S a v0) (st S a z)) (F0 m 0 ls []) := by
  intro hc H locs hW ls hl
  have hx := hM.1
  have hb := hM.2.1
  refine lv_aload_n hx hb dX13_takePart_0 rfl (lv_at hl 0 rfl) ?_
  refine b_get hM hW 11 8 hc rfl rfl (by decide) wi_X13 (wgm fk_RX13_192) (x := .int (gI v 8)) rfl dX13_takePart_1 ?_
  refine lv_if_le (tgt := 8) hx hb dX13_takePart_4 (by decide) (fun c1 => ?_) (fun c1 => ?_)
  · have hf := if_t c1 hf
    refine lv_aload_n hx hb dX13_takePart_8 rfl (lv_at hl 0 rfl) ?_
    refine b_get hM hW 11 4 hc rfl rfl (by decide) wi_X13 (wgm fk_RX13_24) (x := .ref (a + 2)) rfl dX13_takePart_9 ?_
    refine lv_aload_n hx hb dX13_takePart_12 rfl (lv_at hl 0 rfl) ?_
    refine b_get hM hW 11 7 hc rfl rfl (by decide) wi_X13 (wgm fk_RX13_189) (x := .int (gI v 7)) rfl dX13_takePart_13 ?_
    refine lv_topi (fun y2 ey2 => ?_)
    have hf := nm_at ey2 hf
    obtain ⟨h3, hf⟩ := ck_elim hf
    refine b_iald (n := 1002) hM hW 11 4 hc (by decide) rfl rfl rfl rfl h3 dX13_takePart_16 ?_
    refine lv_iconst (v := (2 : Int32)) hx hb dX13_takePart_17 (by decide) ?_
    refine lv_icmp_ne (tgt := 25) hx hb dX13_takePart_18 (by decide) (fun c4 => ?_) (fun c4 => ?_)
    · have hf := if_f c4 hf
      refine lv_iconst (v := (0 : Int32)) hx hb dX13_takePart_25 (by decide) ?_
      exact t_X13_takePart_26 (fu := fu) hM hml hr hlk hrec hc0 hf hc _ _ hW _ (lv_sub hl [0, 1] rfl)
    · have hf := if_t c4 hf
      refine lv_iconst (v := (1 : Int32)) hx hb dX13_takePart_21 (by decide) ?_
      refine lv_goto (tgt := 26) hx hb dX13_takePart_22 (by decide) ?_
      exact t_X13_takePart_26 (fu := fu) hM hml hr hlk hrec hc0 hf hc _ _ hW _ (lv_sub hl [0, 1] rfl)
  · have hf := if_f c1 hf
    cases hf
    exact W.vret hx hb hr (b_ret0 hW (keep_s2 hc0 hc) _) hW.2.2.2 dX13_takePart_7 hlk
noncomputable def f_X13_takePart (fu : Nat) (rec : GV → Int32 → Option (GV)) (v : GV) (x1 : Int32) : Option (GV) := f_X13_takePart_0 fu rec v x1
set_option maxHeartbeats 4000000 in
set_option maxRecDepth 100000 in
theorem c_X13_takePart (l : Launch) (G : GG) (fu : Nat) {a d : Nat} {rec : GV → Int32 → Option (GV)} (hrec : ∀ (S : ST) (v : GV) (x1 : Int32) (z : GV), gC v = 12 → rec v x1 = some z → Ct l yX13_takePart w_X13_takePart (RM_X13_takePart d) G (st S a v) [.ref a, .int x1] none (st S a z) 0 0) (S : ST) (v : GV) (x1 : Int32) {z : GV} (hc : gC v = 12) (hf : f_X13_takePart fu rec v x1 = some z) : Ct l yX13_takePart w_X13_takePart (RM_X13_takePart (d + 1)) G (st S a v) [.ref a, .int x1] none (st S a z) 0 0 := by
  refine Met.ofW (cc := cX13_takePart) (maxL := 4) (ret := none) (by decide) rfl ?_
  intro p e s m args below meth c s₁ B hml hv
  obtain ⟨rfl, hB, hK, hz⟩ := hv
  have hM : MC G p s m _ c cX13_takePart w_X13_takePart RX13 := ⟨B.exec, B.bytes, findClass_of_methodNamed B.named, atoms_spec (ws := w_X13_takePart) B.pre, hK, hz⟩
  have hW : WB G (st S a v) s s.heap [] := ⟨hB, va_S.rf⟩
  have hl := lv_entry ([.ref a, .int x1]) (n := 4) (Nat.le_of_ble_eq_true rfl)
  rw [lg_entry_eq]
  generalize (lg_sl ([.ref a, .int x1]) ++ List.replicate (4 - (lg_sl ([.ref a, .int x1])).length) Slot.unset).toArray = ls at hl ⊢
  have hl : lv_has ls 4 [(0, .ref a), (1, .int x1)] := hl
  exact t_X13_takePart_0 hM hml B.returns B.notSynchronized hrec hc hf hc _ _ hW _ (lv_sub hl [0, 1] rfl)
noncomputable def f_X13_takePartD (fu d : Nat) : GV → Int32 → Option (GV) := Nat.rec (fun _ _ => none) (fun _ ih => f_X13_takePart fu ih) d
theorem c_X13_takePartD (l : Launch) (G : GG) (fu d : Nat) : ∀ (S : ST) (a : Nat) (v : GV) (x1 : Int32) (z : GV), gC v = 12 → f_X13_takePartD fu d v x1 = some z → Ct l yX13_takePart w_X13_takePart (RM_X13_takePart d) G (st S a v) [.ref a, .int x1] none (st S a z) 0 0 := by
  induction d with
  | zero => intro S a v _ _ hc hf; cases hf
  | succ d ih => intro S a v _ _ hc hf; exact c_X13_takePart l G fu (fun S => ih S a) S v _ hc hf
abbrev w_X13_readLaw : List Cond := Cond.code yX13_readLaw cX13_readLaw 2 none :: wsL_law0
abbrev RM_X13_readLaw : Room := { frames := 47, cells := 0, slots := 0, locals := 1035 }
noncomputable def f_X13_readLaw_80 (fu : Nat)  (v : GV) (t1 : Int32) : Option (GV) :=
  nm (sI v 20 t1) fun v1 =>
  bd (f_X13_all fu (f_X13_takePartD fu 8) v1 (0 : Int32)) fun v3 =>
  bd (f_X13_emit fu v3 (0 : Int32) (0 : Int32)) fun v5 =>
  some v5
set_option maxHeartbeats 4000000 in
set_option maxRecDepth 100000 in
theorem t_X13_readLaw_80 {G : GG} {p : Program} {l : Launch} {e : Env} {s : State} {m : MethodId} {args : Array Value} {below : List Frame} {meth : Method} {c : Code} {S : ST} {fu : Nat} {z : GV} {a : Nat} {v0 : GV}  {v : GV} {t1 : Int32} (hM : MC G p s m args c cX13_readLaw w_X13_readLaw RX13) (hml : c.maxLocals = 2) (hr : meth.sig.returnType = none) (hlk : meth.locks = false) (hc0 : gC v0 = 12)  (hf : f_X13_readLaw_80 fu  v t1 = some z) : gC v = 12 → ∀ (H : Heap) (locs : List Loc), WB G (st S a v) s H locs → ∀ (ls : Array Slot), lv_has ls 2 [(0, .ref a)] → W p l e RM_X13_readLaw s m args below meth c H locs 0 0 (QR G below args s none (st S a v0) (st S a z)) (F0 m 80 ls [.int t1, .ref a]) := by
  intro hc H locs hW ls hl
  have hx := hM.1
  have hb := hM.2.1
  refine b_putI hM hW 11 20 hc rfl rfl (by decide) wi_X13 tyX13 tyX13_ok nmX13 (wgm fk_RX13_289) rfl rfl rfl dX13_readLaw_80 (fun v1 ev1 hc H locs hW => ?_)
  have hf := nm_at ev1 hf
  refine lv_aload_n hx hb dX13_readLaw_83 rfl (lv_at hl 0 rfl) ?_
  refine lv_iconst (v := (0 : Int32)) hx hb dX13_readLaw_84 (by decide) ?_
  obtain ⟨v3, hr2, hf⟩ := bd_elim hf
  refine b_callVv [.int (0 : Int32)] [] hM hml hl.1 hW hc rfl (by decide) (c_X13_all l G fu (c_X13_takePartD l G fu 8 · a) _ v1 _ hc hr2) (cwV 1 hM.2.2.2.1 (gV mk_RX13_292 im_X13_all se_X13_all it_RX13 cd_X13_all) rfl rfl rfl (by decide +kernel) ⟨Nat.le_of_ble_eq_true rfl, Nat.le_of_ble_eq_true rfl⟩) rfl rfl (Nat.le_of_ble_eq_true rfl) ⟨Nat.zero_le _, Nat.zero_le _⟩ dX13_readLaw_85 (fun H locs hW hk => ?_)
  have hc := keep_at hc hk
  refine lv_aload_n hx hb dX13_readLaw_88 rfl (lv_at hl 0 rfl) ?_
  refine lv_iconst (v := (0 : Int32)) hx hb dX13_readLaw_89 (by decide) ?_
  refine lv_iconst (v := (0 : Int32)) hx hb dX13_readLaw_90 (by decide) ?_
  obtain ⟨v5, hr4, hf⟩ := bd_elim hf
  refine b_callVv [.int (0 : Int32), .int (0 : Int32)] [] hM hml hl.1 hW hc rfl (by decide) (c_X13_emit l G fu _ a v3 _ _ hc hr4) (cwV 2 hM.2.2.2.1 (gV mk_RX13_295 im_X13_emit se_X13_emit it_RX13 cd_X13_emit) rfl rfl rfl (by decide +kernel) ⟨Nat.le_of_ble_eq_true rfl, Nat.le_of_ble_eq_true rfl⟩) rfl rfl (Nat.le_of_ble_eq_true rfl) ⟨Nat.zero_le _, Nat.zero_le _⟩ dX13_readLaw_91 (fun H locs hW hk => ?_)
  have hc := keep_at hc hk
  cases hf
  exact W.vret hx hb hr (b_ret0 hW (keep_s2 hc0 hc) _) hW.2.2.2 dX13_readLaw_94 hlk
noncomputable def f_X13_readLaw_37 (fu : Nat)  (v : GV) (x1 : Int32) : Option (GV) :=
  if (gI v 8) ≤ 0 then
    (nm (sI v 7 ((gI v 7) + (1 : Int32))) fun v2 =>
    nm ((gI v2 13)) fun y3 =>
    ck (inb ((74 : Int32) + x1) 140) <|
    nm (sA v2 10 ((74 : Int32) + x1).toNatClampNeg y3) fun v5 =>
    if x1 = 0 then
      (f_X13_readLaw_80 fu v5 (7 : Int32))
    else
      (f_X13_readLaw_80 fu v5 (11 : Int32)))
  else
    (some v)
set_option maxHeartbeats 4000000 in
set_option maxRecDepth 100000 in
theorem t_X13_readLaw_37 {G : GG} {p : Program} {l : Launch} {e : Env} {s : State} {m : MethodId} {args : Array Value} {below : List Frame} {meth : Method} {c : Code} {S : ST} {fu : Nat} {z : GV} {a : Nat} {v0 : GV}  {v : GV} {x1 : Int32} (hM : MC G p s m args c cX13_readLaw w_X13_readLaw RX13) (hml : c.maxLocals = 2) (hr : meth.sig.returnType = none) (hlk : meth.locks = false) (hc0 : gC v0 = 12)  (hf : f_X13_readLaw_37 fu  v x1 = some z) : gC v = 12 → ∀ (H : Heap) (locs : List Loc), WB G (st S a v) s H locs → ∀ (ls : Array Slot), lv_has ls 2 [(0, .ref a), (1, .int x1)] → W p l e RM_X13_readLaw s m args below meth c H locs 0 0 (QR G below args s none (st S a v0) (st S a z)) (F0 m 37 ls []) := by
  intro hc H locs hW ls hl
  have hx := hM.1
  have hb := hM.2.1
  refine lv_aload_n hx hb dX13_readLaw_37 rfl (lv_at hl 0 rfl) ?_
  refine b_get hM hW 11 8 hc rfl rfl (by decide) wi_X13 (wgm fk_RX13_192) (x := .int (gI v 8)) rfl dX13_readLaw_38 ?_
  refine lv_if_le (tgt := 45) hx hb dX13_readLaw_41 (by decide) (fun c1 => ?_) (fun c1 => ?_)
  · have hf := if_t c1 hf
    refine lv_aload_n hx hb dX13_readLaw_45 rfl (lv_at hl 0 rfl) ?_
    refine lv_dup hx hb dX13_readLaw_46 rfl ?_
    refine b_get hM hW 11 7 hc rfl rfl (by decide) wi_X13 (wgm fk_RX13_189) (x := .int (gI v 7)) rfl dX13_readLaw_47 ?_
    refine lv_iconst (v := (1 : Int32)) hx hb dX13_readLaw_50 (by decide) ?_
    refine lv_iadd hx hb dX13_readLaw_51 ?_
    refine b_putI hM hW 11 7 hc rfl rfl (by decide) wi_X13 tyX13 tyX13_ok nmX13 (wgm fk_RX13_189) rfl rfl rfl dX13_readLaw_52 (fun v2 ev2 hc H locs hW => ?_)
    have hf := nm_at ev2 hf
    refine lv_aload_n hx hb dX13_readLaw_55 rfl (lv_at hl 0 rfl) ?_
    refine b_get hM hW 11 10 hc rfl rfl (by decide) wi_X13 (wgm fk_RX13_95) (x := .ref (a + 6)) rfl dX13_readLaw_56 ?_
    refine lv_bipush (v := (74 : Int32)) hx hb dX13_readLaw_59 (by decide) ?_
    refine lv_iload_n hx hb dX13_readLaw_61 rfl (lv_at hl 1 rfl) ?_
    refine lv_iadd hx hb dX13_readLaw_62 ?_
    refine lv_aload_n hx hb dX13_readLaw_63 rfl (lv_at hl 0 rfl) ?_
    refine b_get hM hW 11 13 hc rfl rfl (by decide) wi_X13 (wgm fk_RX13_242) (x := .int (gI v2 13)) rfl dX13_readLaw_64 ?_
    refine lv_topi (fun y3 ey3 => ?_)
    have hf := nm_at ey3 hf
    obtain ⟨h4, hf⟩ := ck_elim hf
    refine b_iast (n := 140) hM hW 11 10 hc (by decide) rfl rfl rfl rfl h4 dX13_readLaw_67 (fun v5 ev5 hc H locs hW => ?_)
    have hf := nm_at ev5 hf
    refine lv_aload_n hx hb dX13_readLaw_68 rfl (lv_at hl 0 rfl) ?_
    refine lv_iload_n hx hb dX13_readLaw_69 rfl (lv_at hl 1 rfl) ?_
    refine lv_if_ne (tgt := 78) hx hb dX13_readLaw_70 (by decide) (fun c6 => ?_) (fun c6 => ?_)
    · have hf := if_f c6 hf
      refine lv_bipush (v := (11 : Int32)) hx hb dX13_readLaw_78 (by decide) ?_
      exact t_X13_readLaw_80 (fu := fu) hM hml hr hlk hc0 hf hc _ _ hW _ (lv_sub hl [0] rfl)
    · have hf := if_t c6 hf
      refine lv_bipush (v := (7 : Int32)) hx hb dX13_readLaw_73 (by decide) ?_
      refine lv_goto (tgt := 80) hx hb dX13_readLaw_75 (by decide) ?_
      exact t_X13_readLaw_80 (fu := fu) hM hml hr hlk hc0 hf hc _ _ hW _ (lv_sub hl [0] rfl)
  · have hf := if_f c1 hf
    cases hf
    exact W.vret hx hb hr (b_ret0 hW (keep_s2 hc0 hc) _) hW.2.2.2 dX13_readLaw_44 hlk
noncomputable def f_X13_readLaw_0 (fu : Nat)  (v : GV) : Option (GV) :=
  bd (f_X13_wordHere fu v (11 : Int32) (2 : Int32)) fun r1 =>
  if 0 ≤ r1 then
    (nm (((74 : Int32) + r1)) fun y3 =>
    ck (inb y3 140) <|
    if (gA v 10 y3.toNatClampNeg) < 0 then
      (f_X13_readLaw_37 fu v r1)
    else
      (bd (f_X13_wrong fu v (3 : Int32)) fun v7 =>
      f_X13_readLaw_37 fu v7 r1))
  else
    (bd (f_X13_wrong fu v (1 : Int32)) fun v9 =>
    f_X13_readLaw_37 fu v9 r1)
set_option maxHeartbeats 4000000 in
set_option maxRecDepth 100000 in
theorem t_X13_readLaw_0 {G : GG} {p : Program} {l : Launch} {e : Env} {s : State} {m : MethodId} {args : Array Value} {below : List Frame} {meth : Method} {c : Code} {S : ST} {fu : Nat} {z : GV} {a : Nat} {v0 : GV}  {v : GV} (hM : MC G p s m args c cX13_readLaw w_X13_readLaw RX13) (hml : c.maxLocals = 2) (hr : meth.sig.returnType = none) (hlk : meth.locks = false) (hc0 : gC v0 = 12)  (hf : f_X13_readLaw_0 fu  v  = some z) : gC v = 12 → ∀ (H : Heap) (locs : List Loc), WB G (st S a v) s H locs → ∀ (ls : Array Slot), lv_has ls 2 [(0, .ref a)] → W p l e RM_X13_readLaw s m args below meth c H locs 0 0 (QR G below args s none (st S a v0) (st S a z)) (F0 m 0 ls []) := by
  intro hc H locs hW ls hl
  have hx := hM.1
  have hb := hM.2.1
  refine lv_aload_n hx hb dX13_readLaw_0 rfl (lv_at hl 0 rfl) ?_
  refine lv_bipush (v := (11 : Int32)) hx hb dX13_readLaw_1 (by decide) ?_
  refine lv_iconst (v := (2 : Int32)) hx hb dX13_readLaw_3 (by decide) ?_
  obtain ⟨r1, hr1, hf⟩ := bd_elim hf
  refine b_callVi [.int (11 : Int32), .int (2 : Int32)] [] hM hml hl.1 hW hc rfl (by decide) (c_X13_wordHere l G fu _ a v _ _ hc hr1) (cwV 2 hM.2.2.2.1 (gV mk_RX13_214 im_X13_wordHere se_X13_wordHere it_RX13 cd_X13_wordHere) rfl rfl rfl (by decide +kernel) ⟨Nat.le_of_ble_eq_true rfl, Nat.le_of_ble_eq_true rfl⟩) rfl rfl (Nat.le_of_ble_eq_true rfl) ⟨Nat.zero_le _, Nat.zero_le _⟩ dX13_readLaw_4 (fun H locs hW hk => ?_)
  refine lv_istore_n (lv' := [(1, .int r1), (0, .ref a)]) hx hb dX13_readLaw_7 rfl hl (by decide) rfl (fun ls hl => ?_)
  refine lv_iload_n hx hb dX13_readLaw_8 rfl (lv_at hl 0 rfl) ?_
  refine lv_if_ge (tgt := 20) hx hb dX13_readLaw_9 (by decide) (fun c2 => ?_) (fun c2 => ?_)
  · have hf := if_t c2 hf
    refine lv_aload_n hx hb dX13_readLaw_20 rfl (lv_at hl 1 rfl) ?_
    refine b_get hM hW 11 10 hc rfl rfl (by decide) wi_X13 (wgm fk_RX13_95) (x := .ref (a + 6)) rfl dX13_readLaw_21 ?_
    refine lv_bipush (v := (74 : Int32)) hx hb dX13_readLaw_24 (by decide) ?_
    refine lv_iload_n hx hb dX13_readLaw_26 rfl (lv_at hl 0 rfl) ?_
    refine lv_iadd hx hb dX13_readLaw_27 ?_
    refine lv_topi (fun y3 ey3 => ?_)
    have hf := nm_at ey3 hf
    obtain ⟨h4, hf⟩ := ck_elim hf
    refine b_iald (n := 140) hM hW 11 10 hc (by decide) rfl rfl rfl rfl h4 dX13_readLaw_28 ?_
    refine lv_if_lt (tgt := 37) hx hb dX13_readLaw_29 (by decide) (fun c5 => ?_) (fun c5 => ?_)
    · have hf := if_t c5 hf
      exact t_X13_readLaw_37 (fu := fu) hM hml hr hlk hc0 hf hc _ _ hW _ (lv_sub hl [1, 0] rfl)
    · have hf := if_f c5 hf
      refine lv_aload_n hx hb dX13_readLaw_32 rfl (lv_at hl 1 rfl) ?_
      refine lv_iconst (v := (3 : Int32)) hx hb dX13_readLaw_33 (by decide) ?_
      obtain ⟨v7, hr6, hf⟩ := bd_elim hf
      refine b_callVv [.int (3 : Int32)] [] hM hml hl.1 hW hc rfl (by decide) (c_X13_wrong l G fu _ a v _ hc hr6) (cwV 1 hM.2.2.2.1 (gV mk_RX13_198 im_X13_wrong se_X13_wrong it_RX13 cd_X13_wrong) rfl rfl rfl (by decide +kernel) ⟨Nat.le_of_ble_eq_true rfl, Nat.le_of_ble_eq_true rfl⟩) rfl rfl (Nat.le_of_ble_eq_true rfl) ⟨Nat.zero_le _, Nat.zero_le _⟩ dX13_readLaw_34 (fun H locs hW hk => ?_)
      have hc := keep_at hc hk
      exact t_X13_readLaw_37 (fu := fu) hM hml hr hlk hc0 hf hc _ _ hW _ (lv_sub hl [1, 0] rfl)
  · have hf := if_f c2 hf
    refine lv_aload_n hx hb dX13_readLaw_12 rfl (lv_at hl 1 rfl) ?_
    refine lv_iconst (v := (1 : Int32)) hx hb dX13_readLaw_13 (by decide) ?_
    obtain ⟨v9, hr8, hf⟩ := bd_elim hf
    refine b_callVv [.int (1 : Int32)] [] hM hml hl.1 hW hc rfl (by decide) (c_X13_wrong l G fu _ a v _ hc hr8) (cwV 1 hM.2.2.2.1 (gV mk_RX13_198 im_X13_wrong se_X13_wrong it_RX13 cd_X13_wrong) rfl rfl rfl (by decide +kernel) ⟨Nat.le_of_ble_eq_true rfl, Nat.le_of_ble_eq_true rfl⟩) rfl rfl (Nat.le_of_ble_eq_true rfl) ⟨Nat.zero_le _, Nat.zero_le _⟩ dX13_readLaw_14 (fun H locs hW hk => ?_)
    have hc := keep_at hc hk
    refine lv_goto (tgt := 37) hx hb dX13_readLaw_17 (by decide) ?_
    exact t_X13_readLaw_37 (fu := fu) hM hml hr hlk hc0 hf hc _ _ hW _ (lv_sub hl [1, 0] rfl)
noncomputable def f_X13_readLaw (fu : Nat) (v : GV) : Option (GV) := f_X13_readLaw_0 fu v
set_option maxHeartbeats 4000000 in
set_option maxRecDepth 100000 in
theorem c_X13_readLaw (l : Launch) (G : GG) (fu : Nat) (S : ST) (a : Nat) (v : GV) {z : GV} (hc : gC v = 12) (hf : f_X13_readLaw fu v = some z) : Ct l yX13_readLaw w_X13_readLaw RM_X13_readLaw G (st S a v) [.ref a] none (st S a z) 0 0 := by
  refine Met.ofW (cc := cX13_readLaw) (maxL := 2) (ret := none) (by decide) rfl ?_
  intro p e s m args below meth c s₁ B hml hv
  obtain ⟨rfl, hB, hK, hz⟩ := hv
  have hM : MC G p s m _ c cX13_readLaw w_X13_readLaw RX13 := ⟨B.exec, B.bytes, findClass_of_methodNamed B.named, atoms_spec (ws := w_X13_readLaw) B.pre, hK, hz⟩
  have hW : WB G (st S a v) s s.heap [] := ⟨hB, va_S.rf⟩
  have hl := lv_entry ([.ref a]) (n := 2) (Nat.le_of_ble_eq_true rfl)
  rw [lg_entry_eq]
  generalize (lg_sl ([.ref a]) ++ List.replicate (2 - (lg_sl ([.ref a])).length) Slot.unset).toArray = ls at hl ⊢
  have hl : lv_has ls 2 [(0, .ref a)] := hl
  exact t_X13_readLaw_0 hM hml B.returns B.notSynchronized hc hf hc _ _ hW _ (lv_sub hl [0] rfl)
abbrev w_X13_readLine : List Cond := Cond.code yX13_readLine cX13_readLine 1 none :: wsL_law0
abbrev RM_X13_readLine : Room := { frames := 48, cells := 0, slots := 0, locals := 1056 }
noncomputable def f_X13_readLine_0 (fu : Nat)  (v : GV) : Option (GV) :=
  bd (f_X13_isWord fu v (0 : Int32)) fun r1 =>
  if r1 = 0 then
    (bd (f_X13_isWord fu v (1 : Int32)) fun r3 =>
    if r3 = 0 then
      (bd (f_X13_isWord fu v (5 : Int32)) fun r5 =>
      if r5 = 0 then
        (bd (f_X13_isWord fu v (9 : Int32)) fun r7 =>
        if r7 = 0 then
          (bd (f_X13_readLaw fu v) fun v10 =>
          some v10)
        else
          (bd (f_X13_readExpert fu v) fun v12 =>
          some v12))
      else
        (bd (f_X13_readCopy fu v) fun v14 =>
        some v14))
    else
      (bd (f_X13_readThief fu v) fun v16 =>
      some v16))
  else
    (bd (f_X13_readSpot fu v) fun v18 =>
    some v18)
set_option maxHeartbeats 4000000 in
set_option maxRecDepth 100000 in
theorem t_X13_readLine_0 {G : GG} {p : Program} {l : Launch} {e : Env} {s : State} {m : MethodId} {args : Array Value} {below : List Frame} {meth : Method} {c : Code} {S : ST} {fu : Nat} {z : GV} {a : Nat} {v0 : GV}  {v : GV} (hM : MC G p s m args c cX13_readLine w_X13_readLine RX13) (hml : c.maxLocals = 1) (hr : meth.sig.returnType = none) (hlk : meth.locks = false) (hc0 : gC v0 = 12)  (hf : f_X13_readLine_0 fu  v  = some z) : gC v = 12 → ∀ (H : Heap) (locs : List Loc), WB G (st S a v) s H locs → ∀ (ls : Array Slot), lv_has ls 1 [(0, .ref a)] → W p l e RM_X13_readLine s m args below meth c H locs 0 0 (QR G below args s none (st S a v0) (st S a z)) (F0 m 0 ls []) := by
  intro hc H locs hW ls hl
  have hx := hM.1
  have hb := hM.2.1
  refine lv_aload_n hx hb dX13_readLine_0 rfl (lv_at hl 0 rfl) ?_
  refine lv_iconst (v := (0 : Int32)) hx hb dX13_readLine_1 (by decide) ?_
  obtain ⟨r1, hr1, hf⟩ := bd_elim hf
  refine b_callVi [.int (0 : Int32)] [] hM hml hl.1 hW hc rfl (by decide) (c_X13_isWord l G fu _ a v _ hc hr1) (cwV 1 hM.2.2.2.1 (gV mk_RX13_201 im_X13_isWord se_X13_isWord it_RX13 cd_X13_isWord) rfl rfl rfl (by decide +kernel) ⟨Nat.le_of_ble_eq_true rfl, Nat.le_of_ble_eq_true rfl⟩) rfl rfl (Nat.le_of_ble_eq_true rfl) ⟨Nat.zero_le _, Nat.zero_le _⟩ dX13_readLine_2 (fun H locs hW hk => ?_)
  refine lv_if_eq (tgt := 15) hx hb dX13_readLine_5 (by decide) (fun c2 => ?_) (fun c2 => ?_)
  · have hf := if_t c2 hf
    refine lv_aload_n hx hb dX13_readLine_15 rfl (lv_at hl 0 rfl) ?_
    refine lv_iconst (v := (1 : Int32)) hx hb dX13_readLine_16 (by decide) ?_
    obtain ⟨r3, hr3, hf⟩ := bd_elim hf
    refine b_callVi [.int (1 : Int32)] [] hM hml hl.1 hW hc rfl (by decide) (c_X13_isWord l G fu _ a v _ hc hr3) (cwV 1 hM.2.2.2.1 (gV mk_RX13_201 im_X13_isWord se_X13_isWord it_RX13 cd_X13_isWord) rfl rfl rfl (by decide +kernel) ⟨Nat.le_of_ble_eq_true rfl, Nat.le_of_ble_eq_true rfl⟩) rfl rfl (Nat.le_of_ble_eq_true rfl) ⟨Nat.zero_le _, Nat.zero_le _⟩ dX13_readLine_17 (fun H locs hW hk => ?_)
    refine lv_if_eq (tgt := 30) hx hb dX13_readLine_20 (by decide) (fun c4 => ?_) (fun c4 => ?_)
    · have hf := if_t c4 hf
      refine lv_aload_n hx hb dX13_readLine_30 rfl (lv_at hl 0 rfl) ?_
      refine lv_iconst (v := (5 : Int32)) hx hb dX13_readLine_31 (by decide) ?_
      obtain ⟨r5, hr5, hf⟩ := bd_elim hf
      refine b_callVi [.int (5 : Int32)] [] hM hml hl.1 hW hc rfl (by decide) (c_X13_isWord l G fu _ a v _ hc hr5) (cwV 1 hM.2.2.2.1 (gV mk_RX13_201 im_X13_isWord se_X13_isWord it_RX13 cd_X13_isWord) rfl rfl rfl (by decide +kernel) ⟨Nat.le_of_ble_eq_true rfl, Nat.le_of_ble_eq_true rfl⟩) rfl rfl (Nat.le_of_ble_eq_true rfl) ⟨Nat.zero_le _, Nat.zero_le _⟩ dX13_readLine_32 (fun H locs hW hk => ?_)
      refine lv_if_eq (tgt := 45) hx hb dX13_readLine_35 (by decide) (fun c6 => ?_) (fun c6 => ?_)
      · have hf := if_t c6 hf
        refine lv_aload_n hx hb dX13_readLine_45 rfl (lv_at hl 0 rfl) ?_
        refine lv_bipush (v := (9 : Int32)) hx hb dX13_readLine_46 (by decide) ?_
        obtain ⟨r7, hr7, hf⟩ := bd_elim hf
        refine b_callVi [.int (9 : Int32)] [] hM hml hl.1 hW hc rfl (by decide) (c_X13_isWord l G fu _ a v _ hc hr7) (cwV 1 hM.2.2.2.1 (gV mk_RX13_201 im_X13_isWord se_X13_isWord it_RX13 cd_X13_isWord) rfl rfl rfl (by decide +kernel) ⟨Nat.le_of_ble_eq_true rfl, Nat.le_of_ble_eq_true rfl⟩) rfl rfl (Nat.le_of_ble_eq_true rfl) ⟨Nat.zero_le _, Nat.zero_le _⟩ dX13_readLine_48 (fun H locs hW hk => ?_)
        refine lv_if_eq (tgt := 61) hx hb dX13_readLine_51 (by decide) (fun c8 => ?_) (fun c8 => ?_)
        · have hf := if_t c8 hf
          refine lv_aload_n hx hb dX13_readLine_61 rfl (lv_at hl 0 rfl) ?_
          obtain ⟨v10, hr9, hf⟩ := bd_elim hf
          refine b_callVv [] [] hM hml hl.1 hW hc rfl (by decide) (c_X13_readLaw l G fu _ a v hc hr9) (cwV 0 hM.2.2.2.1 (gV mk_RX13_263 im_X13_readLaw se_X13_readLaw it_RX13 cd_X13_readLaw) rfl rfl rfl (by decide +kernel) ⟨Nat.le_of_ble_eq_true rfl, Nat.le_of_ble_eq_true rfl⟩) rfl rfl (Nat.le_of_ble_eq_true rfl) ⟨Nat.zero_le _, Nat.zero_le _⟩ dX13_readLine_62 (fun H locs hW hk => ?_)
          have hc := keep_at hc hk
          cases hf
          exact W.vret hx hb hr (b_ret0 hW (keep_s2 hc0 hc) _) hW.2.2.2 dX13_readLine_65 hlk
        · have hf := if_f c8 hf
          refine lv_aload_n hx hb dX13_readLine_54 rfl (lv_at hl 0 rfl) ?_
          obtain ⟨v12, hr11, hf⟩ := bd_elim hf
          refine b_callVv [] [] hM hml hl.1 hW hc rfl (by decide) (c_X13_readExpert l G fu _ a v hc hr11) (cwV 0 hM.2.2.2.1 (gV mk_RX13_260 im_X13_readExpert se_X13_readExpert it_RX13 cd_X13_readExpert) rfl rfl rfl (by decide +kernel) ⟨Nat.le_of_ble_eq_true rfl, Nat.le_of_ble_eq_true rfl⟩) rfl rfl (Nat.le_of_ble_eq_true rfl) ⟨Nat.zero_le _, Nat.zero_le _⟩ dX13_readLine_55 (fun H locs hW hk => ?_)
          have hc := keep_at hc hk
          refine lv_goto (tgt := 65) hx hb dX13_readLine_58 (by decide) ?_
          cases hf
          exact W.vret hx hb hr (b_ret0 hW (keep_s2 hc0 hc) _) hW.2.2.2 dX13_readLine_65 hlk
      · have hf := if_f c6 hf
        refine lv_aload_n hx hb dX13_readLine_38 rfl (lv_at hl 0 rfl) ?_
        obtain ⟨v14, hr13, hf⟩ := bd_elim hf
        refine b_callVv [] [] hM hml hl.1 hW hc rfl (by decide) (c_X13_readCopy l G fu _ a v hc hr13) (cwV 0 hM.2.2.2.1 (gV mk_RX13_257 im_X13_readCopy se_X13_readCopy it_RX13 cd_X13_readCopy) rfl rfl rfl (by decide +kernel) ⟨Nat.le_of_ble_eq_true rfl, Nat.le_of_ble_eq_true rfl⟩) rfl rfl (Nat.le_of_ble_eq_true rfl) ⟨Nat.zero_le _, Nat.zero_le _⟩ dX13_readLine_39 (fun H locs hW hk => ?_)
        have hc := keep_at hc hk
        refine lv_goto (tgt := 65) hx hb dX13_readLine_42 (by decide) ?_
        cases hf
        exact W.vret hx hb hr (b_ret0 hW (keep_s2 hc0 hc) _) hW.2.2.2 dX13_readLine_65 hlk
    · have hf := if_f c4 hf
      refine lv_aload_n hx hb dX13_readLine_23 rfl (lv_at hl 0 rfl) ?_
      obtain ⟨v16, hr15, hf⟩ := bd_elim hf
      refine b_callVv [] [] hM hml hl.1 hW hc rfl (by decide) (c_X13_readThief l G fu _ a v hc hr15) (cwV 0 hM.2.2.2.1 (gV mk_RX13_254 im_X13_readThief se_X13_readThief it_RX13 cd_X13_readThief) rfl rfl rfl (by decide +kernel) ⟨Nat.le_of_ble_eq_true rfl, Nat.le_of_ble_eq_true rfl⟩) rfl rfl (Nat.le_of_ble_eq_true rfl) ⟨Nat.zero_le _, Nat.zero_le _⟩ dX13_readLine_24 (fun H locs hW hk => ?_)
      have hc := keep_at hc hk
      refine lv_goto (tgt := 65) hx hb dX13_readLine_27 (by decide) ?_
      cases hf
      exact W.vret hx hb hr (b_ret0 hW (keep_s2 hc0 hc) _) hW.2.2.2 dX13_readLine_65 hlk
  · have hf := if_f c2 hf
    refine lv_aload_n hx hb dX13_readLine_8 rfl (lv_at hl 0 rfl) ?_
    obtain ⟨v18, hr17, hf⟩ := bd_elim hf
    refine b_callVv [] [] hM hml hl.1 hW hc rfl (by decide) (c_X13_readSpot l G fu _ a v hc hr17) (cwV 0 hM.2.2.2.1 (gV mk_RX13_251 im_X13_readSpot se_X13_readSpot it_RX13 cd_X13_readSpot) rfl rfl rfl (by decide +kernel) ⟨Nat.le_of_ble_eq_true rfl, Nat.le_of_ble_eq_true rfl⟩) rfl rfl (Nat.le_of_ble_eq_true rfl) ⟨Nat.zero_le _, Nat.zero_le _⟩ dX13_readLine_9 (fun H locs hW hk => ?_)
    have hc := keep_at hc hk
    refine lv_goto (tgt := 65) hx hb dX13_readLine_12 (by decide) ?_
    cases hf
    exact W.vret hx hb hr (b_ret0 hW (keep_s2 hc0 hc) _) hW.2.2.2 dX13_readLine_65 hlk
noncomputable def f_X13_readLine (fu : Nat) (v : GV) : Option (GV) := f_X13_readLine_0 fu v
set_option maxHeartbeats 4000000 in
set_option maxRecDepth 100000 in
theorem c_X13_readLine (l : Launch) (G : GG) (fu : Nat) (S : ST) (a : Nat) (v : GV) {z : GV} (hc : gC v = 12) (hf : f_X13_readLine fu v = some z) : Ct l yX13_readLine w_X13_readLine RM_X13_readLine G (st S a v) [.ref a] none (st S a z) 0 0 := by
  refine Met.ofW (cc := cX13_readLine) (maxL := 1) (ret := none) (by decide) rfl ?_
  intro p e s m args below meth c s₁ B hml hv
  obtain ⟨rfl, hB, hK, hz⟩ := hv
  have hM : MC G p s m _ c cX13_readLine w_X13_readLine RX13 := ⟨B.exec, B.bytes, findClass_of_methodNamed B.named, atoms_spec (ws := w_X13_readLine) B.pre, hK, hz⟩
  have hW : WB G (st S a v) s s.heap [] := ⟨hB, va_S.rf⟩
  have hl := lv_entry ([.ref a]) (n := 1) (Nat.le_of_ble_eq_true rfl)
  rw [lg_entry_eq]
  generalize (lg_sl ([.ref a]) ++ List.replicate (1 - (lg_sl ([.ref a])).length) Slot.unset).toArray = ls at hl ⊢
  have hl : lv_has ls 1 [(0, .ref a)] := hl
  exact t_X13_readLine_0 hM hml B.returns B.notSynchronized hc hf hc _ _ hW _ (lv_sub hl [0] rfl)
abbrev w_X13_gallery : List Cond := Cond.code yX13_gallery cX13_gallery 2 (some .int) :: wsL_law0
abbrev RM_X13_gallery : Room := { frames := 49, cells := 0, slots := 0, locals := 1076 }
noncomputable def f_X13_gallery_148s (fu : Nat)  (k148 : Int32 → GV → Option (Int32 × GV)) (x1 : Int32) (v : GV) : Option (Int32 × GV) :=
  if (gI v 19) ≤ x1 then
    (nm (sI v 18 (gI v 19)) fun v2 =>
    bd (f_X13_begins fu v2) fun v4 =>
    some ((0 : Int32), v4))
  else
    (ck (inb x1 18) <|
    nm ((gL v 15 x1.toNatClampNeg)) fun y6 =>
    ck (inb x1 18) <|
    nm (sL v 14 x1.toNatClampNeg y6) fun v8 =>
    ck (inb x1 18) <|
    nm ((gA v8 17 x1.toNatClampNeg)) fun y10 =>
    ck (inb x1 18) <|
    nm (sA v8 16 x1.toNatClampNeg y10) fun v12 =>
    nm (x1 + (1 : Int32)) fun y13 =>
    k148 y13 v12)
noncomputable def f_X13_gallery_148 (fu n : Nat)  : Int32 → GV → Option (Int32 × GV) :=
  lq_2 (fun k148 => f_X13_gallery_148s fu  k148 ) n
set_option maxHeartbeats 4000000 in
set_option maxRecDepth 100000 in
theorem t_X13_gallery_148s {G : GG} {p : Program} {l : Launch} {e : Env} {s : State} {m : MethodId} {args : Array Value} {below : List Frame} {meth : Method} {c : Code} {S : ST} {fu : Nat} {z : Int32 × GV} {a : Nat} {v0 : GV}  (hM : MC G p s m args c cX13_gallery w_X13_gallery RX13) (hml : c.maxLocals = 2) (hr : meth.sig.returnType = (some .int)) (hlk : meth.locks = false) (hc0 : gC v0 = 12) {k148 : Int32 → GV → Option (Int32 × GV)}  (hk148 : ∀ (x1 : Int32) (v : GV), k148 x1 v = some z → gC v = 12 → ∀ (H : Heap) (locs : List Loc), WB G (st S a v) s H locs → ∀ (ls : Array Slot), lv_has ls 2 [(0, .ref a), (1, .int x1)] → W p l e RM_X13_gallery s m args below meth c H locs 0 0 (QR G below args s (some (.int z.1)) (st S a v0) (st S a z.2)) (F0 m 148 ls [])) : ∀ (x1 : Int32) (v : GV), f_X13_gallery_148s fu  k148  x1 v = some z → gC v = 12 → ∀ (H : Heap) (locs : List Loc), WB G (st S a v) s H locs → ∀ (ls : Array Slot), lv_has ls 2 [(0, .ref a), (1, .int x1)] → W p l e RM_X13_gallery s m args below meth c H locs 0 0 (QR G below args s (some (.int z.1)) (st S a v0) (st S a z.2)) (F0 m 148 ls []) := by
  intro x1 v hf hc H locs hW ls hl
  have hx := hM.1
  have hb := hM.2.1
  refine lv_iload_n hx hb dX13_gallery_148 rfl (lv_at hl 1 rfl) ?_
  refine lv_aload_n hx hb dX13_gallery_149 rfl (lv_at hl 0 rfl) ?_
  refine b_get hM hW 11 19 hc rfl rfl (by decide) wi_X13 (wgm fk_RX13_217) (x := .int (gI v 19)) rfl dX13_gallery_150 ?_
  refine lv_icmp_ge (tgt := 186) hx hb dX13_gallery_153 (by decide) (fun c1 => ?_) (fun c1 => ?_)
  · have hf := if_t c1 hf
    refine lv_aload_n hx hb dX13_gallery_186 rfl (lv_at hl 0 rfl) ?_
    refine lv_aload_n hx hb dX13_gallery_187 rfl (lv_at hl 0 rfl) ?_
    refine b_get hM hW 11 19 hc rfl rfl (by decide) wi_X13 (wgm fk_RX13_217) (x := .int (gI v 19)) rfl dX13_gallery_188 ?_
    refine b_putI hM hW 11 18 hc rfl rfl (by decide) wi_X13 tyX13 tyX13_ok nmX13 (wgm fk_RX13_220) rfl rfl rfl dX13_gallery_191 (fun v2 ev2 hc H locs hW => ?_)
    have hf := nm_at ev2 hf
    refine lv_aload_n hx hb dX13_gallery_194 rfl (lv_at hl 0 rfl) ?_
    obtain ⟨v4, hr3, hf⟩ := bd_elim hf
    refine b_callVv [] [] hM hml hl.1 hW hc rfl (by decide) (c_X13_begins l G fu _ a v2 hc hr3) (cwV 0 hM.2.2.2.1 (gV mk_RX13_163 im_X13_begins se_X13_begins it_RX13 cd_X13_begins) rfl rfl rfl (by decide +kernel) ⟨Nat.le_of_ble_eq_true rfl, Nat.le_of_ble_eq_true rfl⟩) rfl rfl (Nat.le_of_ble_eq_true rfl) ⟨Nat.zero_le _, Nat.zero_le _⟩ dX13_gallery_195 (fun H locs hW hk => ?_)
    have hc := keep_at hc hk
    refine lv_iconst (v := (0 : Int32)) hx hb dX13_gallery_198 (by decide) ?_
    cases hf
    exact W.iret hx hb hr (b_ret0 hW (keep_s2 hc0 hc) _) hW.2.2.2 dX13_gallery_199 hlk
  · have hf := if_f c1 hf
    refine lv_aload_n hx hb dX13_gallery_156 rfl (lv_at hl 0 rfl) ?_
    refine b_get hM hW 11 14 hc rfl rfl (by decide) wi_X13 (wgm fk_RX13_104) (x := .ref (a + 9)) rfl dX13_gallery_157 ?_
    refine lv_iload_n hx hb dX13_gallery_160 rfl (lv_at hl 1 rfl) ?_
    refine lv_aload_n hx hb dX13_gallery_161 rfl (lv_at hl 0 rfl) ?_
    refine b_get hM hW 11 15 hc rfl rfl (by decide) wi_X13 (wgm fk_RX13_107) (x := .ref (a + 10)) rfl dX13_gallery_162 ?_
    refine lv_iload_n hx hb dX13_gallery_165 rfl (lv_at hl 1 rfl) ?_
    obtain ⟨h5, hf⟩ := ck_elim hf
    refine b_lald (n := 18) hM hW 11 15 hc (by decide) rfl rfl rfl rfl h5 dX13_gallery_166 ?_
    refine lv_topl (fun y6 ey6 => ?_)
    have hf := nm_at ey6 hf
    obtain ⟨h7, hf⟩ := ck_elim hf
    refine b_last (n := 18) hM hW 11 14 hc (by decide) rfl rfl rfl rfl h7 dX13_gallery_167 (fun v8 ev8 hc H locs hW => ?_)
    have hf := nm_at ev8 hf
    refine lv_aload_n hx hb dX13_gallery_168 rfl (lv_at hl 0 rfl) ?_
    refine b_get hM hW 11 16 hc rfl rfl (by decide) wi_X13 (wgm fk_RX13_110) (x := .ref (a + 11)) rfl dX13_gallery_169 ?_
    refine lv_iload_n hx hb dX13_gallery_172 rfl (lv_at hl 1 rfl) ?_
    refine lv_aload_n hx hb dX13_gallery_173 rfl (lv_at hl 0 rfl) ?_
    refine b_get hM hW 11 17 hc rfl rfl (by decide) wi_X13 (wgm fk_RX13_113) (x := .ref (a + 12)) rfl dX13_gallery_174 ?_
    refine lv_iload_n hx hb dX13_gallery_177 rfl (lv_at hl 1 rfl) ?_
    obtain ⟨h9, hf⟩ := ck_elim hf
    refine b_iald (n := 18) hM hW 11 17 hc (by decide) rfl rfl rfl rfl h9 dX13_gallery_178 ?_
    refine lv_topi (fun y10 ey10 => ?_)
    have hf := nm_at ey10 hf
    obtain ⟨h11, hf⟩ := ck_elim hf
    refine b_iast (n := 18) hM hW 11 16 hc (by decide) rfl rfl rfl rfl h11 dX13_gallery_179 (fun v12 ev12 hc H locs hW => ?_)
    have hf := nm_at ev12 hf
    obtain ⟨y13, ey13⟩ : ∃ y : Int32, y = x1 + (1 : Int32) := ⟨_, rfl⟩
    have hf := nm_at ey13 hf
    refine lv_iinc (v := y13) (lv' := [(1, .int y13), (0, .ref a)]) hx hb dX13_gallery_180 hl (k := 1) rfl (by rw [ey13]; rfl) (by decide) rfl (fun ls hl => ?_)
    refine lv_goto (tgt := 148) hx hb dX13_gallery_183 (by decide) ?_
    exact hk148 _ _ hf hc _ _ hW _ (lv_sub hl [1, 0] rfl)
theorem t_X13_gallery_148 {G : GG} {p : Program} {l : Launch} {e : Env} {s : State} {m : MethodId} {args : Array Value} {below : List Frame} {meth : Method} {c : Code} {S : ST} {fu : Nat} {z : Int32 × GV} {a : Nat} {v0 : GV}  (hM : MC G p s m args c cX13_gallery w_X13_gallery RX13) (hml : c.maxLocals = 2) (hr : meth.sig.returnType = (some .int)) (hlk : meth.locks = false) (hc0 : gC v0 = 12)  : ∀ {n : Nat} (x1 : Int32) (v : GV), f_X13_gallery_148 fu n   x1 v = some z → gC v = 12 → ∀ (H : Heap) (locs : List Loc), WB G (st S a v) s H locs → ∀ (ls : Array Slot), lv_has ls 2 [(0, .ref a), (1, .int x1)] → W p l e RM_X13_gallery s m args below meth c H locs 0 0 (QR G below args s (some (.int z.1)) (st S a v0) (st S a z.2)) (F0 m 148 ls []) := by
  intro n
  induction n with
  | zero => intro x1 v hf; cases hf
  | succ n ih => intro x1 v hf; exact t_X13_gallery_148s (fu := fu) hM hml hr hlk hc0  (k148 := f_X13_gallery_148 fu n  ) ih _ _ hf
noncomputable def f_X13_gallery_100s (fu : Nat)  (k100 : Int32 → GV → Option (Int32 × GV)) (x1 : Int32) (v : GV) : Option (Int32 × GV) :=
  if (gI v 13) ≤ x1 then
    (f_X13_gallery_148 fu fu (0 : Int32) v)
  else
    (nm (((1100 : Int32) + x1)) fun y2 =>
    ck (inb y2 2200) <|
    nm ((gA v 11 y2.toNatClampNeg)) fun y4 =>
    ck (inb x1 2200) <|
    nm (sA v 11 x1.toNatClampNeg y4) fun v6 =>
    nm (((1100 : Int32) + x1)) fun y7 =>
    ck (inb y7 2200) <|
    nm ((gA v6 12 y7.toNatClampNeg)) fun y9 =>
    ck (inb x1 2200) <|
    nm (sA v6 12 x1.toNatClampNeg y9) fun v11 =>
    nm (x1 + (1 : Int32)) fun y12 =>
    k100 y12 v11)
noncomputable def f_X13_gallery_100 (fu n : Nat)  : Int32 → GV → Option (Int32 × GV) :=
  lq_2 (fun k100 => f_X13_gallery_100s fu  k100 ) n
set_option maxHeartbeats 4000000 in
set_option maxRecDepth 100000 in
theorem t_X13_gallery_100s {G : GG} {p : Program} {l : Launch} {e : Env} {s : State} {m : MethodId} {args : Array Value} {below : List Frame} {meth : Method} {c : Code} {S : ST} {fu : Nat} {z : Int32 × GV} {a : Nat} {v0 : GV}  (hM : MC G p s m args c cX13_gallery w_X13_gallery RX13) (hml : c.maxLocals = 2) (hr : meth.sig.returnType = (some .int)) (hlk : meth.locks = false) (hc0 : gC v0 = 12) {k100 : Int32 → GV → Option (Int32 × GV)}  (hk100 : ∀ (x1 : Int32) (v : GV), k100 x1 v = some z → gC v = 12 → ∀ (H : Heap) (locs : List Loc), WB G (st S a v) s H locs → ∀ (ls : Array Slot), lv_has ls 2 [(0, .ref a), (1, .int x1)] → W p l e RM_X13_gallery s m args below meth c H locs 0 0 (QR G below args s (some (.int z.1)) (st S a v0) (st S a z.2)) (F0 m 100 ls [])) : ∀ (x1 : Int32) (v : GV), f_X13_gallery_100s fu  k100  x1 v = some z → gC v = 12 → ∀ (H : Heap) (locs : List Loc), WB G (st S a v) s H locs → ∀ (ls : Array Slot), lv_has ls 2 [(0, .ref a), (1, .int x1)] → W p l e RM_X13_gallery s m args below meth c H locs 0 0 (QR G below args s (some (.int z.1)) (st S a v0) (st S a z.2)) (F0 m 100 ls []) := by
  intro x1 v hf hc H locs hW ls hl
  have hx := hM.1
  have hb := hM.2.1
  refine lv_iload_n hx hb dX13_gallery_100 rfl (lv_at hl 1 rfl) ?_
  refine lv_aload_n hx hb dX13_gallery_101 rfl (lv_at hl 0 rfl) ?_
  refine b_get hM hW 11 13 hc rfl rfl (by decide) wi_X13 (wgm fk_RX13_242) (x := .int (gI v 13)) rfl dX13_gallery_102 ?_
  refine lv_icmp_ge (tgt := 146) hx hb dX13_gallery_105 (by decide) (fun c1 => ?_) (fun c1 => ?_)
  · have hf := if_t c1 hf
    refine lv_iconst (v := (0 : Int32)) hx hb dX13_gallery_146 (by decide) ?_
    refine lv_istore_n (lv' := [(1, .int (0 : Int32)), (0, .ref a)]) hx hb dX13_gallery_147 rfl hl (by decide) rfl (fun ls hl => ?_)
    exact t_X13_gallery_148 (fu := fu) hM hml hr hlk hc0 _ _ hf hc _ _ hW _ (lv_sub hl [1, 0] rfl)
  · have hf := if_f c1 hf
    refine lv_aload_n hx hb dX13_gallery_108 rfl (lv_at hl 0 rfl) ?_
    refine b_get hM hW 11 11 hc rfl rfl (by decide) wi_X13 (wgm fk_RX13_98) (x := .ref (a + 7)) rfl dX13_gallery_109 ?_
    refine lv_iload_n hx hb dX13_gallery_112 rfl (lv_at hl 1 rfl) ?_
    refine lv_aload_n hx hb dX13_gallery_113 rfl (lv_at hl 0 rfl) ?_
    refine b_get hM hW 11 11 hc rfl rfl (by decide) wi_X13 (wgm fk_RX13_98) (x := .ref (a + 7)) rfl dX13_gallery_114 ?_
    refine lv_sipush (v := (1100 : Int32)) hx hb dX13_gallery_117 (by decide) ?_
    refine lv_iload_n hx hb dX13_gallery_120 rfl (lv_at hl 1 rfl) ?_
    refine lv_iadd hx hb dX13_gallery_121 ?_
    refine lv_topi (fun y2 ey2 => ?_)
    have hf := nm_at ey2 hf
    obtain ⟨h3, hf⟩ := ck_elim hf
    refine b_iald (n := 2200) hM hW 11 11 hc (by decide) rfl rfl rfl rfl h3 dX13_gallery_122 ?_
    refine lv_topi (fun y4 ey4 => ?_)
    have hf := nm_at ey4 hf
    obtain ⟨h5, hf⟩ := ck_elim hf
    refine b_iast (n := 2200) hM hW 11 11 hc (by decide) rfl rfl rfl rfl h5 dX13_gallery_123 (fun v6 ev6 hc H locs hW => ?_)
    have hf := nm_at ev6 hf
    refine lv_aload_n hx hb dX13_gallery_124 rfl (lv_at hl 0 rfl) ?_
    refine b_get hM hW 11 12 hc rfl rfl (by decide) wi_X13 (wgm fk_RX13_101) (x := .ref (a + 8)) rfl dX13_gallery_125 ?_
    refine lv_iload_n hx hb dX13_gallery_128 rfl (lv_at hl 1 rfl) ?_
    refine lv_aload_n hx hb dX13_gallery_129 rfl (lv_at hl 0 rfl) ?_
    refine b_get hM hW 11 12 hc rfl rfl (by decide) wi_X13 (wgm fk_RX13_101) (x := .ref (a + 8)) rfl dX13_gallery_130 ?_
    refine lv_sipush (v := (1100 : Int32)) hx hb dX13_gallery_133 (by decide) ?_
    refine lv_iload_n hx hb dX13_gallery_136 rfl (lv_at hl 1 rfl) ?_
    refine lv_iadd hx hb dX13_gallery_137 ?_
    refine lv_topi (fun y7 ey7 => ?_)
    have hf := nm_at ey7 hf
    obtain ⟨h8, hf⟩ := ck_elim hf
    refine b_iald (n := 2200) hM hW 11 12 hc (by decide) rfl rfl rfl rfl h8 dX13_gallery_138 ?_
    refine lv_topi (fun y9 ey9 => ?_)
    have hf := nm_at ey9 hf
    obtain ⟨h10, hf⟩ := ck_elim hf
    refine b_iast (n := 2200) hM hW 11 12 hc (by decide) rfl rfl rfl rfl h10 dX13_gallery_139 (fun v11 ev11 hc H locs hW => ?_)
    have hf := nm_at ev11 hf
    obtain ⟨y12, ey12⟩ : ∃ y : Int32, y = x1 + (1 : Int32) := ⟨_, rfl⟩
    have hf := nm_at ey12 hf
    refine lv_iinc (v := y12) (lv' := [(1, .int y12), (0, .ref a)]) hx hb dX13_gallery_140 hl (k := 1) rfl (by rw [ey12]; rfl) (by decide) rfl (fun ls hl => ?_)
    refine lv_goto (tgt := 100) hx hb dX13_gallery_143 (by decide) ?_
    exact hk100 _ _ hf hc _ _ hW _ (lv_sub hl [1, 0] rfl)
theorem t_X13_gallery_100 {G : GG} {p : Program} {l : Launch} {e : Env} {s : State} {m : MethodId} {args : Array Value} {below : List Frame} {meth : Method} {c : Code} {S : ST} {fu : Nat} {z : Int32 × GV} {a : Nat} {v0 : GV}  (hM : MC G p s m args c cX13_gallery w_X13_gallery RX13) (hml : c.maxLocals = 2) (hr : meth.sig.returnType = (some .int)) (hlk : meth.locks = false) (hc0 : gC v0 = 12)  : ∀ {n : Nat} (x1 : Int32) (v : GV), f_X13_gallery_100 fu n   x1 v = some z → gC v = 12 → ∀ (H : Heap) (locs : List Loc), WB G (st S a v) s H locs → ∀ (ls : Array Slot), lv_has ls 2 [(0, .ref a), (1, .int x1)] → W p l e RM_X13_gallery s m args below meth c H locs 0 0 (QR G below args s (some (.int z.1)) (st S a v0) (st S a z.2)) (F0 m 100 ls []) := by
  intro n
  induction n with
  | zero => intro x1 v hf; cases hf
  | succ n ih => intro x1 v hf; exact t_X13_gallery_100s (fu := fu) hM hml hr hlk hc0  (k100 := f_X13_gallery_100 fu n  ) ih _ _ hf
noncomputable def f_X13_gallery_71s (fu : Nat)  (k71 : Int32 → GV → Option (Int32 × GV)) (x1 : Int32) (v : GV) : Option (Int32 × GV) :=
  if (70 : Int32) ≤ x1 then
    (f_X13_gallery_100 fu fu (0 : Int32) v)
  else
    (nm (((70 : Int32) + x1)) fun y2 =>
    ck (inb y2 140) <|
    nm ((gA v 10 y2.toNatClampNeg)) fun y4 =>
    ck (inb x1 140) <|
    nm (sA v 10 x1.toNatClampNeg y4) fun v6 =>
    nm (x1 + (1 : Int32)) fun y7 =>
    k71 y7 v6)
noncomputable def f_X13_gallery_71 (fu n : Nat)  : Int32 → GV → Option (Int32 × GV) :=
  lq_2 (fun k71 => f_X13_gallery_71s fu  k71 ) n
set_option maxHeartbeats 4000000 in
set_option maxRecDepth 100000 in
theorem t_X13_gallery_71s {G : GG} {p : Program} {l : Launch} {e : Env} {s : State} {m : MethodId} {args : Array Value} {below : List Frame} {meth : Method} {c : Code} {S : ST} {fu : Nat} {z : Int32 × GV} {a : Nat} {v0 : GV}  (hM : MC G p s m args c cX13_gallery w_X13_gallery RX13) (hml : c.maxLocals = 2) (hr : meth.sig.returnType = (some .int)) (hlk : meth.locks = false) (hc0 : gC v0 = 12) {k71 : Int32 → GV → Option (Int32 × GV)}  (hk71 : ∀ (x1 : Int32) (v : GV), k71 x1 v = some z → gC v = 12 → ∀ (H : Heap) (locs : List Loc), WB G (st S a v) s H locs → ∀ (ls : Array Slot), lv_has ls 2 [(0, .ref a), (1, .int x1)] → W p l e RM_X13_gallery s m args below meth c H locs 0 0 (QR G below args s (some (.int z.1)) (st S a v0) (st S a z.2)) (F0 m 71 ls [])) : ∀ (x1 : Int32) (v : GV), f_X13_gallery_71s fu  k71  x1 v = some z → gC v = 12 → ∀ (H : Heap) (locs : List Loc), WB G (st S a v) s H locs → ∀ (ls : Array Slot), lv_has ls 2 [(0, .ref a), (1, .int x1)] → W p l e RM_X13_gallery s m args below meth c H locs 0 0 (QR G below args s (some (.int z.1)) (st S a v0) (st S a z.2)) (F0 m 71 ls []) := by
  intro x1 v hf hc H locs hW ls hl
  have hx := hM.1
  have hb := hM.2.1
  refine lv_iload_n hx hb dX13_gallery_71 rfl (lv_at hl 1 rfl) ?_
  refine lv_bipush (v := (70 : Int32)) hx hb dX13_gallery_72 (by decide) ?_
  refine lv_icmp_ge (tgt := 98) hx hb dX13_gallery_74 (by decide) (fun c1 => ?_) (fun c1 => ?_)
  · have hf := if_t c1 hf
    refine lv_iconst (v := (0 : Int32)) hx hb dX13_gallery_98 (by decide) ?_
    refine lv_istore_n (lv' := [(1, .int (0 : Int32)), (0, .ref a)]) hx hb dX13_gallery_99 rfl hl (by decide) rfl (fun ls hl => ?_)
    exact t_X13_gallery_100 (fu := fu) hM hml hr hlk hc0 _ _ hf hc _ _ hW _ (lv_sub hl [1, 0] rfl)
  · have hf := if_f c1 hf
    refine lv_aload_n hx hb dX13_gallery_77 rfl (lv_at hl 0 rfl) ?_
    refine b_get hM hW 11 10 hc rfl rfl (by decide) wi_X13 (wgm fk_RX13_95) (x := .ref (a + 6)) rfl dX13_gallery_78 ?_
    refine lv_iload_n hx hb dX13_gallery_81 rfl (lv_at hl 1 rfl) ?_
    refine lv_aload_n hx hb dX13_gallery_82 rfl (lv_at hl 0 rfl) ?_
    refine b_get hM hW 11 10 hc rfl rfl (by decide) wi_X13 (wgm fk_RX13_95) (x := .ref (a + 6)) rfl dX13_gallery_83 ?_
    refine lv_bipush (v := (70 : Int32)) hx hb dX13_gallery_86 (by decide) ?_
    refine lv_iload_n hx hb dX13_gallery_88 rfl (lv_at hl 1 rfl) ?_
    refine lv_iadd hx hb dX13_gallery_89 ?_
    refine lv_topi (fun y2 ey2 => ?_)
    have hf := nm_at ey2 hf
    obtain ⟨h3, hf⟩ := ck_elim hf
    refine b_iald (n := 140) hM hW 11 10 hc (by decide) rfl rfl rfl rfl h3 dX13_gallery_90 ?_
    refine lv_topi (fun y4 ey4 => ?_)
    have hf := nm_at ey4 hf
    obtain ⟨h5, hf⟩ := ck_elim hf
    refine b_iast (n := 140) hM hW 11 10 hc (by decide) rfl rfl rfl rfl h5 dX13_gallery_91 (fun v6 ev6 hc H locs hW => ?_)
    have hf := nm_at ev6 hf
    obtain ⟨y7, ey7⟩ : ∃ y : Int32, y = x1 + (1 : Int32) := ⟨_, rfl⟩
    have hf := nm_at ey7 hf
    refine lv_iinc (v := y7) (lv' := [(1, .int y7), (0, .ref a)]) hx hb dX13_gallery_92 hl (k := 1) rfl (by rw [ey7]; rfl) (by decide) rfl (fun ls hl => ?_)
    refine lv_goto (tgt := 71) hx hb dX13_gallery_95 (by decide) ?_
    exact hk71 _ _ hf hc _ _ hW _ (lv_sub hl [1, 0] rfl)
theorem t_X13_gallery_71 {G : GG} {p : Program} {l : Launch} {e : Env} {s : State} {m : MethodId} {args : Array Value} {below : List Frame} {meth : Method} {c : Code} {S : ST} {fu : Nat} {z : Int32 × GV} {a : Nat} {v0 : GV}  (hM : MC G p s m args c cX13_gallery w_X13_gallery RX13) (hml : c.maxLocals = 2) (hr : meth.sig.returnType = (some .int)) (hlk : meth.locks = false) (hc0 : gC v0 = 12)  : ∀ {n : Nat} (x1 : Int32) (v : GV), f_X13_gallery_71 fu n   x1 v = some z → gC v = 12 → ∀ (H : Heap) (locs : List Loc), WB G (st S a v) s H locs → ∀ (ls : Array Slot), lv_has ls 2 [(0, .ref a), (1, .int x1)] → W p l e RM_X13_gallery s m args below meth c H locs 0 0 (QR G below args s (some (.int z.1)) (st S a v0) (st S a z.2)) (F0 m 71 ls []) := by
  intro n
  induction n with
  | zero => intro x1 v hf; cases hf
  | succ n ih => intro x1 v hf; exact t_X13_gallery_71s (fu := fu) hM hml hr hlk hc0  (k71 := f_X13_gallery_71 fu n  ) ih _ _ hf
noncomputable def f_X13_gallery_57 (fu : Nat)  (v : GV) : Option (Int32 × GV) :=
  if (gI v 8) ≤ 0 then
    (f_X13_gallery_71 fu fu (0 : Int32) v)
  else
    (some ((gI v 8), v))
set_option maxHeartbeats 4000000 in
set_option maxRecDepth 100000 in
theorem t_X13_gallery_57 {G : GG} {p : Program} {l : Launch} {e : Env} {s : State} {m : MethodId} {args : Array Value} {below : List Frame} {meth : Method} {c : Code} {S : ST} {fu : Nat} {z : Int32 × GV} {a : Nat} {v0 : GV}  {v : GV} (hM : MC G p s m args c cX13_gallery w_X13_gallery RX13) (hml : c.maxLocals = 2) (hr : meth.sig.returnType = (some .int)) (hlk : meth.locks = false) (hc0 : gC v0 = 12)  (hf : f_X13_gallery_57 fu  v  = some z) : gC v = 12 → ∀ (H : Heap) (locs : List Loc), WB G (st S a v) s H locs → ∀ (ls : Array Slot), lv_has ls 2 [(0, .ref a)] → W p l e RM_X13_gallery s m args below meth c H locs 0 0 (QR G below args s (some (.int z.1)) (st S a v0) (st S a z.2)) (F0 m 57 ls []) := by
  intro hc H locs hW ls hl
  have hx := hM.1
  have hb := hM.2.1
  refine lv_aload_n hx hb dX13_gallery_57 rfl (lv_at hl 0 rfl) ?_
  refine b_get hM hW 11 8 hc rfl rfl (by decide) wi_X13 (wgm fk_RX13_192) (x := .int (gI v 8)) rfl dX13_gallery_58 ?_
  refine lv_if_le (tgt := 69) hx hb dX13_gallery_61 (by decide) (fun c1 => ?_) (fun c1 => ?_)
  · have hf := if_t c1 hf
    refine lv_iconst (v := (0 : Int32)) hx hb dX13_gallery_69 (by decide) ?_
    refine lv_istore_n (lv' := [(1, .int (0 : Int32)), (0, .ref a)]) hx hb dX13_gallery_70 rfl hl (by decide) rfl (fun ls hl => ?_)
    exact t_X13_gallery_71 (fu := fu) hM hml hr hlk hc0 _ _ hf hc _ _ hW _ (lv_sub hl [1, 0] rfl)
  · have hf := if_f c1 hf
    refine lv_aload_n hx hb dX13_gallery_64 rfl (lv_at hl 0 rfl) ?_
    refine b_get hM hW 11 8 hc rfl rfl (by decide) wi_X13 (wgm fk_RX13_192) (x := .int (gI v 8)) rfl dX13_gallery_65 ?_
    cases hf
    exact W.iret hx hb hr (b_ret0 hW (keep_s2 hc0 hc) _) hW.2.2.2 dX13_gallery_68 hlk
noncomputable def f_X13_gallery_25s (fu : Nat)  (k25 : GV → Option (Int32 × GV)) (v : GV) : Option (Int32 × GV) :=
  if (gI v 8) = 0 then
    (nm ((gI v 7)) fun y2 =>
    ck (inb y2 1002) <|
    if (gA v 4 y2.toNatClampNeg) = 0 then
      (f_X13_gallery_57 fu v)
    else
      (bd (f_X13_readLine fu v) fun v6 =>
      bd (f_X13_takeSign fu v6 (59 : Int32)) fun v8 =>
      k25 v8))
  else
    (f_X13_gallery_57 fu v)
noncomputable def f_X13_gallery_25 (fu n : Nat)  : GV → Option (Int32 × GV) :=
  lq_1 (fun k25 => f_X13_gallery_25s fu  k25 ) n
set_option maxHeartbeats 4000000 in
set_option maxRecDepth 100000 in
theorem t_X13_gallery_25s {G : GG} {p : Program} {l : Launch} {e : Env} {s : State} {m : MethodId} {args : Array Value} {below : List Frame} {meth : Method} {c : Code} {S : ST} {fu : Nat} {z : Int32 × GV} {a : Nat} {v0 : GV}  (hM : MC G p s m args c cX13_gallery w_X13_gallery RX13) (hml : c.maxLocals = 2) (hr : meth.sig.returnType = (some .int)) (hlk : meth.locks = false) (hc0 : gC v0 = 12) {k25 : GV → Option (Int32 × GV)}  (hk25 : ∀ (v : GV), k25 v = some z → gC v = 12 → ∀ (H : Heap) (locs : List Loc), WB G (st S a v) s H locs → ∀ (ls : Array Slot), lv_has ls 2 [(0, .ref a)] → W p l e RM_X13_gallery s m args below meth c H locs 0 0 (QR G below args s (some (.int z.1)) (st S a v0) (st S a z.2)) (F0 m 25 ls [])) : ∀ (v : GV), f_X13_gallery_25s fu  k25  v = some z → gC v = 12 → ∀ (H : Heap) (locs : List Loc), WB G (st S a v) s H locs → ∀ (ls : Array Slot), lv_has ls 2 [(0, .ref a)] → W p l e RM_X13_gallery s m args below meth c H locs 0 0 (QR G below args s (some (.int z.1)) (st S a v0) (st S a z.2)) (F0 m 25 ls []) := by
  intro v hf hc H locs hW ls hl
  have hx := hM.1
  have hb := hM.2.1
  refine lv_aload_n hx hb dX13_gallery_25 rfl (lv_at hl 0 rfl) ?_
  refine b_get hM hW 11 8 hc rfl rfl (by decide) wi_X13 (wgm fk_RX13_192) (x := .int (gI v 8)) rfl dX13_gallery_26 ?_
  refine lv_if_ne (tgt := 57) hx hb dX13_gallery_29 (by decide) (fun c1 => ?_) (fun c1 => ?_)
  · have hf := if_f c1 hf
    exact t_X13_gallery_57 (fu := fu) hM hml hr hlk hc0 hf hc _ _ hW _ (lv_sub hl [0] rfl)
  · have hf := if_t c1 hf
    refine lv_aload_n hx hb dX13_gallery_32 rfl (lv_at hl 0 rfl) ?_
    refine b_get hM hW 11 4 hc rfl rfl (by decide) wi_X13 (wgm fk_RX13_24) (x := .ref (a + 2)) rfl dX13_gallery_33 ?_
    refine lv_aload_n hx hb dX13_gallery_36 rfl (lv_at hl 0 rfl) ?_
    refine b_get hM hW 11 7 hc rfl rfl (by decide) wi_X13 (wgm fk_RX13_189) (x := .int (gI v 7)) rfl dX13_gallery_37 ?_
    refine lv_topi (fun y2 ey2 => ?_)
    have hf := nm_at ey2 hf
    obtain ⟨h3, hf⟩ := ck_elim hf
    refine b_iald (n := 1002) hM hW 11 4 hc (by decide) rfl rfl rfl rfl h3 dX13_gallery_40 ?_
    refine lv_if_eq (tgt := 57) hx hb dX13_gallery_41 (by decide) (fun c4 => ?_) (fun c4 => ?_)
    · have hf := if_t c4 hf
      exact t_X13_gallery_57 (fu := fu) hM hml hr hlk hc0 hf hc _ _ hW _ (lv_sub hl [0] rfl)
    · have hf := if_f c4 hf
      refine lv_aload_n hx hb dX13_gallery_44 rfl (lv_at hl 0 rfl) ?_
      obtain ⟨v6, hr5, hf⟩ := bd_elim hf
      refine b_callVv [] [] hM hml hl.1 hW hc rfl (by decide) (c_X13_readLine l G fu _ a v hc hr5) (cwV 0 hM.2.2.2.1 (gV mk_RX13_245 im_X13_readLine se_X13_readLine it_RX13 cd_X13_readLine) rfl rfl rfl (by decide +kernel) ⟨Nat.le_of_ble_eq_true rfl, Nat.le_of_ble_eq_true rfl⟩) rfl rfl (Nat.le_of_ble_eq_true rfl) ⟨Nat.zero_le _, Nat.zero_le _⟩ dX13_gallery_45 (fun H locs hW hk => ?_)
      have hc := keep_at hc hk
      refine lv_aload_n hx hb dX13_gallery_48 rfl (lv_at hl 0 rfl) ?_
      refine lv_bipush (v := (59 : Int32)) hx hb dX13_gallery_49 (by decide) ?_
      obtain ⟨v8, hr7, hf⟩ := bd_elim hf
      refine b_callVv [.int (59 : Int32)] [] hM hml hl.1 hW hc rfl (by decide) (c_X13_takeSign l G fu _ a v6 _ hc hr7) (cwV 1 hM.2.2.2.1 (gV mk_RX13_248 im_X13_takeSign se_X13_takeSign it_RX13 cd_X13_takeSign) rfl rfl rfl (by decide +kernel) ⟨Nat.le_of_ble_eq_true rfl, Nat.le_of_ble_eq_true rfl⟩) rfl rfl (Nat.le_of_ble_eq_true rfl) ⟨Nat.zero_le _, Nat.zero_le _⟩ dX13_gallery_51 (fun H locs hW hk => ?_)
      have hc := keep_at hc hk
      refine lv_goto (tgt := 25) hx hb dX13_gallery_54 (by decide) ?_
      exact hk25 _ hf hc _ _ hW _ (lv_sub hl [0] rfl)
theorem t_X13_gallery_25 {G : GG} {p : Program} {l : Launch} {e : Env} {s : State} {m : MethodId} {args : Array Value} {below : List Frame} {meth : Method} {c : Code} {S : ST} {fu : Nat} {z : Int32 × GV} {a : Nat} {v0 : GV}  (hM : MC G p s m args c cX13_gallery w_X13_gallery RX13) (hml : c.maxLocals = 2) (hr : meth.sig.returnType = (some .int)) (hlk : meth.locks = false) (hc0 : gC v0 = 12)  : ∀ {n : Nat} (v : GV), f_X13_gallery_25 fu n   v = some z → gC v = 12 → ∀ (H : Heap) (locs : List Loc), WB G (st S a v) s H locs → ∀ (ls : Array Slot), lv_has ls 2 [(0, .ref a)] → W p l e RM_X13_gallery s m args below meth c H locs 0 0 (QR G below args s (some (.int z.1)) (st S a v0) (st S a z.2)) (F0 m 25 ls []) := by
  intro n
  induction n with
  | zero => intro v hf; cases hf
  | succ n ih => intro v hf; exact t_X13_gallery_25s (fu := fu) hM hml hr hlk hc0  (k25 := f_X13_gallery_25 fu n  ) ih _ hf
noncomputable def f_X13_gallery_0 (fu : Nat)  (v : GV) : Option (Int32 × GV) :=
  nm (sI v 0 (0 : Int32)) fun v1 =>
  bd (f_X13_cutAll fu v1) fun v3 =>
  nm (sI v3 13 (0 : Int32)) fun v4 =>
  nm (sI v4 19 (0 : Int32)) fun v5 =>
  bd (f_X13_standsAsAlways fu v5 (70 : Int32)) fun v7 =>
  f_X13_gallery_25 fu fu v7
set_option maxHeartbeats 4000000 in
set_option maxRecDepth 100000 in
theorem t_X13_gallery_0 {G : GG} {p : Program} {l : Launch} {e : Env} {s : State} {m : MethodId} {args : Array Value} {below : List Frame} {meth : Method} {c : Code} {S : ST} {fu : Nat} {z : Int32 × GV} {a : Nat} {v0 : GV}  {v : GV} (hM : MC G p s m args c cX13_gallery w_X13_gallery RX13) (hml : c.maxLocals = 2) (hr : meth.sig.returnType = (some .int)) (hlk : meth.locks = false) (hc0 : gC v0 = 12)  (hf : f_X13_gallery_0 fu  v  = some z) : gC v = 12 → ∀ (H : Heap) (locs : List Loc), WB G (st S a v) s H locs → ∀ (ls : Array Slot), lv_has ls 2 [(0, .ref a)] → W p l e RM_X13_gallery s m args below meth c H locs 0 0 (QR G below args s (some (.int z.1)) (st S a v0) (st S a z.2)) (F0 m 0 ls []) := by
  intro hc H locs hW ls hl
  have hx := hM.1
  have hb := hM.2.1
  refine lv_aload_n hx hb dX13_gallery_0 rfl (lv_at hl 0 rfl) ?_
  refine lv_iconst (v := (0 : Int32)) hx hb dX13_gallery_1 (by decide) ?_
  refine b_putI hM hW 11 0 hc rfl rfl (by decide) wi_X13 tyX13 tyX13_ok nmX13 (wgm fk_RX13_1) rfl rfl rfl dX13_gallery_2 (fun v1 ev1 hc H locs hW => ?_)
  have hf := nm_at ev1 hf
  refine lv_aload_n hx hb dX13_gallery_5 rfl (lv_at hl 0 rfl) ?_
  obtain ⟨v3, hr2, hf⟩ := bd_elim hf
  refine b_callVv [] [] hM hml hl.1 hW hc rfl (by decide) (c_X13_cutAll l G fu _ a v1 hc hr2) (cwV 0 hM.2.2.2.1 (gV mk_RX13_239 im_X13_cutAll se_X13_cutAll it_RX13 cd_X13_cutAll) rfl rfl rfl (by decide +kernel) ⟨Nat.le_of_ble_eq_true rfl, Nat.le_of_ble_eq_true rfl⟩) rfl rfl (Nat.le_of_ble_eq_true rfl) ⟨Nat.zero_le _, Nat.zero_le _⟩ dX13_gallery_6 (fun H locs hW hk => ?_)
  have hc := keep_at hc hk
  refine lv_aload_n hx hb dX13_gallery_9 rfl (lv_at hl 0 rfl) ?_
  refine lv_iconst (v := (0 : Int32)) hx hb dX13_gallery_10 (by decide) ?_
  refine b_putI hM hW 11 13 hc rfl rfl (by decide) wi_X13 tyX13 tyX13_ok nmX13 (wgm fk_RX13_242) rfl rfl rfl dX13_gallery_11 (fun v4 ev4 hc H locs hW => ?_)
  have hf := nm_at ev4 hf
  refine lv_aload_n hx hb dX13_gallery_14 rfl (lv_at hl 0 rfl) ?_
  refine lv_iconst (v := (0 : Int32)) hx hb dX13_gallery_15 (by decide) ?_
  refine b_putI hM hW 11 19 hc rfl rfl (by decide) wi_X13 tyX13 tyX13_ok nmX13 (wgm fk_RX13_217) rfl rfl rfl dX13_gallery_16 (fun v5 ev5 hc H locs hW => ?_)
  have hf := nm_at ev5 hf
  refine lv_aload_n hx hb dX13_gallery_19 rfl (lv_at hl 0 rfl) ?_
  refine lv_bipush (v := (70 : Int32)) hx hb dX13_gallery_20 (by decide) ?_
  obtain ⟨v7, hr6, hf⟩ := bd_elim hf
  refine b_callVv [.int (70 : Int32)] [] hM hml hl.1 hW hc rfl (by decide) (c_X13_standsAsAlways l G fu _ a v5 _ hc hr6) (cwV 1 hM.2.2.2.1 (gV mk_RX13_159 im_X13_standsAsAlways se_X13_standsAsAlways it_RX13 cd_X13_standsAsAlways) rfl rfl rfl (by decide +kernel) ⟨Nat.le_of_ble_eq_true rfl, Nat.le_of_ble_eq_true rfl⟩) rfl rfl (Nat.le_of_ble_eq_true rfl) ⟨Nat.zero_le _, Nat.zero_le _⟩ dX13_gallery_22 (fun H locs hW hk => ?_)
  have hc := keep_at hc hk
  exact t_X13_gallery_25 (fu := fu) hM hml hr hlk hc0 _ hf hc _ _ hW _ (lv_sub hl [0] rfl)
noncomputable def f_X13_gallery (fu : Nat) (v : GV) : Option (Int32 × GV) := f_X13_gallery_0 fu v
set_option maxHeartbeats 4000000 in
set_option maxRecDepth 100000 in
theorem c_X13_gallery (l : Launch) (G : GG) (fu : Nat) (S : ST) (a : Nat) (v : GV) {z : Int32} {w : GV} (hc : gC v = 12) (hf : f_X13_gallery fu v = some (z, w)) : Ct l yX13_gallery w_X13_gallery RM_X13_gallery G (st S a v) [.ref a] (some (.int z)) (st S a w) 0 0 := by
  refine Met.ofW (cc := cX13_gallery) (maxL := 2) (ret := (some .int)) (by decide) rfl ?_
  intro p e s m args below meth c s₁ B hml hv
  obtain ⟨rfl, hB, hK, hz⟩ := hv
  have hM : MC G p s m _ c cX13_gallery w_X13_gallery RX13 := ⟨B.exec, B.bytes, findClass_of_methodNamed B.named, atoms_spec (ws := w_X13_gallery) B.pre, hK, hz⟩
  have hW : WB G (st S a v) s s.heap [] := ⟨hB, va_S.rf⟩
  have hl := lv_entry ([.ref a]) (n := 2) (Nat.le_of_ble_eq_true rfl)
  rw [lg_entry_eq]
  generalize (lg_sl ([.ref a]) ++ List.replicate (2 - (lg_sl ([.ref a])).length) Slot.unset).toArray = ls at hl ⊢
  have hl : lv_has ls 2 [(0, .ref a)] := hl
  exact t_X13_gallery_0 hM hml B.returns B.notSynchronized hc hf hc _ _ hW _ (lv_sub hl [0] rfl)
abbrev w_X13_readNight : List Cond := Cond.code yX13_readNight cX13_readNight 3 none :: wsL_law0
abbrev RM_X13_readNight : Room := { frames := 5, cells := 0, slots := 0, locals := 111 }
noncomputable def f_X13_readNight_76 (fu : Nat)  (v : GV) (t1 : Int32) (t2 : Int32) : Option (GV) :=
  ck (inb t1 250) <|
  nm (sA v 21 t1.toNatClampNeg t2) fun v2 =>
  some v2
set_option maxHeartbeats 4000000 in
set_option maxRecDepth 100000 in
theorem t_X13_readNight_76 {G : GG} {p : Program} {l : Launch} {e : Env} {s : State} {m : MethodId} {args : Array Value} {below : List Frame} {meth : Method} {c : Code} {S : ST} {fu : Nat} {z : GV} {a : Nat} {v0 : GV}  {v : GV} {t1 : Int32} {t2 : Int32} (hM : MC G p s m args c cX13_readNight w_X13_readNight RX13) (hml : c.maxLocals = 3) (hr : meth.sig.returnType = none) (hlk : meth.locks = false) (hc0 : gC v0 = 12)  (hf : f_X13_readNight_76 fu  v t1 t2 = some z) : gC v = 12 → ∀ (H : Heap) (locs : List Loc), WB G (st S a v) s H locs → ∀ (ls : Array Slot), lv_has ls 3 [] → W p l e RM_X13_readNight s m args below meth c H locs 0 0 (QR G below args s none (st S a v0) (st S a z)) (F0 m 76 ls [.int t2, .int t1, .ref (a + 13)]) := by
  intro hc H locs hW ls hl
  have hx := hM.1
  have hb := hM.2.1
  obtain ⟨h1, hf⟩ := ck_elim hf
  refine b_iast (n := 250) hM hW 11 21 hc (by decide) rfl rfl rfl rfl h1 dX13_readNight_76 (fun v2 ev2 hc H locs hW => ?_)
  have hf := nm_at ev2 hf
  cases hf
  exact W.vret hx hb hr (b_ret0 hW (keep_s2 hc0 hc) _) hW.2.2.2 dX13_readNight_77 hlk
noncomputable def f_X13_readNight_0 (fu : Nat)  (v : GV) (x1 : Int32) (x2 : Int32) : Option (GV) :=
  if x1 = (3 : Int32) then
    (bd2 (f_X13_takeNumber fu v (0 : Int32) (23 : Int32)) fun r14 v15 =>
    ck (inb x2 250) <|
    nm (sA v15 21 x2.toNatClampNeg r14) fun v17 =>
    some v17)
  else
    (if (3 : Int32) ≤ x1 then
      (some v)
    else
      (bd2 (f_X13_takeTold fu v (0 : Int32) (20 : Int32)) fun r3 v4 =>
      ck (inb x2 250) <|
      nm (sA v4 21 x2.toNatClampNeg r3) fun v6 =>
      bd2 (f_X13_takeNumber fu v6 (0 : Int32) (7 : Int32)) fun r7 v8 =>
      ck (inb (x2 + (1 : Int32)) 250) <|
      nm (sA v8 21 (x2 + (1 : Int32)).toNatClampNeg r7) fun v10 =>
      if x1 = (1 : Int32) then
        (bd2 (f_X13_takeTold fu v10 (0 : Int32) (0 : Int32)) fun r12 v13 =>
        f_X13_readNight_76 fu v13 (x2 + (2 : Int32)) r12)
      else
        (f_X13_readNight_76 fu v10 (x2 + (2 : Int32)) (0 : Int32))))
set_option maxHeartbeats 4000000 in
set_option maxRecDepth 100000 in
theorem t_X13_readNight_0 {G : GG} {p : Program} {l : Launch} {e : Env} {s : State} {m : MethodId} {args : Array Value} {below : List Frame} {meth : Method} {c : Code} {S : ST} {fu : Nat} {z : GV} {a : Nat} {v0 : GV}  {v : GV} {x1 : Int32} {x2 : Int32} (hM : MC G p s m args c cX13_readNight w_X13_readNight RX13) (hml : c.maxLocals = 3) (hr : meth.sig.returnType = none) (hlk : meth.locks = false) (hc0 : gC v0 = 12)  (hf : f_X13_readNight_0 fu  v x1 x2 = some z) : gC v = 12 → ∀ (H : Heap) (locs : List Loc), WB G (st S a v) s H locs → ∀ (ls : Array Slot), lv_has ls 3 [(0, .ref a), (1, .int x1), (2, .int x2)] → W p l e RM_X13_readNight s m args below meth c H locs 0 0 (QR G below args s none (st S a v0) (st S a z)) (F0 m 0 ls []) := by
  intro hc H locs hW ls hl
  have hx := hM.1
  have hb := hM.2.1
  refine lv_iload_n hx hb dX13_readNight_0 rfl (lv_at hl 1 rfl) ?_
  refine lv_iconst (v := (3 : Int32)) hx hb dX13_readNight_1 (by decide) ?_
  refine lv_icmp_ne (tgt := 21) hx hb dX13_readNight_2 (by decide) (fun c1 => ?_) (fun c1 => ?_)
  · have hf := if_f c1 hf
    refine lv_iload_n hx hb dX13_readNight_21 rfl (lv_at hl 1 rfl) ?_
    refine lv_iconst (v := (3 : Int32)) hx hb dX13_readNight_22 (by decide) ?_
    refine lv_icmp_ge (tgt := 77) hx hb dX13_readNight_23 (by decide) (fun c2 => ?_) (fun c2 => ?_)
    · have hf := if_t c2 hf
      cases hf
      exact W.vret hx hb hr (b_ret0 hW (keep_s2 hc0 hc) _) hW.2.2.2 dX13_readNight_77 hlk
    · have hf := if_f c2 hf
      refine lv_aload_n hx hb dX13_readNight_26 rfl (lv_at hl 0 rfl) ?_
      refine b_get hM hW 11 21 hc rfl rfl (by decide) wi_X13 (wgm fk_RX13_116) (x := .ref (a + 13)) rfl dX13_readNight_27 ?_
      refine lv_iload_n hx hb dX13_readNight_30 rfl (lv_at hl 2 rfl) ?_
      refine lv_aload_n hx hb dX13_readNight_31 rfl (lv_at hl 0 rfl) ?_
      refine lv_iconst (v := (0 : Int32)) hx hb dX13_readNight_32 (by decide) ?_
      refine lv_bipush (v := (20 : Int32)) hx hb dX13_readNight_33 (by decide) ?_
      obtain ⟨r3, v4, hr3, hf⟩ := bd2_elim hf
      refine b_callVi [.int (0 : Int32), .int (20 : Int32)] [.int x2, .ref (a + 13)] hM hml hl.1 hW hc rfl (by decide) (c_X13_takeTold l G fu _ a v _ _ hc hr3) (cwV 2 hM.2.2.2.1 (gV mk_RX13_286 im_X13_takeTold se_X13_takeTold it_RX13 cd_X13_takeTold) rfl rfl rfl (by decide +kernel) ⟨Nat.le_of_ble_eq_true rfl, Nat.le_of_ble_eq_true rfl⟩) rfl rfl (Nat.le_of_ble_eq_true rfl) ⟨Nat.zero_le _, Nat.zero_le _⟩ dX13_readNight_35 (fun H locs hW hk => ?_)
      have hc := keep_at hc hk
      obtain ⟨h5, hf⟩ := ck_elim hf
      refine b_iast (n := 250) hM hW 11 21 hc (by decide) rfl rfl rfl rfl h5 dX13_readNight_38 (fun v6 ev6 hc H locs hW => ?_)
      have hf := nm_at ev6 hf
      refine lv_aload_n hx hb dX13_readNight_39 rfl (lv_at hl 0 rfl) ?_
      refine b_get hM hW 11 21 hc rfl rfl (by decide) wi_X13 (wgm fk_RX13_116) (x := .ref (a + 13)) rfl dX13_readNight_40 ?_
      refine lv_iload_n hx hb dX13_readNight_43 rfl (lv_at hl 2 rfl) ?_
      refine lv_iconst (v := (1 : Int32)) hx hb dX13_readNight_44 (by decide) ?_
      refine lv_iadd hx hb dX13_readNight_45 ?_
      refine lv_aload_n hx hb dX13_readNight_46 rfl (lv_at hl 0 rfl) ?_
      refine lv_iconst (v := (0 : Int32)) hx hb dX13_readNight_47 (by decide) ?_
      refine lv_bipush (v := (7 : Int32)) hx hb dX13_readNight_48 (by decide) ?_
      obtain ⟨r7, v8, hr7, hf⟩ := bd2_elim hf
      refine b_callVi [.int (0 : Int32), .int (7 : Int32)] [.int (x2 + (1 : Int32)), .ref (a + 13)] hM hml hl.1 hW hc rfl (by decide) (c_X13_takeNumber l G fu _ a v6 _ _ hc hr7) (cwV 2 hM.2.2.2.1 (gV mk_RX13_210 im_X13_takeNumber se_X13_takeNumber it_RX13 cd_X13_takeNumber) rfl rfl rfl (by decide +kernel) ⟨Nat.le_of_ble_eq_true rfl, Nat.le_of_ble_eq_true rfl⟩) rfl rfl (Nat.le_of_ble_eq_true rfl) ⟨Nat.zero_le _, Nat.zero_le _⟩ dX13_readNight_50 (fun H locs hW hk => ?_)
      have hc := keep_at hc hk
      obtain ⟨h9, hf⟩ := ck_elim hf
      refine b_iast (n := 250) hM hW 11 21 hc (by decide) rfl rfl rfl rfl h9 dX13_readNight_53 (fun v10 ev10 hc H locs hW => ?_)
      have hf := nm_at ev10 hf
      refine lv_aload_n hx hb dX13_readNight_54 rfl (lv_at hl 0 rfl) ?_
      refine b_get hM hW 11 21 hc rfl rfl (by decide) wi_X13 (wgm fk_RX13_116) (x := .ref (a + 13)) rfl dX13_readNight_55 ?_
      refine lv_iload_n hx hb dX13_readNight_58 rfl (lv_at hl 2 rfl) ?_
      refine lv_iconst (v := (2 : Int32)) hx hb dX13_readNight_59 (by decide) ?_
      refine lv_iadd hx hb dX13_readNight_60 ?_
      refine lv_iload_n hx hb dX13_readNight_61 rfl (lv_at hl 1 rfl) ?_
      refine lv_iconst (v := (1 : Int32)) hx hb dX13_readNight_62 (by decide) ?_
      refine lv_icmp_ne (tgt := 75) hx hb dX13_readNight_63 (by decide) (fun c11 => ?_) (fun c11 => ?_)
      · have hf := if_f c11 hf
        refine lv_iconst (v := (0 : Int32)) hx hb dX13_readNight_75 (by decide) ?_
        exact t_X13_readNight_76 (fu := fu) hM hml hr hlk hc0 hf hc _ _ hW _ (lv_sub hl [] rfl)
      · have hf := if_t c11 hf
        refine lv_aload_n hx hb dX13_readNight_66 rfl (lv_at hl 0 rfl) ?_
        refine lv_iconst (v := (0 : Int32)) hx hb dX13_readNight_67 (by decide) ?_
        refine lv_iconst (v := (0 : Int32)) hx hb dX13_readNight_68 (by decide) ?_
        obtain ⟨r12, v13, hr12, hf⟩ := bd2_elim hf
        refine b_callVi [.int (0 : Int32), .int (0 : Int32)] [.int (x2 + (2 : Int32)), .ref (a + 13)] hM hml hl.1 hW hc rfl (by decide) (c_X13_takeTold l G fu _ a v10 _ _ hc hr12) (cwV 2 hM.2.2.2.1 (gV mk_RX13_286 im_X13_takeTold se_X13_takeTold it_RX13 cd_X13_takeTold) rfl rfl rfl (by decide +kernel) ⟨Nat.le_of_ble_eq_true rfl, Nat.le_of_ble_eq_true rfl⟩) rfl rfl (Nat.le_of_ble_eq_true rfl) ⟨Nat.zero_le _, Nat.zero_le _⟩ dX13_readNight_69 (fun H locs hW hk => ?_)
        have hc := keep_at hc hk
        refine lv_goto (tgt := 76) hx hb dX13_readNight_72 (by decide) ?_
        exact t_X13_readNight_76 (fu := fu) hM hml hr hlk hc0 hf hc _ _ hW _ (lv_sub hl [] rfl)
  · have hf := if_t c1 hf
    refine lv_aload_n hx hb dX13_readNight_5 rfl (lv_at hl 0 rfl) ?_
    refine b_get hM hW 11 21 hc rfl rfl (by decide) wi_X13 (wgm fk_RX13_116) (x := .ref (a + 13)) rfl dX13_readNight_6 ?_
    refine lv_iload_n hx hb dX13_readNight_9 rfl (lv_at hl 2 rfl) ?_
    refine lv_aload_n hx hb dX13_readNight_10 rfl (lv_at hl 0 rfl) ?_
    refine lv_iconst (v := (0 : Int32)) hx hb dX13_readNight_11 (by decide) ?_
    refine lv_bipush (v := (23 : Int32)) hx hb dX13_readNight_12 (by decide) ?_
    obtain ⟨r14, v15, hr14, hf⟩ := bd2_elim hf
    refine b_callVi [.int (0 : Int32), .int (23 : Int32)] [.int x2, .ref (a + 13)] hM hml hl.1 hW hc rfl (by decide) (c_X13_takeNumber l G fu _ a v _ _ hc hr14) (cwV 2 hM.2.2.2.1 (gV mk_RX13_210 im_X13_takeNumber se_X13_takeNumber it_RX13 cd_X13_takeNumber) rfl rfl rfl (by decide +kernel) ⟨Nat.le_of_ble_eq_true rfl, Nat.le_of_ble_eq_true rfl⟩) rfl rfl (Nat.le_of_ble_eq_true rfl) ⟨Nat.zero_le _, Nat.zero_le _⟩ dX13_readNight_14 (fun H locs hW hk => ?_)
    have hc := keep_at hc hk
    obtain ⟨h16, hf⟩ := ck_elim hf
    refine b_iast (n := 250) hM hW 11 21 hc (by decide) rfl rfl rfl rfl h16 dX13_readNight_17 (fun v17 ev17 hc H locs hW => ?_)
    have hf := nm_at ev17 hf
    refine lv_goto (tgt := 77) hx hb dX13_readNight_18 (by decide) ?_
    cases hf
    exact W.vret hx hb hr (b_ret0 hW (keep_s2 hc0 hc) _) hW.2.2.2 dX13_readNight_77 hlk
noncomputable def f_X13_readNight (fu : Nat) (v : GV) (x1 : Int32) (x2 : Int32) : Option (GV) := f_X13_readNight_0 fu v x1 x2
set_option maxHeartbeats 4000000 in
set_option maxRecDepth 100000 in
theorem c_X13_readNight (l : Launch) (G : GG) (fu : Nat) (S : ST) (a : Nat) (v : GV) (x1 : Int32) (x2 : Int32) {z : GV} (hc : gC v = 12) (hf : f_X13_readNight fu v x1 x2 = some z) : Ct l yX13_readNight w_X13_readNight RM_X13_readNight G (st S a v) [.ref a, .int x1, .int x2] none (st S a z) 0 0 := by
  refine Met.ofW (cc := cX13_readNight) (maxL := 3) (ret := none) (by decide) rfl ?_
  intro p e s m args below meth c s₁ B hml hv
  obtain ⟨rfl, hB, hK, hz⟩ := hv
  have hM : MC G p s m _ c cX13_readNight w_X13_readNight RX13 := ⟨B.exec, B.bytes, findClass_of_methodNamed B.named, atoms_spec (ws := w_X13_readNight) B.pre, hK, hz⟩
  have hW : WB G (st S a v) s s.heap [] := ⟨hB, va_S.rf⟩
  have hl := lv_entry ([.ref a, .int x1, .int x2]) (n := 3) (Nat.le_of_ble_eq_true rfl)
  rw [lg_entry_eq]
  generalize (lg_sl ([.ref a, .int x1, .int x2]) ++ List.replicate (3 - (lg_sl ([.ref a, .int x1, .int x2])).length) Slot.unset).toArray = ls at hl ⊢
  have hl : lv_has ls 3 [(0, .ref a), (1, .int x1), (2, .int x2)] := hl
  exact t_X13_readNight_0 hM hml B.returns B.notSynchronized hc hf hc _ _ hW _ (lv_sub hl [0, 1, 2] rfl)
