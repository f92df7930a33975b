abbrev RM_X3_takeNights : Room := { frames := 1, cells := 0, slots := 0, locals := 60 }
abbrev w_X3_takeNights : List Cond := Cond.code yX3_takeNights cX3_takeNights 2 none :: wsL_law0
noncomputable def f_X3_takeNights_0 (fu : Nat)  (S : ST) (a : Nat) (g1 : Nat) : Option (ST) :=
  nm (st S a (sAf (S a) 0 (va_cpy (gA (S g1) 0) (gA (S a) 0) (0 : Int32).toNatClampNeg (0 : Int32).toNatClampNeg (8 : Int32).toNatClampNeg))) fun S1 =>
  nm (st S1 a (sAf (S1 a) 1 (va_cpy (gA (S1 g1) 1) (gA (S1 a) 1) (0 : Int32).toNatClampNeg (0 : Int32).toNatClampNeg (8 : Int32).toNatClampNeg))) fun S2 =>
  nm (st S2 a (sAf (S2 a) 2 (va_cpy (gA (S2 g1) 2) (gA (S2 a) 2) (0 : Int32).toNatClampNeg (0 : Int32).toNatClampNeg (8 : Int32).toNatClampNeg))) fun S3 =>
  nm (st S3 a (sAf (S3 a) 3 (va_cpy (gA (S3 g1) 3) (gA (S3 a) 3) (0 : Int32).toNatClampNeg (0 : Int32).toNatClampNeg (8 : Int32).toNatClampNeg))) fun S4 =>
  nm (st S4 a (sAf (S4 a) 4 (va_cpy (gA (S4 g1) 4) (gA (S4 a) 4) (0 : Int32).toNatClampNeg (0 : Int32).toNatClampNeg (8 : Int32).toNatClampNeg))) fun S5 =>
  nm (st S5 a (sAf (S5 a) 5 (va_cpy (gA (S5 g1) 5) (gA (S5 a) 5) (0 : Int32).toNatClampNeg (0 : Int32).toNatClampNeg (5 : Int32).toNatClampNeg))) fun S6 =>
  nm (st S6 a (sI (S6 a) 6 (gI (S6 g1) 6))) fun S7 =>
  nm (st S7 a (sI (S7 a) 7 (gI (S7 g1) 7))) fun S8 =>
  nm (st S8 a (sI (S8 a) 8 (gI (S8 g1) 8))) fun S9 =>
  nm (st S9 a (sI (S9 a) 9 (gI (S9 g1) 9))) fun S10 =>
  some S10
set_option maxHeartbeats 4000000 in
set_option maxRecDepth 100000 in
theorem t_X3_takeNights_0 {G : GG} {p : Program} {l : Launch} {e : Env} {s : State} {m : MethodId} {args : Array Value} {below : List Frame} {meth : Method} {c : Code} {S0 : ST} {fu : Nat} {z : ST} {a : Nat} {g1 : Nat}  {S : ST} (hM : MC G p s m args c cX3_takeNights w_X3_takeNights RX3) (hml : c.maxLocals = 2) (hr : meth.sig.returnType = none) (hlk : meth.locks = false)   (hf : f_X3_takeNights_0 fu  S a g1  = some z) : (gC (S a) = 3) → (gC (S g1) = 3) → (∀ b, gC (S0 b) ≠ 0 → gC (S b) = gC (S0 b)) → ∀ (H : Heap) (locs : List Loc), WB G S s H locs → ∀ (ls : Array Slot), lv_has ls 2 [(0, .ref a), (1, .ref g1)] → W p l e RM_X3_takeNights s m args below meth c H locs 0 0 (QR G below args s none S0 z) (F0 m 0 ls []) := by
  intro ha hg1 hK0 H locs hW ls hl
  have hx := hM.1
  have hb := hM.2.1
  refine lv_aload_n hx hb dX3_takeNights_0 rfl (lv_at hl 1 rfl) ?_
  refine b_get hM (hW.at_ g1) 2 0 hg1 rfl rfl (by decide) wi_X3 (wgm fk_RX3_9) (x := .ref (g1 + 1)) rfl dX3_takeNights_1 ?_
  refine lv_iconst (v := (0 : Int32)) hx hb dX3_takeNights_4 (by decide) ?_
  refine lv_aload_n hx hb dX3_takeNights_5 rfl (lv_at hl 0 rfl) ?_
  refine b_get hM (hW.at_ a) 2 0 ha rfl rfl (by decide) wi_X3 (wgm fk_RX3_9) (x := .ref (a + 1)) rfl dX3_takeNights_6 ?_
  refine lv_iconst (v := (0 : Int32)) hx hb dX3_takeNights_9 (by decide) ?_
  refine lv_bipush (v := (8 : Int32)) hx hb dX3_takeNights_10 (by decide) ?_
  refine s_copy hM hml hl.1 hW mk_RX3_65 2 0 2 0 hg1 (by decide) rfl rfl ha (by decide) rfl rfl rfl rfl (by decide) (by decide) (by decide) (Nat.le_of_ble_eq_true rfl) (Nat.le_of_ble_eq_true rfl) (Nat.le_of_ble_eq_true rfl) (by decide) dX3_takeNights_12 (fun S1 eS1 hk H locs hW => ?_)
  have hf := nm_at eS1 hf
  have ha := keep1 hk ha
  have hg1 := keep1 hk hg1
  have hK0 := keep_tr hK0 hk
  refine lv_aload_n hx hb dX3_takeNights_15 rfl (lv_at hl 1 rfl) ?_
  refine b_get hM (hW.at_ g1) 2 1 hg1 rfl rfl (by decide) wi_X3 (wgm fk_RX3_15) (x := .ref (g1 + 2)) rfl dX3_takeNights_16 ?_
  refine lv_iconst (v := (0 : Int32)) hx hb dX3_takeNights_19 (by decide) ?_
  refine lv_aload_n hx hb dX3_takeNights_20 rfl (lv_at hl 0 rfl) ?_
  refine b_get hM (hW.at_ a) 2 1 ha rfl rfl (by decide) wi_X3 (wgm fk_RX3_15) (x := .ref (a + 2)) rfl dX3_takeNights_21 ?_
  refine lv_iconst (v := (0 : Int32)) hx hb dX3_takeNights_24 (by decide) ?_
  refine lv_bipush (v := (8 : Int32)) hx hb dX3_takeNights_25 (by decide) ?_
  refine s_copy hM hml hl.1 hW mk_RX3_65 2 1 2 1 hg1 (by decide) rfl rfl ha (by decide) rfl rfl rfl rfl (by decide) (by decide) (by decide) (Nat.le_of_ble_eq_true rfl) (Nat.le_of_ble_eq_true rfl) (Nat.le_of_ble_eq_true rfl) (by decide) dX3_takeNights_27 (fun S2 eS2 hk H locs hW => ?_)
  have hf := nm_at eS2 hf
  have ha := keep1 hk ha
  have hg1 := keep1 hk hg1
  have hK0 := keep_tr hK0 hk
  refine lv_aload_n hx hb dX3_takeNights_30 rfl (lv_at hl 1 rfl) ?_
  refine b_get hM (hW.at_ g1) 2 2 hg1 rfl rfl (by decide) wi_X3 (wgm fk_RX3_18) (x := .ref (g1 + 3)) rfl dX3_takeNights_31 ?_
  refine lv_iconst (v := (0 : Int32)) hx hb dX3_takeNights_34 (by decide) ?_
  refine lv_aload_n hx hb dX3_takeNights_35 rfl (lv_at hl 0 rfl) ?_
  refine b_get hM (hW.at_ a) 2 2 ha rfl rfl (by decide) wi_X3 (wgm fk_RX3_18) (x := .ref (a + 3)) rfl dX3_takeNights_36 ?_
  refine lv_iconst (v := (0 : Int32)) hx hb dX3_takeNights_39 (by decide) ?_
  refine lv_bipush (v := (8 : Int32)) hx hb dX3_takeNights_40 (by decide) ?_
  refine s_copy hM hml hl.1 hW mk_RX3_65 2 2 2 2 hg1 (by decide) rfl rfl ha (by decide) rfl rfl rfl rfl (by decide) (by decide) (by decide) (Nat.le_of_ble_eq_true rfl) (Nat.le_of_ble_eq_true rfl) (Nat.le_of_ble_eq_true rfl) (by decide) dX3_takeNights_42 (fun S3 eS3 hk H locs hW => ?_)
  have hf := nm_at eS3 hf
  have ha := keep1 hk ha
  have hg1 := keep1 hk hg1
  have hK0 := keep_tr hK0 hk
  refine lv_aload_n hx hb dX3_takeNights_45 rfl (lv_at hl 1 rfl) ?_
  refine b_get hM (hW.at_ g1) 2 3 hg1 rfl rfl (by decide) wi_X3 (wgm fk_RX3_21) (x := .ref (g1 + 4)) rfl dX3_takeNights_46 ?_
  refine lv_iconst (v := (0 : Int32)) hx hb dX3_takeNights_49 (by decide) ?_
  refine lv_aload_n hx hb dX3_takeNights_50 rfl (lv_at hl 0 rfl) ?_
  refine b_get hM (hW.at_ a) 2 3 ha rfl rfl (by decide) wi_X3 (wgm fk_RX3_21) (x := .ref (a + 4)) rfl dX3_takeNights_51 ?_
  refine lv_iconst (v := (0 : Int32)) hx hb dX3_takeNights_54 (by decide) ?_
  refine lv_bipush (v := (8 : Int32)) hx hb dX3_takeNights_55 (by decide) ?_
  refine s_copy hM hml hl.1 hW mk_RX3_65 2 3 2 3 hg1 (by decide) rfl rfl ha (by decide) rfl rfl rfl rfl (by decide) (by decide) (by decide) (Nat.le_of_ble_eq_true rfl) (Nat.le_of_ble_eq_true rfl) (Nat.le_of_ble_eq_true rfl) (by decide) dX3_takeNights_57 (fun S4 eS4 hk H locs hW => ?_)
  have hf := nm_at eS4 hf
  have ha := keep1 hk ha
  have hg1 := keep1 hk hg1
  have hK0 := keep_tr hK0 hk
  refine lv_aload_n hx hb dX3_takeNights_60 rfl (lv_at hl 1 rfl) ?_
  refine b_get hM (hW.at_ g1) 2 4 hg1 rfl rfl (by decide) wi_X3 (wgm fk_RX3_24) (x := .ref (g1 + 5)) rfl dX3_takeNights_61 ?_
  refine lv_iconst (v := (0 : Int32)) hx hb dX3_takeNights_64 (by decide) ?_
  refine lv_aload_n hx hb dX3_takeNights_65 rfl (lv_at hl 0 rfl) ?_
  refine b_get hM (hW.at_ a) 2 4 ha rfl rfl (by decide) wi_X3 (wgm fk_RX3_24) (x := .ref (a + 5)) rfl dX3_takeNights_66 ?_
  refine lv_iconst (v := (0 : Int32)) hx hb dX3_takeNights_69 (by decide) ?_
  refine lv_bipush (v := (8 : Int32)) hx hb dX3_takeNights_70 (by decide) ?_
  refine s_copy hM hml hl.1 hW mk_RX3_65 2 4 2 4 hg1 (by decide) rfl rfl ha (by decide) rfl rfl rfl rfl (by decide) (by decide) (by decide) (Nat.le_of_ble_eq_true rfl) (Nat.le_of_ble_eq_true rfl) (Nat.le_of_ble_eq_true rfl) (by decide) dX3_takeNights_72 (fun S5 eS5 hk H locs hW => ?_)
  have hf := nm_at eS5 hf
  have ha := keep1 hk ha
  have hg1 := keep1 hk hg1
  have hK0 := keep_tr hK0 hk
  refine lv_aload_n hx hb dX3_takeNights_75 rfl (lv_at hl 1 rfl) ?_
  refine b_get hM (hW.at_ g1) 2 5 hg1 rfl rfl (by decide) wi_X3 (wgm fk_RX3_27) (x := .ref (g1 + 6)) rfl dX3_takeNights_76 ?_
  refine lv_iconst (v := (0 : Int32)) hx hb dX3_takeNights_79 (by decide) ?_
  refine lv_aload_n hx hb dX3_takeNights_80 rfl (lv_at hl 0 rfl) ?_
  refine b_get hM (hW.at_ a) 2 5 ha rfl rfl (by decide) wi_X3 (wgm fk_RX3_27) (x := .ref (a + 6)) rfl dX3_takeNights_81 ?_
  refine lv_iconst (v := (0 : Int32)) hx hb dX3_takeNights_84 (by decide) ?_
  refine lv_iconst (v := (5 : Int32)) hx hb dX3_takeNights_85 (by decide) ?_
  refine s_copy hM hml hl.1 hW mk_RX3_65 2 5 2 5 hg1 (by decide) rfl rfl ha (by decide) rfl rfl rfl rfl (by decide) (by decide) (by decide) (Nat.le_of_ble_eq_true rfl) (Nat.le_of_ble_eq_true rfl) (Nat.le_of_ble_eq_true rfl) (by decide) dX3_takeNights_86 (fun S6 eS6 hk H locs hW => ?_)
  have hf := nm_at eS6 hf
  have ha := keep1 hk ha
  have hg1 := keep1 hk hg1
  have hK0 := keep_tr hK0 hk
  refine lv_aload_n hx hb dX3_takeNights_89 rfl (lv_at hl 0 rfl) ?_
  refine lv_aload_n hx hb dX3_takeNights_90 rfl (lv_at hl 1 rfl) ?_
  refine b_get hM (hW.at_ g1) 2 6 hg1 rfl rfl (by decide) wi_X3 (wgm fk_RX3_30) (x := .int (gI (S6 g1) 6)) rfl dX3_takeNights_91 ?_
  refine s_putI hM hW 2 6 ha rfl rfl (by decide) wi_X3 tyX3 tyX3_ok nmX3 (wgm fk_RX3_30) rfl rfl rfl dX3_takeNights_94 (fun S7 eS7 hk H locs hW => ?_)
  have hf := nm_at eS7 hf
  have ha := keep1 hk ha
  have hg1 := keep1 hk hg1
  have hK0 := keep_tr hK0 hk
  refine lv_aload_n hx hb dX3_takeNights_97 rfl (lv_at hl 0 rfl) ?_
  refine lv_aload_n hx hb dX3_takeNights_98 rfl (lv_at hl 1 rfl) ?_
  refine b_get hM (hW.at_ g1) 2 7 hg1 rfl rfl (by decide) wi_X3 (wgm fk_RX3_34) (x := .int (gI (S7 g1) 7)) rfl dX3_takeNights_99 ?_
  refine s_putI hM hW 2 7 ha rfl rfl (by decide) wi_X3 tyX3 tyX3_ok nmX3 (wgm fk_RX3_34) rfl rfl rfl dX3_takeNights_102 (fun S8 eS8 hk H locs hW => ?_)
  have hf := nm_at eS8 hf
  have ha := keep1 hk ha
  have hg1 := keep1 hk hg1
  have hK0 := keep_tr hK0 hk
  refine lv_aload_n hx hb dX3_takeNights_105 rfl (lv_at hl 0 rfl) ?_
  refine lv_aload_n hx hb dX3_takeNights_106 rfl (lv_at hl 1 rfl) ?_
  refine b_get hM (hW.at_ g1) 2 8 hg1 rfl rfl (by decide) wi_X3 (wgm fk_RX3_37) (x := .int (gI (S8 g1) 8)) rfl dX3_takeNights_107 ?_
  refine s_putI hM hW 2 8 ha rfl rfl (by decide) wi_X3 tyX3 tyX3_ok nmX3 (wgm fk_RX3_37) rfl rfl rfl dX3_takeNights_110 (fun S9 eS9 hk H locs hW => ?_)
  have hf := nm_at eS9 hf
  have ha := keep1 hk ha
  have hg1 := keep1 hk hg1
  have hK0 := keep_tr hK0 hk
  refine lv_aload_n hx hb dX3_takeNights_113 rfl (lv_at hl 0 rfl) ?_
  refine lv_aload_n hx hb dX3_takeNights_114 rfl (lv_at hl 1 rfl) ?_
  refine b_get hM (hW.at_ g1) 2 9 hg1 rfl rfl (by decide) wi_X3 (wgm fk_RX3_40) (x := .int (gI (S9 g1) 9)) rfl dX3_takeNights_115 ?_
  refine s_putI hM hW 2 9 ha rfl rfl (by decide) wi_X3 tyX3 tyX3_ok nmX3 (wgm fk_RX3_40) rfl rfl rfl dX3_takeNights_118 (fun S10 eS10 hk H locs hW => ?_)
  have hf := nm_at eS10 hf
  have ha := keep1 hk ha
  have hg1 := keep1 hk hg1
  have hK0 := keep_tr hK0 hk
  cases hf
  exact W.vret hx hb hr (b_ret0 hW hK0 _) hW.2.2.2 dX3_takeNights_121 hlk
noncomputable def f_X3_takeNights (fu : Nat) (S : ST) (a : Nat) (g1 : Nat) : Option (ST) := f_X3_takeNights_0 fu S a g1
set_option maxHeartbeats 4000000 in
set_option maxRecDepth 100000 in
theorem c_X3_takeNights (l : Launch) (G : GG) (fu : Nat) (S : ST) (a : Nat) (g1 : Nat) {z : ST} (ha : gC (S a) = 3) (hg1 : gC (S g1) = 3) (hf : f_X3_takeNights fu S a g1 = some z) : Ct l yX3_takeNights w_X3_takeNights RM_X3_takeNights G S [.ref a, .ref g1] none z 0 0 := by
  refine Met.ofW (cc := cX3_takeNights) (maxL := 2) (ret := none) (by decide) rfl ?_
  intro p e s m args below meth c s₁ B hml hv
  obtain ⟨rfl, hB, hK, hz⟩ := hv
  have hM : MC G p s m _ c cX3_takeNights w_X3_takeNights RX3 := ⟨B.exec, B.bytes, findClass_of_methodNamed B.named, atoms_spec (ws := w_X3_takeNights) B.pre, hK, hz⟩
  have hW : WB G S s s.heap [] := ⟨hB, va_S.rf⟩
  have hl := lv_entry ([.ref a, .ref g1]) (n := 2) (Nat.le_of_ble_eq_true rfl)
  rw [lg_entry_eq]
  generalize (lg_sl ([.ref a, .ref g1]) ++ List.replicate (2 - (lg_sl ([.ref a, .ref g1])).length) Slot.unset).toArray = ls at hl ⊢
  have hl : lv_has ls 2 [(0, .ref a), (1, .ref g1)] := hl
  exact t_X3_takeNights_0 (fu := fu) hM hml B.returns B.notSynchronized hf ha hg1 (fun _ _ => rfl) _ _ hW _ (lv_sub hl [0, 1] rfl)
abbrev RM_X3_takeAll : Room := { frames := 2, cells := 0, slots := 0, locals := 81 }
abbrev w_X3_takeAll : List Cond := Cond.code yX3_takeAll cX3_takeAll 2 none :: wsL_law0
noncomputable def f_X3_takeAll_0 (fu : Nat)  (S : ST) (a : Nat) (g1 : Nat) : Option (ST) :=
  bd (f_X3_takeNights fu S a g1) fun S2 =>
  nm (st S2 a (sI (S2 a) 10 (gI (S2 g1) 10))) fun S3 =>
  nm (st S3 a (sI (S3 a) 11 (gI (S3 g1) 11))) fun S4 =>
  nm (st S4 a (sI (S4 a) 12 (gI (S4 g1) 12))) fun S5 =>
  some S5
set_option maxHeartbeats 4000000 in
set_option maxRecDepth 100000 in
theorem t_X3_takeAll_0 {G : GG} {p : Program} {l : Launch} {e : Env} {s : State} {m : MethodId} {args : Array Value} {below : List Frame} {meth : Method} {c : Code} {S0 : ST} {fu : Nat} {z : ST} {a : Nat} {g1 : Nat}  {S : ST} (hM : MC G p s m args c cX3_takeAll w_X3_takeAll RX3) (hml : c.maxLocals = 2) (hr : meth.sig.returnType = none) (hlk : meth.locks = false)   (hf : f_X3_takeAll_0 fu  S a g1  = some z) : (gC (S a) = 3) → (gC (S g1) = 3) → (∀ b, gC (S0 b) ≠ 0 → gC (S b) = gC (S0 b)) → ∀ (H : Heap) (locs : List Loc), WB G S s H locs → ∀ (ls : Array Slot), lv_has ls 2 [(0, .ref a), (1, .ref g1)] → W p l e RM_X3_takeAll s m args below meth c H locs 0 0 (QR G below args s none S0 z) (F0 m 0 ls []) := by
  intro ha hg1 hK0 H locs hW ls hl
  have hx := hM.1
  have hb := hM.2.1
  refine lv_aload_n hx hb dX3_takeAll_0 rfl (lv_at hl 0 rfl) ?_
  refine lv_aload_n hx hb dX3_takeAll_1 rfl (lv_at hl 1 rfl) ?_
  obtain ⟨S2, hr1, hf⟩ := bd_elim hf
  refine s_callVv [.ref g1] [] hM hml hl.1 hW ha rfl (by decide) (c_X3_takeNights l G fu _ a _ ha hg1 hr1) (cwV 1 hM.2.2.2.1 (gV mk_RX3_61 im_X3_takeNights se_X3_takeNights it_RX3 cd_X3_takeNights) rfl rfl rfl (by decide +kernel) ⟨Nat.le_of_ble_eq_true rfl, Nat.le_of_ble_eq_true rfl⟩) rfl rfl (Nat.le_of_ble_eq_true rfl) ⟨Nat.zero_le _, Nat.zero_le _⟩ dX3_takeAll_2 (fun H locs hW hk => ?_)
  have ha := keep1 hk ha
  have hg1 := keep1 hk hg1
  have hK0 := keep_tr hK0 hk
  refine lv_aload_n hx hb dX3_takeAll_5 rfl (lv_at hl 0 rfl) ?_
  refine lv_aload_n hx hb dX3_takeAll_6 rfl (lv_at hl 1 rfl) ?_
  refine b_get hM (hW.at_ g1) 2 10 hg1 rfl rfl (by decide) wi_X3 (wgm fk_RX3_43) (x := .int (gI (S2 g1) 10)) rfl dX3_takeAll_7 ?_
  refine s_putI hM hW 2 10 ha rfl rfl (by decide) wi_X3 tyX3 tyX3_ok nmX3 (wgm fk_RX3_43) rfl rfl rfl dX3_takeAll_10 (fun S3 eS3 hk H locs hW => ?_)
  have hf := nm_at eS3 hf
  have ha := keep1 hk ha
  have hg1 := keep1 hk hg1
  have hK0 := keep_tr hK0 hk
  refine lv_aload_n hx hb dX3_takeAll_13 rfl (lv_at hl 0 rfl) ?_
  refine lv_aload_n hx hb dX3_takeAll_14 rfl (lv_at hl 1 rfl) ?_
  refine b_get hM (hW.at_ g1) 2 11 hg1 rfl rfl (by decide) wi_X3 (wgm fk_RX3_46) (x := .int (gI (S3 g1) 11)) rfl dX3_takeAll_15 ?_
  refine s_putI hM hW 2 11 ha rfl rfl (by decide) wi_X3 tyX3 tyX3_ok nmX3 (wgm fk_RX3_46) rfl rfl rfl dX3_takeAll_18 (fun S4 eS4 hk H locs hW => ?_)
  have hf := nm_at eS4 hf
  have ha := keep1 hk ha
  have hg1 := keep1 hk hg1
  have hK0 := keep_tr hK0 hk
  refine lv_aload_n hx hb dX3_takeAll_21 rfl (lv_at hl 0 rfl) ?_
  refine lv_aload_n hx hb dX3_takeAll_22 rfl (lv_at hl 1 rfl) ?_
  refine b_get hM (hW.at_ g1) 2 12 hg1 rfl rfl (by decide) wi_X3 (wgm fk_RX3_49) (x := .int (gI (S4 g1) 12)) rfl dX3_takeAll_23 ?_
  refine s_putI hM hW 2 12 ha rfl rfl (by decide) wi_X3 tyX3 tyX3_ok nmX3 (wgm fk_RX3_49) rfl rfl rfl dX3_takeAll_26 (fun S5 eS5 hk H locs hW => ?_)
  have hf := nm_at eS5 hf
  have ha := keep1 hk ha
  have hg1 := keep1 hk hg1
  have hK0 := keep_tr hK0 hk
  cases hf
  exact W.vret hx hb hr (b_ret0 hW hK0 _) hW.2.2.2 dX3_takeAll_29 hlk
noncomputable def f_X3_takeAll (fu : Nat) (S : ST) (a : Nat) (g1 : Nat) : Option (ST) := f_X3_takeAll_0 fu S a g1
set_option maxHeartbeats 4000000 in
set_option maxRecDepth 100000 in
theorem c_X3_takeAll (l : Launch) (G : GG) (fu : Nat) (S : ST) (a : Nat) (g1 : Nat) {z : ST} (ha : gC (S a) = 3) (hg1 : gC (S g1) = 3) (hf : f_X3_takeAll fu S a g1 = some z) : Ct l yX3_takeAll w_X3_takeAll RM_X3_takeAll G S [.ref a, .ref g1] none z 0 0 := by
  refine Met.ofW (cc := cX3_takeAll) (maxL := 2) (ret := none) (by decide) rfl ?_
  intro p e s m args below meth c s₁ B hml hv
  obtain ⟨rfl, hB, hK, hz⟩ := hv
  have hM : MC G p s m _ c cX3_takeAll w_X3_takeAll RX3 := ⟨B.exec, B.bytes, findClass_of_methodNamed B.named, atoms_spec (ws := w_X3_takeAll) B.pre, hK, hz⟩
  have hW : WB G S s s.heap [] := ⟨hB, va_S.rf⟩
  have hl := lv_entry ([.ref a, .ref g1]) (n := 2) (Nat.le_of_ble_eq_true rfl)
  rw [lg_entry_eq]
  generalize (lg_sl ([.ref a, .ref g1]) ++ List.replicate (2 - (lg_sl ([.ref a, .ref g1])).length) Slot.unset).toArray = ls at hl ⊢
  have hl : lv_has ls 2 [(0, .ref a), (1, .ref g1)] := hl
  exact t_X3_takeAll_0 (fu := fu) hM hml B.returns B.notSynchronized hf ha hg1 (fun _ _ => rfl) _ _ hW _ (lv_sub hl [0, 1] rfl)
abbrev RM_X3_isHeld : Room := { frames := 1, cells := 0, slots := 0, locals := 21 }
abbrev w_X3_isHeld : List Cond := Cond.code yX3_isHeld cX3_isHeld 4 (some .boolean) :: wsL_law0
noncomputable def f_X3_isHeld_30 (fu : Nat)  (S : ST) (a : Nat) (g1 : Nat) : Option (Int32) :=
  some ((0 : Int32))
set_option maxHeartbeats 4000000 in
set_option maxRecDepth 100000 in
theorem t_X3_isHeld_30 {G : GG} {p : Program} {l : Launch} {e : Env} {s : State} {m : MethodId} {args : Array Value} {below : List Frame} {meth : Method} {c : Code} {S : ST} {fu : Nat} {z : Int32} {a : Nat} {g1 : Nat}  (hM : MC G p s m args c cX3_isHeld w_X3_isHeld RX3) (hml : c.maxLocals = 4) (hr : meth.sig.returnType = (some .boolean)) (hlk : meth.locks = false) (ha : gC (S a) = 3) (hg1 : gC (S g1) = 1)  (hf : f_X3_isHeld_30 fu  S a g1  = some z) : ∀ (H : Heap) (locs : List Loc), WB G S s H locs → ∀ (ls : Array Slot), lv_has ls 4 [] → W p l e RM_X3_isHeld s m args below meth c H locs 0 0 (QR G below args s (some (.int z)) S S) (F0 m 30 ls []) := by
  intro  H locs hW ls hl
  have hx := hM.1
  have hb := hM.2.1
  refine lv_iconst (v := (0 : Int32)) hx hb dX3_isHeld_30 (by decide) ?_
  cases hf
  exact W.zret (v := (0 : Int32)) hx hb hr (by decide) (b_ret0 hW (fun _ _ => rfl) _) hW.2.2.2 dX3_isHeld_31 hlk
noncomputable def f_X3_isHeld_0 (fu : Nat)  (S : ST) (a : Nat) (g1 : Nat) (x2 : Int32) (x3 : Int32) : Option (Int32) :=
  bd (f_X1_hasThief fu (S g1) x2) fun r1 =>
  if r1 = 0 then
    (f_X3_isHeld_30 fu S a g1)
  else
    (bd (f_X3_isThere fu (S a) x3) fun r3 =>
    if r3 = 0 then
      (f_X3_isHeld_30 fu S a g1)
    else
      (ck (inb x3 8) <|
      if (gA (S a) 4 x3.toNatClampNeg) = x2 then
        (some ((1 : Int32)))
      else
        (f_X3_isHeld_30 fu S a g1)))
set_option maxHeartbeats 4000000 in
set_option maxRecDepth 100000 in
theorem t_X3_isHeld_0 {G : GG} {p : Program} {l : Launch} {e : Env} {s : State} {m : MethodId} {args : Array Value} {below : List Frame} {meth : Method} {c : Code} {S : ST} {fu : Nat} {z : Int32} {a : Nat} {g1 : Nat}  {x2 : Int32} {x3 : Int32} (hM : MC G p s m args c cX3_isHeld w_X3_isHeld RX3) (hml : c.maxLocals = 4) (hr : meth.sig.returnType = (some .boolean)) (hlk : meth.locks = false) (ha : gC (S a) = 3) (hg1 : gC (S g1) = 1)  (hf : f_X3_isHeld_0 fu  S a g1 x2 x3 = some z) : ∀ (H : Heap) (locs : List Loc), WB G S s H locs → ∀ (ls : Array Slot), lv_has ls 4 [(0, .ref a), (1, .ref g1), (2, .int x2), (3, .int x3)] → W p l e RM_X3_isHeld s m args below meth c H locs 0 0 (QR G below args s (some (.int z)) S S) (F0 m 0 ls []) := by
  intro  H locs hW ls hl
  have hx := hM.1
  have hb := hM.2.1
  refine lv_aload_n hx hb dX3_isHeld_0 rfl (lv_at hl 1 rfl) ?_
  refine lv_iload_n hx hb dX3_isHeld_1 rfl (lv_at hl 2 rfl) ?_
  obtain ⟨r1, hr1, hf⟩ := bd_elim hf
  refine s_callVi [.int x2] [] hM hml hl.1 hW hg1 rfl (by decide) (Ct_rd (c_X1_hasThief l G fu _ g1 (S g1) _ hg1 hr1)) (cwV 1 hM.2.2.2.1 (gV mk_RX3_75 im_X1_hasThief se_X1_hasThief it_RX1 cd_X1_hasThief) rfl rfl rfl (by decide +kernel) ⟨Nat.le_of_ble_eq_true rfl, Nat.le_of_ble_eq_true rfl⟩) rfl rfl (Nat.le_of_ble_eq_true rfl) ⟨Nat.zero_le _, Nat.zero_le _⟩ dX3_isHeld_2 (fun H locs hW hk => ?_)
  refine lv_if_eq (tgt := 30) hx hb dX3_isHeld_5 (by decide) (fun c2 => ?_) (fun c2 => ?_)
  · have hf := if_t c2 hf
    exact t_X3_isHeld_30 (fu := fu) hM hml hr hlk ha hg1 hf _ _ hW _ (lv_sub hl [] rfl)
  · have hf := if_f c2 hf
    refine lv_aload_n hx hb dX3_isHeld_8 rfl (lv_at hl 0 rfl) ?_
    refine lv_iload_n hx hb dX3_isHeld_9 rfl (lv_at hl 3 rfl) ?_
    obtain ⟨r3, hr3, hf⟩ := bd_elim hf
    refine s_callVi [.int x3] [] hM hml hl.1 hW ha rfl (by decide) (Ct_rd (c_X3_isThere l G fu _ a (S a) _ ha hr3)) (cwV 1 hM.2.2.2.1 (gV mk_RX3_71 im_X3_isThere se_X3_isThere it_RX3 cd_X3_isThere) rfl rfl rfl (by decide +kernel) ⟨Nat.le_of_ble_eq_true rfl, Nat.le_of_ble_eq_true rfl⟩) rfl rfl (Nat.le_of_ble_eq_true rfl) ⟨Nat.zero_le _, Nat.zero_le _⟩ dX3_isHeld_10 (fun H locs hW hk => ?_)
    refine lv_if_eq (tgt := 30) hx hb dX3_isHeld_13 (by decide) (fun c4 => ?_) (fun c4 => ?_)
    · have hf := if_t c4 hf
      exact t_X3_isHeld_30 (fu := fu) hM hml hr hlk ha hg1 hf _ _ hW _ (lv_sub hl [] rfl)
    · have hf := if_f c4 hf
      refine lv_aload_n hx hb dX3_isHeld_16 rfl (lv_at hl 0 rfl) ?_
      refine b_get hM (hW.at_ a) 2 4 ha rfl rfl (by decide) wi_X3 (wgm fk_RX3_24) (x := .ref (a + 5)) rfl dX3_isHeld_17 ?_
      refine lv_iload_n hx hb dX3_isHeld_20 rfl (lv_at hl 3 rfl) ?_
      obtain ⟨h5, hf⟩ := ck_elim hf
      refine b_iald (n := 8) hM (hW.at_ a) 2 4 ha (by decide) rfl rfl rfl rfl h5 dX3_isHeld_21 ?_
      refine lv_iload_n hx hb dX3_isHeld_22 rfl (lv_at hl 2 rfl) ?_
      refine lv_icmp_ne (tgt := 30) hx hb dX3_isHeld_23 (by decide) (fun c6 => ?_) (fun c6 => ?_)
      · have hf := if_f c6 hf
        exact t_X3_isHeld_30 (fu := fu) hM hml hr hlk ha hg1 hf _ _ hW _ (lv_sub hl [] rfl)
      · have hf := if_t c6 hf
        refine lv_iconst (v := (1 : Int32)) hx hb dX3_isHeld_26 (by decide) ?_
        refine lv_goto (tgt := 31) hx hb dX3_isHeld_27 (by decide) ?_
        cases hf
        exact W.zret (v := (1 : Int32)) hx hb hr (by decide) (b_ret0 hW (fun _ _ => rfl) _) hW.2.2.2 dX3_isHeld_31 hlk
noncomputable def f_X3_isHeld (fu : Nat) (S : ST) (a : Nat) (g1 : Nat) (x2 : Int32) (x3 : Int32) : Option (Int32) := f_X3_isHeld_0 fu S a g1 x2 x3
set_option maxHeartbeats 4000000 in
set_option maxRecDepth 100000 in
theorem c_X3_isHeld (l : Launch) (G : GG) (fu : Nat) (S : ST) (a : Nat) (g1 : Nat) (x2 : Int32) (x3 : Int32) {z : Int32} (ha : gC (S a) = 3) (hg1 : gC (S g1) = 1) (hf : f_X3_isHeld fu S a g1 x2 x3 = some z) : Ct l yX3_isHeld w_X3_isHeld RM_X3_isHeld G S [.ref a, .ref g1, .int x2, .int x3] (some (.int z)) S 0 0 := by
  refine Met.ofW (cc := cX3_isHeld) (maxL := 4) (ret := (some .boolean)) (by decide) rfl ?_
  intro p e s m args below meth c s₁ B hml hv
  obtain ⟨rfl, hB, hK, hz⟩ := hv
  have hM : MC G p s m _ c cX3_isHeld w_X3_isHeld RX3 := ⟨B.exec, B.bytes, findClass_of_methodNamed B.named, atoms_spec (ws := w_X3_isHeld) B.pre, hK, hz⟩
  have hW : WB G S s s.heap [] := ⟨hB, va_S.rf⟩
  have hl := lv_entry ([.ref a, .ref g1, .int x2, .int x3]) (n := 4) (Nat.le_of_ble_eq_true rfl)
  rw [lg_entry_eq]
  generalize (lg_sl ([.ref a, .ref g1, .int x2, .int x3]) ++ List.replicate (4 - (lg_sl ([.ref a, .ref g1, .int x2, .int x3])).length) Slot.unset).toArray = ls at hl ⊢
  have hl : lv_has ls 4 [(0, .ref a), (1, .ref g1), (2, .int x2), (3, .int x3)] := hl
  exact t_X3_isHeld_0 (fu := fu) hM hml B.returns B.notSynchronized ha hg1 hf _ _ hW _ (lv_sub hl [0, 1, 2, 3] rfl)
abbrev RM_X3_slipsOn : Room := { frames := 1, cells := 0, slots := 0, locals := 20 }
abbrev w_X3_slipsOn : List Cond := Cond.code yX3_slipsOn cX3_slipsOn 2 (some .int) :: wsL_law0
noncomputable def f_X3_slipsOn_0 (fu : Nat)  (v : GV) (x1 : Int32) : Option (Int32) :=
  ck (inb x1 8) <|
  bd (f_J6_bitCount_0f7a4 fu (gA v 0 x1.toNatClampNeg)) fun r2 =>
  some (r2)
set_option maxHeartbeats 4000000 in
set_option maxRecDepth 100000 in
theorem t_X3_slipsOn_0 {G : GG} {p : Program} {l : Launch} {e : Env} {s : State} {m : MethodId} {args : Array Value} {below : List Frame} {meth : Method} {c : Code} {S : ST} {fu : Nat} {z : Int32} {a : Nat} {v : GV}  {x1 : Int32} (hM : MC G p s m args c cX3_slipsOn w_X3_slipsOn RX3) (hml : c.maxLocals = 2) (hr : meth.sig.returnType = (some .int)) (hlk : meth.locks = false) (hc0 : gC v = 3)  (hf : f_X3_slipsOn_0 fu  v  x1 = some z) : ∀ (H : Heap) (locs : List Loc), WB G (st S a v) s H locs → ∀ (ls : Array Slot), lv_has ls 2 [(0, .ref a), (1, .int x1)] → W p l e RM_X3_slipsOn s m args below meth c H locs 0 0 (QR G below args s (some (.int z)) (st S a v) (st S a v)) (F0 m 0 ls []) := by
  intro  H locs hW ls hl
  have hx := hM.1
  have hb := hM.2.1
  have hc := hc0
  refine lv_aload_n hx hb dX3_slipsOn_0 rfl (lv_at hl 0 rfl) ?_
  refine b_get hM hW 2 0 hc rfl rfl (by decide) wi_X3 (wgm fk_RX3_9) (x := .ref (a + 1)) rfl dX3_slipsOn_1 ?_
  refine lv_iload_n hx hb dX3_slipsOn_4 rfl (lv_at hl 1 rfl) ?_
  obtain ⟨h1, hf⟩ := ck_elim hf
  refine b_iald (n := 8) hM hW 2 0 hc (by decide) rfl rfl rfl rfl h1 dX3_slipsOn_5 ?_
  obtain ⟨r2, hr2, hf⟩ := bd_elim hf
  refine s_callSi [.int (gA v 0 x1.toNatClampNeg)] [] hM hml hl.1 hW (c_J6_bitCount_0f7a4 l G fu _ _ hr2) (va_cwS 1 hM.2.2.2.1 (gS mk_RX3_80 sm_J6_bitCount_0f7a4 it_RJ6 cd_J6_bitCount_0f7a4) rfl rfl rfl (by decide +kernel) ⟨Nat.le_of_ble_eq_true rfl, Nat.le_of_ble_eq_true rfl⟩) rfl rfl (Nat.le_of_ble_eq_true rfl) ⟨Nat.zero_le _, Nat.zero_le _⟩ dX3_slipsOn_6 (fun H locs hW hk => ?_)
  cases hf
  exact W.iret hx hb hr (b_ret0 hW (fun _ _ => rfl) _) hW.2.2.2 dX3_slipsOn_9 hlk
noncomputable def f_X3_slipsOn (fu : Nat) (v : GV) (x1 : Int32) : Option (Int32) := f_X3_slipsOn_0 fu v x1
set_option maxHeartbeats 4000000 in
set_option maxRecDepth 100000 in
theorem c_X3_slipsOn (l : Launch) (G : GG) (fu : Nat) (S : ST) (a : Nat) (v : GV) (x1 : Int32) {z : Int32} (hc : gC v = 3) (hf : f_X3_slipsOn fu v x1 = some z) : Ct l yX3_slipsOn w_X3_slipsOn RM_X3_slipsOn G (st S a v) [.ref a, .int x1] (some (.int z)) (st S a v) 0 0 := by
  refine Met.ofW (cc := cX3_slipsOn) (maxL := 2) (ret := (some .int)) (by decide) rfl ?_
  intro p e s m args below meth c s₁ B hml hv
  obtain ⟨rfl, hB, hK, hz⟩ := hv
  have hM : MC G p s m _ c cX3_slipsOn w_X3_slipsOn RX3 := ⟨B.exec, B.bytes, findClass_of_methodNamed B.named, atoms_spec (ws := w_X3_slipsOn) B.pre, hK, hz⟩
  have hW : WB G (st S a v) s s.heap [] := ⟨hB, va_S.rf⟩
  have hl := lv_entry ([.ref a, .int x1]) (n := 2) (Nat.le_of_ble_eq_true rfl)
  rw [lg_entry_eq]
  generalize (lg_sl ([.ref a, .int x1]) ++ List.replicate (2 - (lg_sl ([.ref a, .int x1])).length) Slot.unset).toArray = ls at hl ⊢
  have hl : lv_has ls 2 [(0, .ref a), (1, .int x1)] := hl
  exact t_X3_slipsOn_0 (fu := fu) hM hml B.returns B.notSynchronized hc hf _ _ hW _ (lv_sub hl [0, 1] rfl)
abbrev RM_X3_apart : Room := { frames := 1, cells := 0, slots := 0, locals := 20 }
abbrev w_X3_apart : List Cond := Cond.code yX3_apart cX3_apart 3 (some .int) :: wsL_law0
noncomputable def f_X3_apart_0 (fu : Nat)  (v : GV) (x1 : Int32) (x2 : Int32) : Option (Int32) :=
  ck (inb x1 8) <|
  ck (inb x2 8) <|
  bd (f_J6_bitCount_0f7a4 fu ((gA v 0 x1.toNatClampNeg) ^^^ (gA v 0 x2.toNatClampNeg))) fun r3 =>
  some (r3)
set_option maxHeartbeats 4000000 in
set_option maxRecDepth 100000 in
theorem t_X3_apart_0 {G : GG} {p : Program} {l : Launch} {e : Env} {s : State} {m : MethodId} {args : Array Value} {below : List Frame} {meth : Method} {c : Code} {S : ST} {fu : Nat} {z : Int32} {a : Nat} {v : GV}  {x1 : Int32} {x2 : Int32} (hM : MC G p s m args c cX3_apart w_X3_apart RX3) (hml : c.maxLocals = 3) (hr : meth.sig.returnType = (some .int)) (hlk : meth.locks = false) (hc0 : gC v = 3)  (hf : f_X3_apart_0 fu  v  x1 x2 = some z) : ∀ (H : Heap) (locs : List Loc), WB G (st S a v) s H locs → ∀ (ls : Array Slot), lv_has ls 3 [(0, .ref a), (1, .int x1), (2, .int x2)] → W p l e RM_X3_apart s m args below meth c H locs 0 0 (QR G below args s (some (.int z)) (st S a v) (st S a v)) (F0 m 0 ls []) := by
  intro  H locs hW ls hl
  have hx := hM.1
  have hb := hM.2.1
  have hc := hc0
  refine lv_aload_n hx hb dX3_apart_0 rfl (lv_at hl 0 rfl) ?_
  refine b_get hM hW 2 0 hc rfl rfl (by decide) wi_X3 (wgm fk_RX3_9) (x := .ref (a + 1)) rfl dX3_apart_1 ?_
  refine lv_iload_n hx hb dX3_apart_4 rfl (lv_at hl 1 rfl) ?_
  obtain ⟨h1, hf⟩ := ck_elim hf
  refine b_iald (n := 8) hM hW 2 0 hc (by decide) rfl rfl rfl rfl h1 dX3_apart_5 ?_
  refine lv_aload_n hx hb dX3_apart_6 rfl (lv_at hl 0 rfl) ?_
  refine b_get hM hW 2 0 hc rfl rfl (by decide) wi_X3 (wgm fk_RX3_9) (x := .ref (a + 1)) rfl dX3_apart_7 ?_
  refine lv_iload_n hx hb dX3_apart_10 rfl (lv_at hl 2 rfl) ?_
  obtain ⟨h2, hf⟩ := ck_elim hf
  refine b_iald (n := 8) hM hW 2 0 hc (by decide) rfl rfl rfl rfl h2 dX3_apart_11 ?_
  refine lv_ixor hx hb dX3_apart_12 ?_
  obtain ⟨r3, hr3, hf⟩ := bd_elim hf
  refine s_callSi [.int ((gA v 0 x1.toNatClampNeg) ^^^ (gA v 0 x2.toNatClampNeg))] [] hM hml hl.1 hW (c_J6_bitCount_0f7a4 l G fu _ _ hr3) (va_cwS 1 hM.2.2.2.1 (gS mk_RX3_80 sm_J6_bitCount_0f7a4 it_RJ6 cd_J6_bitCount_0f7a4) rfl rfl rfl (by decide +kernel) ⟨Nat.le_of_ble_eq_true rfl, Nat.le_of_ble_eq_true rfl⟩) rfl rfl (Nat.le_of_ble_eq_true rfl) ⟨Nat.zero_le _, Nat.zero_le _⟩ dX3_apart_13 (fun H locs hW hk => ?_)
  cases hf
  exact W.iret hx hb hr (b_ret0 hW (fun _ _ => rfl) _) hW.2.2.2 dX3_apart_16 hlk
noncomputable def f_X3_apart (fu : Nat) (v : GV) (x1 : Int32) (x2 : Int32) : Option (Int32) := f_X3_apart_0 fu v x1 x2
set_option maxHeartbeats 4000000 in
set_option maxRecDepth 100000 in
theorem c_X3_apart (l : Launch) (G : GG) (fu : Nat) (S : ST) (a : Nat) (v : GV) (x1 : Int32) (x2 : Int32) {z : Int32} (hc : gC v = 3) (hf : f_X3_apart fu v x1 x2 = some z) : Ct l yX3_apart w_X3_apart RM_X3_apart G (st S a v) [.ref a, .int x1, .int x2] (some (.int z)) (st S a v) 0 0 := by
  refine Met.ofW (cc := cX3_apart) (maxL := 3) (ret := (some .int)) (by decide) rfl ?_
  intro p e s m args below meth c s₁ B hml hv
  obtain ⟨rfl, hB, hK, hz⟩ := hv
  have hM : MC G p s m _ c cX3_apart w_X3_apart RX3 := ⟨B.exec, B.bytes, findClass_of_methodNamed B.named, atoms_spec (ws := w_X3_apart) B.pre, hK, hz⟩
  have hW : WB G (st S a v) s s.heap [] := ⟨hB, va_S.rf⟩
  have hl := lv_entry ([.ref a, .int x1, .int x2]) (n := 3) (Nat.le_of_ble_eq_true rfl)
  rw [lg_entry_eq]
  generalize (lg_sl ([.ref a, .int x1, .int x2]) ++ List.replicate (3 - (lg_sl ([.ref a, .int x1, .int x2])).length) Slot.unset).toArray = ls at hl ⊢
  have hl : lv_has ls 3 [(0, .ref a), (1, .int x1), (2, .int x2)] := hl
  exact t_X3_apart_0 (fu := fu) hM hml B.returns B.notSynchronized hc hf _ _ hW _ (lv_sub hl [0, 1, 2] rfl)
abbrev RM_X3_joins : Room := { frames := 0, cells := 0, slots := 0, locals := 0 }
abbrev w_X3_joins : List Cond := Cond.code yX3_joins cX3_joins 5 (some .boolean) :: wsL_law0
noncomputable def f_X3_joins_56 (fu : Nat)  (v : GV) : Option (Int32) :=
  some ((0 : Int32))
set_option maxHeartbeats 4000000 in
set_option maxRecDepth 100000 in
theorem t_X3_joins_56 {G : GG} {p : Program} {l : Launch} {e : Env} {s : State} {m : MethodId} {args : Array Value} {below : List Frame} {meth : Method} {c : Code} {S : ST} {fu : Nat} {z : Int32} {a : Nat} {v : GV}  (hM : MC G p s m args c cX3_joins w_X3_joins RX3) (hml : c.maxLocals = 5) (hr : meth.sig.returnType = (some .boolean)) (hlk : meth.locks = false) (hc0 : gC v = 3)  (hf : f_X3_joins_56 fu  v   = some z) : ∀ (H : Heap) (locs : List Loc), WB G (st S a v) s H locs → ∀ (ls : Array Slot), lv_has ls 5 [] → W p l e RM_X3_joins s m args below meth c H locs 0 0 (QR G below args s (some (.int z)) (st S a v) (st S a v)) (F0 m 56 ls []) := by
  intro  H locs hW ls hl
  have hx := hM.1
  have hb := hM.2.1
  have hc := hc0
  refine lv_iconst (v := (0 : Int32)) hx hb dX3_joins_56 (by decide) ?_
  cases hf
  exact W.zret (v := (0 : Int32)) hx hb hr (by decide) (b_ret0 hW (fun _ _ => rfl) _) hW.2.2.2 dX3_joins_57 hlk
noncomputable def f_X3_joins_15 (fu : Nat)  (v : GV) (x1 : Int32) (x2 : Int32) (x3 : Int32) (t0 : Int32) : Option (Int32) :=
  if t0 = 0 then
    (f_X3_joins_56 fu v)
  else
    (ck (inb x3 8) <|
    ck (inb x1 8) <|
    ck (inb x3 8) <|
    ck (inb x2 8) <|
    if (((gA v 0 x3.toNatClampNeg) ^^^ (gA v 0 x1.toNatClampNeg)) &&& ((gA v 0 x3.toNatClampNeg) ^^^ (gA v 0 x2.toNatClampNeg))) = 0 then
      (some ((1 : Int32)))
    else
      (f_X3_joins_56 fu v))
set_option maxHeartbeats 4000000 in
set_option maxRecDepth 100000 in
theorem t_X3_joins_15 {G : GG} {p : Program} {l : Launch} {e : Env} {s : State} {m : MethodId} {args : Array Value} {below : List Frame} {meth : Method} {c : Code} {S : ST} {fu : Nat} {z : Int32} {a : Nat} {v : GV}  {x1 : Int32} {x2 : Int32} {x3 : Int32} {t0 : Int32} (hM : MC G p s m args c cX3_joins w_X3_joins RX3) (hml : c.maxLocals = 5) (hr : meth.sig.returnType = (some .boolean)) (hlk : meth.locks = false) (hc0 : gC v = 3)  (hf : f_X3_joins_15 fu  v  x1 x2 x3 t0 = some z) : ∀ (H : Heap) (locs : List Loc), WB G (st S a v) s H locs → ∀ (ls : Array Slot), lv_has ls 5 [(0, .ref a), (1, .int x1), (2, .int x2), (3, .int x3)] → W p l e RM_X3_joins s m args below meth c H locs 0 0 (QR G below args s (some (.int z)) (st S a v) (st S a v)) (F0 m 15 ls [.int t0]) := by
  intro  H locs hW ls hl
  have hx := hM.1
  have hb := hM.2.1
  have hc := hc0
  refine lv_istore (lv' := [(4, .int t0), (0, .ref a), (1, .int x1), (2, .int x2), (3, .int x3)]) hx hb dX3_joins_15 hl (by decide) rfl (fun ls hl => ?_)
  refine lv_iload hx hb dX3_joins_17 (lv_at hl 0 rfl) ?_
  refine lv_if_eq (tgt := 56) hx hb dX3_joins_19 (by decide) (fun c1 => ?_) (fun c1 => ?_)
  · have hf := if_t c1 hf
    exact t_X3_joins_56 (fu := fu) hM hml hr hlk hc0 hf _ _ hW _ (lv_sub hl [] rfl)
  · have hf := if_f c1 hf
    refine lv_aload_n hx hb dX3_joins_22 rfl (lv_at hl 1 rfl) ?_
    refine b_get hM hW 2 0 hc rfl rfl (by decide) wi_X3 (wgm fk_RX3_9) (x := .ref (a + 1)) rfl dX3_joins_23 ?_
    refine lv_iload_n hx hb dX3_joins_26 rfl (lv_at hl 4 rfl) ?_
    obtain ⟨h2, hf⟩ := ck_elim hf
    refine b_iald (n := 8) hM hW 2 0 hc (by decide) rfl rfl rfl rfl h2 dX3_joins_27 ?_
    refine lv_aload_n hx hb dX3_joins_28 rfl (lv_at hl 1 rfl) ?_
    refine b_get hM hW 2 0 hc rfl rfl (by decide) wi_X3 (wgm fk_RX3_9) (x := .ref (a + 1)) rfl dX3_joins_29 ?_
    refine lv_iload_n hx hb dX3_joins_32 rfl (lv_at hl 2 rfl) ?_
    obtain ⟨h3, hf⟩ := ck_elim hf
    refine b_iald (n := 8) hM hW 2 0 hc (by decide) rfl rfl rfl rfl h3 dX3_joins_33 ?_
    refine lv_ixor hx hb dX3_joins_34 ?_
    refine lv_aload_n hx hb dX3_joins_35 rfl (lv_at hl 1 rfl) ?_
    refine b_get hM hW 2 0 hc rfl rfl (by decide) wi_X3 (wgm fk_RX3_9) (x := .ref (a + 1)) rfl dX3_joins_36 ?_
    refine lv_iload_n hx hb dX3_joins_39 rfl (lv_at hl 4 rfl) ?_
    obtain ⟨h4, hf⟩ := ck_elim hf
    refine b_iald (n := 8) hM hW 2 0 hc (by decide) rfl rfl rfl rfl h4 dX3_joins_40 ?_
    refine lv_aload_n hx hb dX3_joins_41 rfl (lv_at hl 1 rfl) ?_
    refine b_get hM hW 2 0 hc rfl rfl (by decide) wi_X3 (wgm fk_RX3_9) (x := .ref (a + 1)) rfl dX3_joins_42 ?_
    refine lv_iload_n hx hb dX3_joins_45 rfl (lv_at hl 3 rfl) ?_
    obtain ⟨h5, hf⟩ := ck_elim hf
    refine b_iald (n := 8) hM hW 2 0 hc (by decide) rfl rfl rfl rfl h5 dX3_joins_46 ?_
    refine lv_ixor hx hb dX3_joins_47 ?_
    refine lv_iand hx hb dX3_joins_48 ?_
    refine lv_if_ne (tgt := 56) hx hb dX3_joins_49 (by decide) (fun c6 => ?_) (fun c6 => ?_)
    · have hf := if_f c6 hf
      exact t_X3_joins_56 (fu := fu) hM hml hr hlk hc0 hf _ _ hW _ (lv_sub hl [] rfl)
    · have hf := if_t c6 hf
      refine lv_iconst (v := (1 : Int32)) hx hb dX3_joins_52 (by decide) ?_
      refine lv_goto (tgt := 57) hx hb dX3_joins_53 (by decide) ?_
      cases hf
      exact W.zret (v := (1 : Int32)) hx hb hr (by decide) (b_ret0 hW (fun _ _ => rfl) _) hW.2.2.2 dX3_joins_57 hlk
noncomputable def f_X3_joins_14 (fu : Nat)  (v : GV) (x1 : Int32) (x2 : Int32) (x3 : Int32) : Option (Int32) :=
  f_X3_joins_15 fu v x1 x2 x3 (0 : Int32)
set_option maxHeartbeats 4000000 in
set_option maxRecDepth 100000 in
theorem t_X3_joins_14 {G : GG} {p : Program} {l : Launch} {e : Env} {s : State} {m : MethodId} {args : Array Value} {below : List Frame} {meth : Method} {c : Code} {S : ST} {fu : Nat} {z : Int32} {a : Nat} {v : GV}  {x1 : Int32} {x2 : Int32} {x3 : Int32} (hM : MC G p s m args c cX3_joins w_X3_joins RX3) (hml : c.maxLocals = 5) (hr : meth.sig.returnType = (some .boolean)) (hlk : meth.locks = false) (hc0 : gC v = 3)  (hf : f_X3_joins_14 fu  v  x1 x2 x3 = some z) : ∀ (H : Heap) (locs : List Loc), WB G (st S a v) s H locs → ∀ (ls : Array Slot), lv_has ls 5 [(0, .ref a), (1, .int x1), (2, .int x2), (3, .int x3)] → W p l e RM_X3_joins s m args below meth c H locs 0 0 (QR G below args s (some (.int z)) (st S a v) (st S a v)) (F0 m 14 ls []) := by
  intro  H locs hW ls hl
  have hx := hM.1
  have hb := hM.2.1
  have hc := hc0
  refine lv_iconst (v := (0 : Int32)) hx hb dX3_joins_14 (by decide) ?_
  exact t_X3_joins_15 (fu := fu) hM hml hr hlk hc0 hf _ _ hW _ (lv_sub hl [0, 1, 2, 3] rfl)
noncomputable def f_X3_joins_0 (fu : Nat)  (v : GV) (x1 : Int32) (x2 : Int32) (x3 : Int32) : Option (Int32) :=
  if x1 = x3 then
    (f_X3_joins_14 fu v x1 x2 x3)
  else
    (if x2 = x3 then
      (f_X3_joins_14 fu v x1 x2 x3)
    else
      (f_X3_joins_15 fu v x1 x2 x3 (1 : Int32)))
set_option maxHeartbeats 4000000 in
set_option maxRecDepth 100000 in
theorem t_X3_joins_0 {G : GG} {p : Program} {l : Launch} {e : Env} {s : State} {m : MethodId} {args : Array Value} {below : List Frame} {meth : Method} {c : Code} {S : ST} {fu : Nat} {z : Int32} {a : Nat} {v : GV}  {x1 : Int32} {x2 : Int32} {x3 : Int32} (hM : MC G p s m args c cX3_joins w_X3_joins RX3) (hml : c.maxLocals = 5) (hr : meth.sig.returnType = (some .boolean)) (hlk : meth.locks = false) (hc0 : gC v = 3)  (hf : f_X3_joins_0 fu  v  x1 x2 x3 = some z) : ∀ (H : Heap) (locs : List Loc), WB G (st S a v) s H locs → ∀ (ls : Array Slot), lv_has ls 5 [(0, .ref a), (1, .int x1), (2, .int x2), (3, .int x3)] → W p l e RM_X3_joins s m args below meth c H locs 0 0 (QR G below args s (some (.int z)) (st S a v) (st S a v)) (F0 m 0 ls []) := by
  intro  H locs hW ls hl
  have hx := hM.1
  have hb := hM.2.1
  have hc := hc0
  refine lv_iload_n hx hb dX3_joins_0 rfl (lv_at hl 1 rfl) ?_
  refine lv_iload_n hx hb dX3_joins_1 rfl (lv_at hl 3 rfl) ?_
  refine lv_icmp_eq (tgt := 14) hx hb dX3_joins_2 (by decide) (fun c1 => ?_) (fun c1 => ?_)
  · have hf := if_t c1 hf
    exact t_X3_joins_14 (fu := fu) hM hml hr hlk hc0 hf _ _ hW _ (lv_sub hl [0, 1, 2, 3] rfl)
  · have hf := if_f c1 hf
    refine lv_iload_n hx hb dX3_joins_5 rfl (lv_at hl 2 rfl) ?_
    refine lv_iload_n hx hb dX3_joins_6 rfl (lv_at hl 3 rfl) ?_
    refine lv_icmp_eq (tgt := 14) hx hb dX3_joins_7 (by decide) (fun c2 => ?_) (fun c2 => ?_)
    · have hf := if_t c2 hf
      exact t_X3_joins_14 (fu := fu) hM hml hr hlk hc0 hf _ _ hW _ (lv_sub hl [0, 1, 2, 3] rfl)
    · have hf := if_f c2 hf
      refine lv_iconst (v := (1 : Int32)) hx hb dX3_joins_10 (by decide) ?_
      refine lv_goto (tgt := 15) hx hb dX3_joins_11 (by decide) ?_
      exact t_X3_joins_15 (fu := fu) hM hml hr hlk hc0 hf _ _ hW _ (lv_sub hl [0, 1, 2, 3] rfl)
noncomputable def f_X3_joins (fu : Nat) (v : GV) (x1 : Int32) (x2 : Int32) (x3 : Int32) : Option (Int32) := f_X3_joins_0 fu v x1 x2 x3
set_option maxHeartbeats 4000000 in
set_option maxRecDepth 100000 in
theorem c_X3_joins (l : Launch) (G : GG) (fu : Nat) (S : ST) (a : Nat) (v : GV) (x1 : Int32) (x2 : Int32) (x3 : Int32) {z : Int32} (hc : gC v = 3) (hf : f_X3_joins fu v x1 x2 x3 = some z) : Ct l yX3_joins w_X3_joins RM_X3_joins G (st S a v) [.ref a, .int x1, .int x2, .int x3] (some (.int z)) (st S a v) 0 0 := by
  refine Met.ofW (cc := cX3_joins) (maxL := 5) (ret := (some .boolean)) (by decide) rfl ?_
  intro p e s m args below meth c s₁ B hml hv
  obtain ⟨rfl, hB, hK, hz⟩ := hv
  have hM : MC G p s m _ c cX3_joins w_X3_joins RX3 := ⟨B.exec, B.bytes, findClass_of_methodNamed B.named, atoms_spec (ws := w_X3_joins) B.pre, hK, hz⟩
  have hW : WB G (st S a v) s s.heap [] := ⟨hB, va_S.rf⟩
  have hl := lv_entry ([.ref a, .int x1, .int x2, .int x3]) (n := 5) (Nat.le_of_ble_eq_true rfl)
  rw [lg_entry_eq]
  generalize (lg_sl ([.ref a, .int x1, .int x2, .int x3]) ++ List.replicate (5 - (lg_sl ([.ref a, .int x1, .int x2, .int x3])).length) Slot.unset).toArray = ls at hl ⊢
  have hl : lv_has ls 5 [(0, .ref a), (1, .int x1), (2, .int x2), (3, .int x3)] := hl
  exact t_X3_joins_0 (fu := fu) hM hml B.returns B.notSynchronized hc hf _ _ hW _ (lv_sub hl [0, 1, 2, 3] rfl)
abbrev RM_X3_alike : Room := { frames := 0, cells := 0, slots := 0, locals := 0 }
abbrev w_X3_alike : List Cond := Cond.code yX3_alike cX3_alike 5 (some .int) :: wsL_law0
noncomputable def f_X3_alike_40 (fu : Nat) (k5 : Int32 → Int32 → Option (Int32)) (v : GV) (x1 : Int32) (x2 : Int32) (x3 : Int32) (x4 : Int32) : Option (Int32) :=
  nm (x4 + (1 : Int32)) fun y1 =>
  k5 x3 y1
set_option maxHeartbeats 4000000 in
set_option maxRecDepth 100000 in
theorem t_X3_alike_40 {G : GG} {p : Program} {l : Launch} {e : Env} {s : State} {m : MethodId} {args : Array Value} {below : List Frame} {meth : Method} {c : Code} {S : ST} {fu : Nat} {z : Int32} {a : Nat} {v : GV} {k5 : Int32 → Int32 → Option (Int32)} {x1 : Int32} {x2 : Int32} {x3 : Int32} {x4 : Int32} (hM : MC G p s m args c cX3_alike w_X3_alike RX3) (hml : c.maxLocals = 5) (hr : meth.sig.returnType = (some .int)) (hlk : meth.locks = false) (hc0 : gC v = 3) (hk5 : ∀ (x3 : Int32) (x4 : Int32), k5 x3 x4 = some z → ∀ (H : Heap) (locs : List Loc), WB G (st S a v) s H locs → ∀ (ls : Array Slot), lv_has ls 5 [(0, .ref a), (1, .int x1), (2, .int x2), (3, .int x3), (4, .int x4)] → W p l e RM_X3_alike s m args below meth c H locs 0 0 (QR G below args s (some (.int z)) (st S a v) (st S a v)) (F0 m 5 ls [])) (hf : f_X3_alike_40 fu k5 v  x1 x2 x3 x4 = some z) : ∀ (H : Heap) (locs : List Loc), WB G (st S a v) s H locs → ∀ (ls : Array Slot), lv_has ls 5 [(0, .ref a), (1, .int x1), (2, .int x2), (3, .int x3), (4, .int x4)] → W p l e RM_X3_alike s m args below meth c H locs 0 0 (QR G below args s (some (.int z)) (st S a v) (st S a v)) (F0 m 40 ls []) := by
  intro  H locs hW ls hl
  have hx := hM.1
  have hb := hM.2.1
  have hc := hc0
  obtain ⟨y1, ey1⟩ : ∃ y : Int32, y = x4 + (1 : Int32) := ⟨_, rfl⟩
  have hf := nm_at ey1 hf
  refine lv_iinc (v := y1) (lv' := [(4, .int y1), (0, .ref a), (1, .int x1), (2, .int x2), (3, .int x3)]) hx hb dX3_alike_40 hl (k := 4) rfl (by rw [ey1]; rfl) (by decide) rfl (fun ls hl => ?_)
  refine lv_goto (tgt := 5) hx hb dX3_alike_43 (by decide) ?_
  exact hk5 _ _ hf _ _ hW _ (lv_sub hl [1, 2, 3, 4, 0] rfl)
noncomputable def f_X3_alike_5s (fu : Nat)  (k5 : Int32 → Int32 → Option (Int32)) (v : GV) (x1 : Int32) (x2 : Int32) (x3 : Int32) (x4 : Int32) : Option (Int32) :=
  if (gI v 7) ≤ x4 then
    (some (x3))
  else
    (ck (inb x1 8) <|
    ck (inb x4 8) <|
    if (((gA v 0 x1.toNatClampNeg) ^^^ (gA v 0 x4.toNatClampNeg)) &&& x2) = 0 then
      (nm ((x3 ||| ((1 : Int32) <<< (x4 &&& 31)))) fun y5 =>
      f_X3_alike_40 fu k5 v x1 x2 y5 x4)
    else
      (f_X3_alike_40 fu k5 v x1 x2 x3 x4))
noncomputable def f_X3_alike_5 (fu n : Nat)  (v : GV) (x1 : Int32) (x2 : Int32) : Int32 → Int32 → Option (Int32) :=
  lq_2 (fun k5 => f_X3_alike_5s fu  k5 v  x1 x2) n
set_option maxHeartbeats 4000000 in
set_option maxRecDepth 100000 in
theorem t_X3_alike_5s {G : GG} {p : Program} {l : Launch} {e : Env} {s : State} {m : MethodId} {args : Array Value} {below : List Frame} {meth : Method} {c : Code} {S : ST} {fu : Nat} {z : Int32} {a : Nat} {v : GV}  {k5 : Int32 → Int32 → Option (Int32)} {x1 : Int32} {x2 : Int32} (hM : MC G p s m args c cX3_alike w_X3_alike RX3) (hml : c.maxLocals = 5) (hr : meth.sig.returnType = (some .int)) (hlk : meth.locks = false) (hc0 : gC v = 3)  (hk5 : ∀ (x3 : Int32) (x4 : Int32), k5 x3 x4 = some z → ∀ (H : Heap) (locs : List Loc), WB G (st S a v) s H locs → ∀ (ls : Array Slot), lv_has ls 5 [(0, .ref a), (1, .int x1), (2, .int x2), (3, .int x3), (4, .int x4)] → W p l e RM_X3_alike s m args below meth c H locs 0 0 (QR G below args s (some (.int z)) (st S a v) (st S a v)) (F0 m 5 ls [])) : ∀ (x3 : Int32) (x4 : Int32), f_X3_alike_5s fu  k5 v  x1 x2 x3 x4 = some z → ∀ (H : Heap) (locs : List Loc), WB G (st S a v) s H locs → ∀ (ls : Array Slot), lv_has ls 5 [(0, .ref a), (1, .int x1), (2, .int x2), (3, .int x3), (4, .int x4)] → W p l e RM_X3_alike s m args below meth c H locs 0 0 (QR G below args s (some (.int z)) (st S a v) (st S a v)) (F0 m 5 ls []) := by
  intro x3 x4 hf  H locs hW ls hl
  have hx := hM.1
  have hb := hM.2.1
  have hc := hc0
  refine lv_iload hx hb dX3_alike_5 (lv_at hl 4 rfl) ?_
  refine lv_aload_n hx hb dX3_alike_7 rfl (lv_at hl 0 rfl) ?_
  refine b_get hM hW 2 7 hc rfl rfl (by decide) wi_X3 (wgm fk_RX3_34) (x := .int (gI v 7)) rfl dX3_alike_8 ?_
  refine lv_icmp_ge (tgt := 46) hx hb dX3_alike_11 (by decide) (fun c1 => ?_) (fun c1 => ?_)
  · have hf := if_t c1 hf
    refine lv_iload_n hx hb dX3_alike_46 rfl (lv_at hl 3 rfl) ?_
    cases hf
    exact W.iret hx hb hr (b_ret0 hW (fun _ _ => rfl) _) hW.2.2.2 dX3_alike_47 hlk
  · have hf := if_f c1 hf
    refine lv_aload_n hx hb dX3_alike_14 rfl (lv_at hl 0 rfl) ?_
    refine b_get hM hW 2 0 hc rfl rfl (by decide) wi_X3 (wgm fk_RX3_9) (x := .ref (a + 1)) rfl dX3_alike_15 ?_
    refine lv_iload_n hx hb dX3_alike_18 rfl (lv_at hl 1 rfl) ?_
    obtain ⟨h2, hf⟩ := ck_elim hf
    refine b_iald (n := 8) hM hW 2 0 hc (by decide) rfl rfl rfl rfl h2 dX3_alike_19 ?_
    refine lv_aload_n hx hb dX3_alike_20 rfl (lv_at hl 0 rfl) ?_
    refine b_get hM hW 2 0 hc rfl rfl (by decide) wi_X3 (wgm fk_RX3_9) (x := .ref (a + 1)) rfl dX3_alike_21 ?_
    refine lv_iload hx hb dX3_alike_24 (lv_at hl 4 rfl) ?_
    obtain ⟨h3, hf⟩ := ck_elim hf
    refine b_iald (n := 8) hM hW 2 0 hc (by decide) rfl rfl rfl rfl h3 dX3_alike_26 ?_
    refine lv_ixor hx hb dX3_alike_27 ?_
    refine lv_iload_n hx hb dX3_alike_28 rfl (lv_at hl 2 rfl) ?_
    refine lv_iand hx hb dX3_alike_29 ?_
    refine lv_if_ne (tgt := 40) hx hb dX3_alike_30 (by decide) (fun c4 => ?_) (fun c4 => ?_)
    · have hf := if_f c4 hf
      exact t_X3_alike_40 (fu := fu) hM hml hr hlk hc0 hk5 hf _ _ hW _ (lv_sub hl [0, 1, 2, 3, 4] rfl)
    · have hf := if_t c4 hf
      refine lv_iload_n hx hb dX3_alike_33 rfl (lv_at hl 3 rfl) ?_
      refine lv_iconst (v := (1 : Int32)) hx hb dX3_alike_34 (by decide) ?_
      refine lv_iload hx hb dX3_alike_35 (lv_at hl 4 rfl) ?_
      refine lv_ishl hx hb dX3_alike_37 ?_
      refine lv_ior hx hb dX3_alike_38 ?_
      refine lv_topi (fun y5 ey5 => ?_)
      have hf := nm_at ey5 hf
      refine lv_istore_n (lv' := [(3, .int y5), (0, .ref a), (1, .int x1), (2, .int x2), (4, .int x4)]) hx hb dX3_alike_39 rfl hl (by decide) rfl (fun ls hl => ?_)
      exact t_X3_alike_40 (fu := fu) hM hml hr hlk hc0 hk5 hf _ _ hW _ (lv_sub hl [1, 2, 3, 0, 4] rfl)
theorem t_X3_alike_5 {G : GG} {p : Program} {l : Launch} {e : Env} {s : State} {m : MethodId} {args : Array Value} {below : List Frame} {meth : Method} {c : Code} {S : ST} {fu : Nat} {z : Int32} {a : Nat} {v : GV}  {x1 : Int32} {x2 : Int32} (hM : MC G p s m args c cX3_alike w_X3_alike RX3) (hml : c.maxLocals = 5) (hr : meth.sig.returnType = (some .int)) (hlk : meth.locks = false) (hc0 : gC v = 3)  : ∀ {n : Nat} (x3 : Int32) (x4 : Int32), f_X3_alike_5 fu n  v  x1 x2 x3 x4 = some z → ∀ (H : Heap) (locs : List Loc), WB G (st S a v) s H locs → ∀ (ls : Array Slot), lv_has ls 5 [(0, .ref a), (1, .int x1), (2, .int x2), (3, .int x3), (4, .int x4)] → W p l e RM_X3_alike s m args below meth c H locs 0 0 (QR G below args s (some (.int z)) (st S a v) (st S a v)) (F0 m 5 ls []) := by
  intro n
  induction n with
  | zero => intro x3 x4 hf; cases hf
  | succ n ih => intro x3 x4 hf; exact t_X3_alike_5s (fu := fu) hM hml hr hlk hc0 (k5 := f_X3_alike_5 fu n  v  x1 x2) ih _ _ hf
noncomputable def f_X3_alike_0 (fu : Nat)  (v : GV) (x1 : Int32) (x2 : Int32) : Option (Int32) :=
  f_X3_alike_5 fu fu v x1 x2 (0 : Int32) (0 : Int32)
set_option maxHeartbeats 4000000 in
set_option maxRecDepth 100000 in
theorem t_X3_alike_0 {G : GG} {p : Program} {l : Launch} {e : Env} {s : State} {m : MethodId} {args : Array Value} {below : List Frame} {meth : Method} {c : Code} {S : ST} {fu : Nat} {z : Int32} {a : Nat} {v : GV}  {x1 : Int32} {x2 : Int32} (hM : MC G p s m args c cX3_alike w_X3_alike RX3) (hml : c.maxLocals = 5) (hr : meth.sig.returnType = (some .int)) (hlk : meth.locks = false) (hc0 : gC v = 3)  (hf : f_X3_alike_0 fu  v  x1 x2 = some z) : ∀ (H : Heap) (locs : List Loc), WB G (st S a v) s H locs → ∀ (ls : Array Slot), lv_has ls 5 [(0, .ref a), (1, .int x1), (2, .int x2)] → W p l e RM_X3_alike s m args below meth c H locs 0 0 (QR G below args s (some (.int z)) (st S a v) (st S a v)) (F0 m 0 ls []) := by
  intro  H locs hW ls hl
  have hx := hM.1
  have hb := hM.2.1
  have hc := hc0
  refine lv_iconst (v := (0 : Int32)) hx hb dX3_alike_0 (by decide) ?_
  refine lv_istore_n (lv' := [(3, .int (0 : Int32)), (0, .ref a), (1, .int x1), (2, .int x2)]) hx hb dX3_alike_1 rfl hl (by decide) rfl (fun ls hl => ?_)
  refine lv_iconst (v := (0 : Int32)) hx hb dX3_alike_2 (by decide) ?_
  refine lv_istore (lv' := [(4, .int (0 : Int32)), (3, .int (0 : Int32)), (0, .ref a), (1, .int x1), (2, .int x2)]) hx hb dX3_alike_3 hl (by decide) rfl (fun ls hl => ?_)
  exact t_X3_alike_5 (fu := fu) hM hml hr hlk hc0 _ _ hf _ _ hW _ (lv_sub hl [2, 3, 4, 1, 0] rfl)
noncomputable def f_X3_alike (fu : Nat) (v : GV) (x1 : Int32) (x2 : Int32) : Option (Int32) := f_X3_alike_0 fu v x1 x2
set_option maxHeartbeats 4000000 in
set_option maxRecDepth 100000 in
theorem c_X3_alike (l : Launch) (G : GG) (fu : Nat) (S : ST) (a : Nat) (v : GV) (x1 : Int32) (x2 : Int32) {z : Int32} (hc : gC v = 3) (hf : f_X3_alike fu v x1 x2 = some z) : Ct l yX3_alike w_X3_alike RM_X3_alike G (st S a v) [.ref a, .int x1, .int x2] (some (.int z)) (st S a v) 0 0 := by
  refine Met.ofW (cc := cX3_alike) (maxL := 5) (ret := (some .int)) (by decide) rfl ?_
  intro p e s m args below meth c s₁ B hml hv
  obtain ⟨rfl, hB, hK, hz⟩ := hv
  have hM : MC G p s m _ c cX3_alike w_X3_alike RX3 := ⟨B.exec, B.bytes, findClass_of_methodNamed B.named, atoms_spec (ws := w_X3_alike) B.pre, hK, hz⟩
  have hW : WB G (st S a v) s s.heap [] := ⟨hB, va_S.rf⟩
  have hl := lv_entry ([.ref a, .int x1, .int x2]) (n := 5) (Nat.le_of_ble_eq_true rfl)
  rw [lg_entry_eq]
  generalize (lg_sl ([.ref a, .int x1, .int x2]) ++ List.replicate (5 - (lg_sl ([.ref a, .int x1, .int x2])).length) Slot.unset).toArray = ls at hl ⊢
  have hl : lv_has ls 5 [(0, .ref a), (1, .int x1), (2, .int x2)] := hl
  exact t_X3_alike_0 (fu := fu) hM hml B.returns B.notSynchronized hc hf _ _ hW _ (lv_sub hl [0, 1, 2] rfl)
abbrev RM_X3_isFitting : Room := { frames := 0, cells := 0, slots := 0, locals := 0 }
abbrev w_X3_isFitting : List Cond := Cond.code yX3_isFitting cX3_isFitting 3 (some .boolean) :: wsL_law0
noncomputable def f_X3_isFitting_57 (fu : Nat)  (v : GV) : Option (Int32) :=
  some ((0 : Int32))
set_option maxHeartbeats 4000000 in
set_option maxRecDepth 100000 in
theorem t_X3_isFitting_57 {G : GG} {p : Program} {l : Launch} {e : Env} {s : State} {m : MethodId} {args : Array Value} {below : List Frame} {meth : Method} {c : Code} {S : ST} {fu : Nat} {z : Int32} {a : Nat} {v : GV}  (hM : MC G p s m args c cX3_isFitting w_X3_isFitting RX3) (hml : c.maxLocals = 3) (hr : meth.sig.returnType = (some .boolean)) (hlk : meth.locks = false) (hc0 : gC v = 3)  (hf : f_X3_isFitting_57 fu  v   = some z) : ∀ (H : Heap) (locs : List Loc), WB G (st S a v) s H locs → ∀ (ls : Array Slot), lv_has ls 3 [] → W p l e RM_X3_isFitting s m args below meth c H locs 0 0 (QR G below args s (some (.int z)) (st S a v) (st S a v)) (F0 m 57 ls []) := by
  intro  H locs hW ls hl
  have hx := hM.1
  have hb := hM.2.1
  have hc := hc0
  refine lv_iconst (v := (0 : Int32)) hx hb dX3_isFitting_57 (by decide) ?_
  cases hf
  exact W.zret (v := (0 : Int32)) hx hb hr (by decide) (b_ret0 hW (fun _ _ => rfl) _) hW.2.2.2 dX3_isFitting_58 hlk
noncomputable def f_X3_isFitting_37 (fu : Nat)  (v : GV) (x1 : Int32) (t0 : Int32) : Option (Int32) :=
  if t0 = 0 then
    (f_X3_isFitting_57 fu v)
  else
    (ck (inb x1 8) <|
    if (gA v 4 x1.toNatClampNeg) = (6 : Int32) then
      (f_X3_isFitting_57 fu v)
    else
      (some ((1 : Int32))))
set_option maxHeartbeats 4000000 in
set_option maxRecDepth 100000 in
theorem t_X3_isFitting_37 {G : GG} {p : Program} {l : Launch} {e : Env} {s : State} {m : MethodId} {args : Array Value} {below : List Frame} {meth : Method} {c : Code} {S : ST} {fu : Nat} {z : Int32} {a : Nat} {v : GV}  {x1 : Int32} {t0 : Int32} (hM : MC G p s m args c cX3_isFitting w_X3_isFitting RX3) (hml : c.maxLocals = 3) (hr : meth.sig.returnType = (some .boolean)) (hlk : meth.locks = false) (hc0 : gC v = 3)  (hf : f_X3_isFitting_37 fu  v  x1 t0 = some z) : ∀ (H : Heap) (locs : List Loc), WB G (st S a v) s H locs → ∀ (ls : Array Slot), lv_has ls 3 [(0, .ref a), (1, .int x1)] → W p l e RM_X3_isFitting s m args below meth c H locs 0 0 (QR G below args s (some (.int z)) (st S a v) (st S a v)) (F0 m 37 ls [.int t0]) := by
  intro  H locs hW ls hl
  have hx := hM.1
  have hb := hM.2.1
  have hc := hc0
  refine lv_istore_n (lv' := [(2, .int t0), (0, .ref a), (1, .int x1)]) hx hb dX3_isFitting_37 rfl hl (by decide) rfl (fun ls hl => ?_)
  refine lv_iload_n hx hb dX3_isFitting_38 rfl (lv_at hl 0 rfl) ?_
  refine lv_if_eq (tgt := 57) hx hb dX3_isFitting_39 (by decide) (fun c1 => ?_) (fun c1 => ?_)
  · have hf := if_t c1 hf
    exact t_X3_isFitting_57 (fu := fu) hM hml hr hlk hc0 hf _ _ hW _ (lv_sub hl [] rfl)
  · have hf := if_f c1 hf
    refine lv_aload_n hx hb dX3_isFitting_42 rfl (lv_at hl 1 rfl) ?_
    refine b_get hM hW 2 4 hc rfl rfl (by decide) wi_X3 (wgm fk_RX3_24) (x := .ref (a + 5)) rfl dX3_isFitting_43 ?_
    refine lv_iload_n hx hb dX3_isFitting_46 rfl (lv_at hl 2 rfl) ?_
    obtain ⟨h2, hf⟩ := ck_elim hf
    refine b_iald (n := 8) hM hW 2 4 hc (by decide) rfl rfl rfl rfl h2 dX3_isFitting_47 ?_
    refine lv_bipush (v := (6 : Int32)) hx hb dX3_isFitting_48 (by decide) ?_
    refine lv_icmp_eq (tgt := 57) hx hb dX3_isFitting_50 (by decide) (fun c3 => ?_) (fun c3 => ?_)
    · have hf := if_t c3 hf
      exact t_X3_isFitting_57 (fu := fu) hM hml hr hlk hc0 hf _ _ hW _ (lv_sub hl [] rfl)
    · have hf := if_f c3 hf
      refine lv_iconst (v := (1 : Int32)) hx hb dX3_isFitting_53 (by decide) ?_
      refine lv_goto (tgt := 58) hx hb dX3_isFitting_54 (by decide) ?_
      cases hf
      exact W.zret (v := (1 : Int32)) hx hb hr (by decide) (b_ret0 hW (fun _ _ => rfl) _) hW.2.2.2 dX3_isFitting_58 hlk
noncomputable def f_X3_isFitting_36 (fu : Nat)  (v : GV) (x1 : Int32) : Option (Int32) :=
  f_X3_isFitting_37 fu v x1 (0 : Int32)
set_option maxHeartbeats 4000000 in
set_option maxRecDepth 100000 in
theorem t_X3_isFitting_36 {G : GG} {p : Program} {l : Launch} {e : Env} {s : State} {m : MethodId} {args : Array Value} {below : List Frame} {meth : Method} {c : Code} {S : ST} {fu : Nat} {z : Int32} {a : Nat} {v : GV}  {x1 : Int32} (hM : MC G p s m args c cX3_isFitting w_X3_isFitting RX3) (hml : c.maxLocals = 3) (hr : meth.sig.returnType = (some .boolean)) (hlk : meth.locks = false) (hc0 : gC v = 3)  (hf : f_X3_isFitting_36 fu  v  x1 = some z) : ∀ (H : Heap) (locs : List Loc), WB G (st S a v) s H locs → ∀ (ls : Array Slot), lv_has ls 3 [(0, .ref a), (1, .int x1)] → W p l e RM_X3_isFitting s m args below meth c H locs 0 0 (QR G below args s (some (.int z)) (st S a v) (st S a v)) (F0 m 36 ls []) := by
  intro  H locs hW ls hl
  have hx := hM.1
  have hb := hM.2.1
  have hc := hc0
  refine lv_iconst (v := (0 : Int32)) hx hb dX3_isFitting_36 (by decide) ?_
  exact t_X3_isFitting_37 (fu := fu) hM hml hr hlk hc0 hf _ _ hW _ (lv_sub hl [0, 1] rfl)
noncomputable def f_X3_isFitting_0 (fu : Nat)  (v : GV) (x1 : Int32) : Option (Int32) :=
  ck (inb x1 8) <|
  if ((gA v 0 x1.toNatClampNeg) &&& (gI v 11)) = (gI v 11) then
    (ck (inb x1 8) <|
    if ((gA v 0 x1.toNatClampNeg) &&& (gI v 12)) = 0 then
      (f_X3_isFitting_37 fu v x1 (1 : Int32))
    else
      (f_X3_isFitting_36 fu v x1))
  else
    (f_X3_isFitting_36 fu v x1)
set_option maxHeartbeats 4000000 in
set_option maxRecDepth 100000 in
theorem t_X3_isFitting_0 {G : GG} {p : Program} {l : Launch} {e : Env} {s : State} {m : MethodId} {args : Array Value} {below : List Frame} {meth : Method} {c : Code} {S : ST} {fu : Nat} {z : Int32} {a : Nat} {v : GV}  {x1 : Int32} (hM : MC G p s m args c cX3_isFitting w_X3_isFitting RX3) (hml : c.maxLocals = 3) (hr : meth.sig.returnType = (some .boolean)) (hlk : meth.locks = false) (hc0 : gC v = 3)  (hf : f_X3_isFitting_0 fu  v  x1 = some z) : ∀ (H : Heap) (locs : List Loc), WB G (st S a v) s H locs → ∀ (ls : Array Slot), lv_has ls 3 [(0, .ref a), (1, .int x1)] → W p l e RM_X3_isFitting s m args below meth c H locs 0 0 (QR G below args s (some (.int z)) (st S a v) (st S a v)) (F0 m 0 ls []) := by
  intro  H locs hW ls hl
  have hx := hM.1
  have hb := hM.2.1
  have hc := hc0
  refine lv_aload_n hx hb dX3_isFitting_0 rfl (lv_at hl 0 rfl) ?_
  refine b_get hM hW 2 0 hc rfl rfl (by decide) wi_X3 (wgm fk_RX3_9) (x := .ref (a + 1)) rfl dX3_isFitting_1 ?_
  refine lv_iload_n hx hb dX3_isFitting_4 rfl (lv_at hl 1 rfl) ?_
  obtain ⟨h1, hf⟩ := ck_elim hf
  refine b_iald (n := 8) hM hW 2 0 hc (by decide) rfl rfl rfl rfl h1 dX3_isFitting_5 ?_
  refine lv_aload_n hx hb dX3_isFitting_6 rfl (lv_at hl 0 rfl) ?_
  refine b_get hM hW 2 11 hc rfl rfl (by decide) wi_X3 (wgm fk_RX3_46) (x := .int (gI v 11)) rfl dX3_isFitting_7 ?_
  refine lv_iand hx hb dX3_isFitting_10 ?_
  refine lv_aload_n hx hb dX3_isFitting_11 rfl (lv_at hl 0 rfl) ?_
  refine b_get hM hW 2 11 hc rfl rfl (by decide) wi_X3 (wgm fk_RX3_46) (x := .int (gI v 11)) rfl dX3_isFitting_12 ?_
  refine lv_icmp_ne (tgt := 36) hx hb dX3_isFitting_15 (by decide) (fun c2 => ?_) (fun c2 => ?_)
  · have hf := if_f c2 hf
    exact t_X3_isFitting_36 (fu := fu) hM hml hr hlk hc0 hf _ _ hW _ (lv_sub hl [0, 1] rfl)
  · have hf := if_t c2 hf
    refine lv_aload_n hx hb dX3_isFitting_18 rfl (lv_at hl 0 rfl) ?_
    refine b_get hM hW 2 0 hc rfl rfl (by decide) wi_X3 (wgm fk_RX3_9) (x := .ref (a + 1)) rfl dX3_isFitting_19 ?_
    refine lv_iload_n hx hb dX3_isFitting_22 rfl (lv_at hl 1 rfl) ?_
    obtain ⟨h3, hf⟩ := ck_elim hf
    refine b_iald (n := 8) hM hW 2 0 hc (by decide) rfl rfl rfl rfl h3 dX3_isFitting_23 ?_
    refine lv_aload_n hx hb dX3_isFitting_24 rfl (lv_at hl 0 rfl) ?_
    refine b_get hM hW 2 12 hc rfl rfl (by decide) wi_X3 (wgm fk_RX3_49) (x := .int (gI v 12)) rfl dX3_isFitting_25 ?_
    refine lv_iand hx hb dX3_isFitting_28 ?_
    refine lv_if_ne (tgt := 36) hx hb dX3_isFitting_29 (by decide) (fun c4 => ?_) (fun c4 => ?_)
    · have hf := if_f c4 hf
      exact t_X3_isFitting_36 (fu := fu) hM hml hr hlk hc0 hf _ _ hW _ (lv_sub hl [0, 1] rfl)
    · have hf := if_t c4 hf
      refine lv_iconst (v := (1 : Int32)) hx hb dX3_isFitting_32 (by decide) ?_
      refine lv_goto (tgt := 37) hx hb dX3_isFitting_33 (by decide) ?_
      exact t_X3_isFitting_37 (fu := fu) hM hml hr hlk hc0 hf _ _ hW _ (lv_sub hl [0, 1] rfl)
noncomputable def f_X3_isFitting (fu : Nat) (v : GV) (x1 : Int32) : Option (Int32) := f_X3_isFitting_0 fu v x1
set_option maxHeartbeats 4000000 in
set_option maxRecDepth 100000 in
theorem c_X3_isFitting (l : Launch) (G : GG) (fu : Nat) (S : ST) (a : Nat) (v : GV) (x1 : Int32) {z : Int32} (hc : gC v = 3) (hf : f_X3_isFitting fu v x1 = some z) : Ct l yX3_isFitting w_X3_isFitting RM_X3_isFitting G (st S a v) [.ref a, .int x1] (some (.int z)) (st S a v) 0 0 := by
  refine Met.ofW (cc := cX3_isFitting) (maxL := 3) (ret := (some .boolean)) (by decide) rfl ?_
  intro p e s m args below meth c s₁ B hml hv
  obtain ⟨rfl, hB, hK, hz⟩ := hv
  have hM : MC G p s m _ c cX3_isFitting w_X3_isFitting RX3 := ⟨B.exec, B.bytes, findClass_of_methodNamed B.named, atoms_spec (ws := w_X3_isFitting) B.pre, hK, hz⟩
  have hW : WB G (st S a v) s s.heap [] := ⟨hB, va_S.rf⟩
  have hl := lv_entry ([.ref a, .int x1]) (n := 3) (Nat.le_of_ble_eq_true rfl)
  rw [lg_entry_eq]
  generalize (lg_sl ([.ref a, .int x1]) ++ List.replicate (3 - (lg_sl ([.ref a, .int x1])).length) Slot.unset).toArray = ls at hl ⊢
  have hl : lv_has ls 3 [(0, .ref a), (1, .int x1)] := hl
  exact t_X3_isFitting_0 (fu := fu) hM hml B.returns B.notSynchronized hc hf _ _ hW _ (lv_sub hl [0, 1] rfl)
abbrev RM_X3_heldBy : Room := { frames := 0, cells := 0, slots := 0, locals := 0 }
abbrev w_X3_heldBy : List Cond := Cond.code yX3_heldBy cX3_heldBy 4 (some .int) :: wsL_law0
noncomputable def f_X3_heldBy_28 (fu : Nat) (k4 : Int32 → Int32 → Option (Int32)) (v : GV) (x1 : Int32) (x2 : Int32) (x3 : Int32) : Option (Int32) :=
  nm (x3 + (1 : Int32)) fun y1 =>
  k4 x2 y1
set_option maxHeartbeats 4000000 in
set_option maxRecDepth 100000 in
theorem t_X3_heldBy_28 {G : GG} {p : Program} {l : Launch} {e : Env} {s : State} {m : MethodId} {args : Array Value} {below : List Frame} {meth : Method} {c : Code} {S : ST} {fu : Nat} {z : Int32} {a : Nat} {v : GV} {k4 : Int32 → Int32 → Option (Int32)} {x1 : Int32} {x2 : Int32} {x3 : Int32} (hM : MC G p s m args c cX3_heldBy w_X3_heldBy RX3) (hml : c.maxLocals = 4) (hr : meth.sig.returnType = (some .int)) (hlk : meth.locks = false) (hc0 : gC v = 3) (hk4 : ∀ (x2 : Int32) (x3 : Int32), k4 x2 x3 = some z → ∀ (H : Heap) (locs : List Loc), WB G (st S a v) s H locs → ∀ (ls : Array Slot), lv_has ls 4 [(0, .ref a), (1, .int x1), (2, .int x2), (3, .int x3)] → W p l e RM_X3_heldBy s m args below meth c H locs 0 0 (QR G below args s (some (.int z)) (st S a v) (st S a v)) (F0 m 4 ls [])) (hf : f_X3_heldBy_28 fu k4 v  x1 x2 x3 = some z) : ∀ (H : Heap) (locs : List Loc), WB G (st S a v) s H locs → ∀ (ls : Array Slot), lv_has ls 4 [(0, .ref a), (1, .int x1), (2, .int x2), (3, .int x3)] → W p l e RM_X3_heldBy s m args below meth c H locs 0 0 (QR G below args s (some (.int z)) (st S a v) (st S a v)) (F0 m 28 ls []) := by
  intro  H locs hW ls hl
  have hx := hM.1
  have hb := hM.2.1
  have hc := hc0
  obtain ⟨y1, ey1⟩ : ∃ y : Int32, y = x3 + (1 : Int32) := ⟨_, rfl⟩
  have hf := nm_at ey1 hf
  refine lv_iinc (v := y1) (lv' := [(3, .int y1), (0, .ref a), (1, .int x1), (2, .int x2)]) hx hb dX3_heldBy_28 hl (k := 3) rfl (by rw [ey1]; rfl) (by decide) rfl (fun ls hl => ?_)
  refine lv_goto (tgt := 4) hx hb dX3_heldBy_31 (by decide) ?_
  exact hk4 _ _ hf _ _ hW _ (lv_sub hl [1, 2, 3, 0] rfl)
noncomputable def f_X3_heldBy_4s (fu : Nat)  (k4 : Int32 → Int32 → Option (Int32)) (v : GV) (x1 : Int32) (x2 : Int32) (x3 : Int32) : Option (Int32) :=
  if (gI v 7) ≤ x3 then
    (some (x2))
  else
    (ck (inb x3 8) <|
    if (gA v 4 x3.toNatClampNeg) = x1 then
      (nm ((x2 ||| ((1 : Int32) <<< (x3 &&& 31)))) fun y4 =>
      f_X3_heldBy_28 fu k4 v x1 y4 x3)
    else
      (f_X3_heldBy_28 fu k4 v x1 x2 x3))
noncomputable def f_X3_heldBy_4 (fu n : Nat)  (v : GV) (x1 : Int32) : Int32 → Int32 → Option (Int32) :=
  lq_2 (fun k4 => f_X3_heldBy_4s fu  k4 v  x1) n
set_option maxHeartbeats 4000000 in
set_option maxRecDepth 100000 in
theorem t_X3_heldBy_4s {G : GG} {p : Program} {l : Launch} {e : Env} {s : State} {m : MethodId} {args : Array Value} {below : List Frame} {meth : Method} {c : Code} {S : ST} {fu : Nat} {z : Int32} {a : Nat} {v : GV}  {k4 : Int32 → Int32 → Option (Int32)} {x1 : Int32} (hM : MC G p s m args c cX3_heldBy w_X3_heldBy RX3) (hml : c.maxLocals = 4) (hr : meth.sig.returnType = (some .int)) (hlk : meth.locks = false) (hc0 : gC v = 3)  (hk4 : ∀ (x2 : Int32) (x3 : Int32), k4 x2 x3 = some z → ∀ (H : Heap) (locs : List Loc), WB G (st S a v) s H locs → ∀ (ls : Array Slot), lv_has ls 4 [(0, .ref a), (1, .int x1), (2, .int x2), (3, .int x3)] → W p l e RM_X3_heldBy s m args below meth c H locs 0 0 (QR G below args s (some (.int z)) (st S a v) (st S a v)) (F0 m 4 ls [])) : ∀ (x2 : Int32) (x3 : Int32), f_X3_heldBy_4s fu  k4 v  x1 x2 x3 = some z → ∀ (H : Heap) (locs : List Loc), WB G (st S a v) s H locs → ∀ (ls : Array Slot), lv_has ls 4 [(0, .ref a), (1, .int x1), (2, .int x2), (3, .int x3)] → W p l e RM_X3_heldBy s m args below meth c H locs 0 0 (QR G below args s (some (.int z)) (st S a v) (st S a v)) (F0 m 4 ls []) := by
  intro x2 x3 hf  H locs hW ls hl
  have hx := hM.1
  have hb := hM.2.1
  have hc := hc0
  refine lv_iload_n hx hb dX3_heldBy_4 rfl (lv_at hl 3 rfl) ?_
  refine lv_aload_n hx hb dX3_heldBy_5 rfl (lv_at hl 0 rfl) ?_
  refine b_get hM hW 2 7 hc rfl rfl (by decide) wi_X3 (wgm fk_RX3_34) (x := .int (gI v 7)) rfl dX3_heldBy_6 ?_
  refine lv_icmp_ge (tgt := 34) hx hb dX3_heldBy_9 (by decide) (fun c1 => ?_) (fun c1 => ?_)
  · have hf := if_t c1 hf
    refine lv_iload_n hx hb dX3_heldBy_34 rfl (lv_at hl 2 rfl) ?_
    cases hf
    exact W.iret hx hb hr (b_ret0 hW (fun _ _ => rfl) _) hW.2.2.2 dX3_heldBy_35 hlk
  · have hf := if_f c1 hf
    refine lv_aload_n hx hb dX3_heldBy_12 rfl (lv_at hl 0 rfl) ?_
    refine b_get hM hW 2 4 hc rfl rfl (by decide) wi_X3 (wgm fk_RX3_24) (x := .ref (a + 5)) rfl dX3_heldBy_13 ?_
    refine lv_iload_n hx hb dX3_heldBy_16 rfl (lv_at hl 3 rfl) ?_
    obtain ⟨h2, hf⟩ := ck_elim hf
    refine b_iald (n := 8) hM hW 2 4 hc (by decide) rfl rfl rfl rfl h2 dX3_heldBy_17 ?_
    refine lv_iload_n hx hb dX3_heldBy_18 rfl (lv_at hl 1 rfl) ?_
    refine lv_icmp_ne (tgt := 28) hx hb dX3_heldBy_19 (by decide) (fun c3 => ?_) (fun c3 => ?_)
    · have hf := if_f c3 hf
      exact t_X3_heldBy_28 (fu := fu) hM hml hr hlk hc0 hk4 hf _ _ hW _ (lv_sub hl [0, 1, 2, 3] rfl)
    · have hf := if_t c3 hf
      refine lv_iload_n hx hb dX3_heldBy_22 rfl (lv_at hl 2 rfl) ?_
      refine lv_iconst (v := (1 : Int32)) hx hb dX3_heldBy_23 (by decide) ?_
      refine lv_iload_n hx hb dX3_heldBy_24 rfl (lv_at hl 3 rfl) ?_
      refine lv_ishl hx hb dX3_heldBy_25 ?_
      refine lv_ior hx hb dX3_heldBy_26 ?_
      refine lv_topi (fun y4 ey4 => ?_)
      have hf := nm_at ey4 hf
      refine lv_istore_n (lv' := [(2, .int y4), (0, .ref a), (1, .int x1), (3, .int x3)]) hx hb dX3_heldBy_27 rfl hl (by decide) rfl (fun ls hl => ?_)
      exact t_X3_heldBy_28 (fu := fu) hM hml hr hlk hc0 hk4 hf _ _ hW _ (lv_sub hl [1, 2, 0, 3] rfl)
theorem t_X3_heldBy_4 {G : GG} {p : Program} {l : Launch} {e : Env} {s : State} {m : MethodId} {args : Array Value} {below : List Frame} {meth : Method} {c : Code} {S : ST} {fu : Nat} {z : Int32} {a : Nat} {v : GV}  {x1 : Int32} (hM : MC G p s m args c cX3_heldBy w_X3_heldBy RX3) (hml : c.maxLocals = 4) (hr : meth.sig.returnType = (some .int)) (hlk : meth.locks = false) (hc0 : gC v = 3)  : ∀ {n : Nat} (x2 : Int32) (x3 : Int32), f_X3_heldBy_4 fu n  v  x1 x2 x3 = some z → ∀ (H : Heap) (locs : List Loc), WB G (st S a v) s H locs → ∀ (ls : Array Slot), lv_has ls 4 [(0, .ref a), (1, .int x1), (2, .int x2), (3, .int x3)] → W p l e RM_X3_heldBy s m args below meth c H locs 0 0 (QR G below args s (some (.int z)) (st S a v) (st S a v)) (F0 m 4 ls []) := by
  intro n
  induction n with
  | zero => intro x2 x3 hf; cases hf
  | succ n ih => intro x2 x3 hf; exact t_X3_heldBy_4s (fu := fu) hM hml hr hlk hc0 (k4 := f_X3_heldBy_4 fu n  v  x1) ih _ _ hf
noncomputable def f_X3_heldBy_0 (fu : Nat)  (v : GV) (x1 : Int32) : Option (Int32) :=
  f_X3_heldBy_4 fu fu v x1 (0 : Int32) (0 : Int32)
set_option maxHeartbeats 4000000 in
set_option maxRecDepth 100000 in
theorem t_X3_heldBy_0 {G : GG} {p : Program} {l : Launch} {e : Env} {s : State} {m : MethodId} {args : Array Value} {below : List Frame} {meth : Method} {c : Code} {S : ST} {fu : Nat} {z : Int32} {a : Nat} {v : GV}  {x1 : Int32} (hM : MC G p s m args c cX3_heldBy w_X3_heldBy RX3) (hml : c.maxLocals = 4) (hr : meth.sig.returnType = (some .int)) (hlk : meth.locks = false) (hc0 : gC v = 3)  (hf : f_X3_heldBy_0 fu  v  x1 = some z) : ∀ (H : Heap) (locs : List Loc), WB G (st S a v) s H locs → ∀ (ls : Array Slot), lv_has ls 4 [(0, .ref a), (1, .int x1)] → W p l e RM_X3_heldBy s m args below meth c H locs 0 0 (QR G below args s (some (.int z)) (st S a v) (st S a v)) (F0 m 0 ls []) := by
  intro  H locs hW ls hl
  have hx := hM.1
  have hb := hM.2.1
  have hc := hc0
  refine lv_iconst (v := (0 : Int32)) hx hb dX3_heldBy_0 (by decide) ?_
  refine lv_istore_n (lv' := [(2, .int (0 : Int32)), (0, .ref a), (1, .int x1)]) hx hb dX3_heldBy_1 rfl hl (by decide) rfl (fun ls hl => ?_)
  refine lv_iconst (v := (0 : Int32)) hx hb dX3_heldBy_2 (by decide) ?_
  refine lv_istore_n (lv' := [(3, .int (0 : Int32)), (2, .int (0 : Int32)), (0, .ref a), (1, .int x1)]) hx hb dX3_heldBy_3 rfl hl (by decide) rfl (fun ls hl => ?_)
  exact t_X3_heldBy_4 (fu := fu) hM hml hr hlk hc0 _ _ hf _ _ hW _ (lv_sub hl [2, 3, 1, 0] rfl)
noncomputable def f_X3_heldBy (fu : Nat) (v : GV) (x1 : Int32) : Option (Int32) := f_X3_heldBy_0 fu v x1
set_option maxHeartbeats 4000000 in
set_option maxRecDepth 100000 in
theorem c_X3_heldBy (l : Launch) (G : GG) (fu : Nat) (S : ST) (a : Nat) (v : GV) (x1 : Int32) {z : Int32} (hc : gC v = 3) (hf : f_X3_heldBy fu v x1 = some z) : Ct l yX3_heldBy w_X3_heldBy RM_X3_heldBy G (st S a v) [.ref a, .int x1] (some (.int z)) (st S a v) 0 0 := by
  refine Met.ofW (cc := cX3_heldBy) (maxL := 4) (ret := (some .int)) (by decide) rfl ?_
  intro p e s m args below meth c s₁ B hml hv
  obtain ⟨rfl, hB, hK, hz⟩ := hv
  have hM : MC G p s m _ c cX3_heldBy w_X3_heldBy RX3 := ⟨B.exec, B.bytes, findClass_of_methodNamed B.named, atoms_spec (ws := w_X3_heldBy) B.pre, hK, hz⟩
  have hW : WB G (st S a v) s s.heap [] := ⟨hB, va_S.rf⟩
  have hl := lv_entry ([.ref a, .int x1]) (n := 4) (Nat.le_of_ble_eq_true rfl)
  rw [lg_entry_eq]
  generalize (lg_sl ([.ref a, .int x1]) ++ List.replicate (4 - (lg_sl ([.ref a, .int x1])).length) Slot.unset).toArray = ls at hl ⊢
  have hl : lv_has ls 4 [(0, .ref a), (1, .int x1)] := hl
  exact t_X3_heldBy_0 (fu := fu) hM hml B.returns B.notSynchronized hc hf _ _ hW _ (lv_sub hl [0, 1] rfl)
abbrev RM_X3_allCoins : Room := { frames := 0, cells := 0, slots := 0, locals := 0 }
abbrev w_X3_allCoins : List Cond := Cond.code yX3_allCoins cX3_allCoins 3 (some .int) :: wsL_law0
noncomputable def f_X3_allCoins_4s (fu : Nat)  (k4 : Int32 → Int32 → Option (Int32)) (v : GV) (x1 : Int32) (x2 : Int32) : Option (Int32) :=
  if (5 : Int32) ≤ x2 then
    (some (x1))
  else
    (ck (inb x2 5) <|
    nm ((x1 + (gA v 5 x2.toNatClampNeg))) fun y3 =>
    nm (x2 + (1 : Int32)) fun y4 =>
    k4 y3 y4)
noncomputable def f_X3_allCoins_4 (fu n : Nat)  (v : GV) : Int32 → Int32 → Option (Int32) :=
  lq_2 (fun k4 => f_X3_allCoins_4s fu  k4 v ) n
set_option maxHeartbeats 4000000 in
set_option maxRecDepth 100000 in
theorem t_X3_allCoins_4s {G : GG} {p : Program} {l : Launch} {e : Env} {s : State} {m : MethodId} {args : Array Value} {below : List Frame} {meth : Method} {c : Code} {S : ST} {fu : Nat} {z : Int32} {a : Nat} {v : GV}  {k4 : Int32 → Int32 → Option (Int32)} (hM : MC G p s m args c cX3_allCoins w_X3_allCoins RX3) (hml : c.maxLocals = 3) (hr : meth.sig.returnType = (some .int)) (hlk : meth.locks = false) (hc0 : gC v = 3)  (hk4 : ∀ (x1 : Int32) (x2 : Int32), k4 x1 x2 = some z → ∀ (H : Heap) (locs : List Loc), WB G (st S a v) s H locs → ∀ (ls : Array Slot), lv_has ls 3 [(0, .ref a), (1, .int x1), (2, .int x2)] → W p l e RM_X3_allCoins s m args below meth c H locs 0 0 (QR G below args s (some (.int z)) (st S a v) (st S a v)) (F0 m 4 ls [])) : ∀ (x1 : Int32) (x2 : Int32), f_X3_allCoins_4s fu  k4 v  x1 x2 = some z → ∀ (H : Heap) (locs : List Loc), WB G (st S a v) s H locs → ∀ (ls : Array Slot), lv_has ls 3 [(0, .ref a), (1, .int x1), (2, .int x2)] → W p l e RM_X3_allCoins s m args below meth c H locs 0 0 (QR G below args s (some (.int z)) (st S a v) (st S a v)) (F0 m 4 ls []) := by
  intro x1 x2 hf  H locs hW ls hl
  have hx := hM.1
  have hb := hM.2.1
  have hc := hc0
  refine lv_iload_n hx hb dX3_allCoins_4 rfl (lv_at hl 2 rfl) ?_
  refine lv_iconst (v := (5 : Int32)) hx hb dX3_allCoins_5 (by decide) ?_
  refine lv_icmp_ge (tgt := 24) hx hb dX3_allCoins_6 (by decide) (fun c1 => ?_) (fun c1 => ?_)
  · have hf := if_t c1 hf
    refine lv_iload_n hx hb dX3_allCoins_24 rfl (lv_at hl 1 rfl) ?_
    cases hf
    exact W.iret hx hb hr (b_ret0 hW (fun _ _ => rfl) _) hW.2.2.2 dX3_allCoins_25 hlk
  · have hf := if_f c1 hf
    refine lv_iload_n hx hb dX3_allCoins_9 rfl (lv_at hl 1 rfl) ?_
    refine lv_aload_n hx hb dX3_allCoins_10 rfl (lv_at hl 0 rfl) ?_
    refine b_get hM hW 2 5 hc rfl rfl (by decide) wi_X3 (wgm fk_RX3_27) (x := .ref (a + 6)) rfl dX3_allCoins_11 ?_
    refine lv_iload_n hx hb dX3_allCoins_14 rfl (lv_at hl 2 rfl) ?_
    obtain ⟨h2, hf⟩ := ck_elim hf
    refine b_iald (n := 5) hM hW 2 5 hc (by decide) rfl rfl rfl rfl h2 dX3_allCoins_15 ?_
    refine lv_iadd hx hb dX3_allCoins_16 ?_
    refine lv_topi (fun y3 ey3 => ?_)
    have hf := nm_at ey3 hf
    refine lv_istore_n (lv' := [(1, .int y3), (0, .ref a), (2, .int x2)]) hx hb dX3_allCoins_17 rfl hl (by decide) rfl (fun ls hl => ?_)
    obtain ⟨y4, ey4⟩ : ∃ y : Int32, y = x2 + (1 : Int32) := ⟨_, rfl⟩
    have hf := nm_at ey4 hf
    refine lv_iinc (v := y4) (lv' := [(2, .int y4), (1, .int y3), (0, .ref a)]) hx hb dX3_allCoins_18 hl (k := 2) rfl (by rw [ey4]; rfl) (by decide) rfl (fun ls hl => ?_)
    refine lv_goto (tgt := 4) hx hb dX3_allCoins_21 (by decide) ?_
    exact hk4 _ _ hf _ _ hW _ (lv_sub hl [2, 1, 0] rfl)
theorem t_X3_allCoins_4 {G : GG} {p : Program} {l : Launch} {e : Env} {s : State} {m : MethodId} {args : Array Value} {below : List Frame} {meth : Method} {c : Code} {S : ST} {fu : Nat} {z : Int32} {a : Nat} {v : GV}  (hM : MC G p s m args c cX3_allCoins w_X3_allCoins RX3) (hml : c.maxLocals = 3) (hr : meth.sig.returnType = (some .int)) (hlk : meth.locks = false) (hc0 : gC v = 3)  : ∀ {n : Nat} (x1 : Int32) (x2 : Int32), f_X3_allCoins_4 fu n  v  x1 x2 = some z → ∀ (H : Heap) (locs : List Loc), WB G (st S a v) s H locs → ∀ (ls : Array Slot), lv_has ls 3 [(0, .ref a), (1, .int x1), (2, .int x2)] → W p l e RM_X3_allCoins s m args below meth c H locs 0 0 (QR G below args s (some (.int z)) (st S a v) (st S a v)) (F0 m 4 ls []) := by
  intro n
  induction n with
  | zero => intro x1 x2 hf; cases hf
  | succ n ih => intro x1 x2 hf; exact t_X3_allCoins_4s (fu := fu) hM hml hr hlk hc0 (k4 := f_X3_allCoins_4 fu n  v ) ih _ _ hf
noncomputable def f_X3_allCoins_0 (fu : Nat)  (v : GV) : Option (Int32) :=
  f_X3_allCoins_4 fu fu v (0 : Int32) (0 : Int32)
set_option maxHeartbeats 4000000 in
set_option maxRecDepth 100000 in
theorem t_X3_allCoins_0 {G : GG} {p : Program} {l : Launch} {e : Env} {s : State} {m : MethodId} {args : Array Value} {below : List Frame} {meth : Method} {c : Code} {S : ST} {fu : Nat} {z : Int32} {a : Nat} {v : GV}  (hM : MC G p s m args c cX3_allCoins w_X3_allCoins RX3) (hml : c.maxLocals = 3) (hr : meth.sig.returnType = (some .int)) (hlk : meth.locks = false) (hc0 : gC v = 3)  (hf : f_X3_allCoins_0 fu  v   = some z) : ∀ (H : Heap) (locs : List Loc), WB G (st S a v) s H locs → ∀ (ls : Array Slot), lv_has ls 3 [(0, .ref a)] → W p l e RM_X3_allCoins s m args below meth c H locs 0 0 (QR G below args s (some (.int z)) (st S a v) (st S a v)) (F0 m 0 ls []) := by
  intro  H locs hW ls hl
  have hx := hM.1
  have hb := hM.2.1
  have hc := hc0
  refine lv_iconst (v := (0 : Int32)) hx hb dX3_allCoins_0 (by decide) ?_
  refine lv_istore_n (lv' := [(1, .int (0 : Int32)), (0, .ref a)]) hx hb dX3_allCoins_1 rfl hl (by decide) rfl (fun ls hl => ?_)
  refine lv_iconst (v := (0 : Int32)) hx hb dX3_allCoins_2 (by decide) ?_
  refine lv_istore_n (lv' := [(2, .int (0 : Int32)), (1, .int (0 : Int32)), (0, .ref a)]) hx hb dX3_allCoins_3 rfl hl (by decide) rfl (fun ls hl => ?_)
  exact t_X3_allCoins_4 (fu := fu) hM hml hr hlk hc0 _ _ hf _ _ hW _ (lv_sub hl [2, 1, 0] rfl)
noncomputable def f_X3_allCoins (fu : Nat) (v : GV) : Option (Int32) := f_X3_allCoins_0 fu v
set_option maxHeartbeats 4000000 in
set_option maxRecDepth 100000 in
theorem c_X3_allCoins (l : Launch) (G : GG) (fu : Nat) (S : ST) (a : Nat) (v : GV) {z : Int32} (hc : gC v = 3) (hf : f_X3_allCoins fu v = some z) : Ct l yX3_allCoins w_X3_allCoins RM_X3_allCoins G (st S a v) [.ref a] (some (.int z)) (st S a v) 0 0 := by
  refine Met.ofW (cc := cX3_allCoins) (maxL := 3) (ret := (some .int)) (by decide) rfl ?_
  intro p e s m args below meth c s₁ B hml hv
  obtain ⟨rfl, hB, hK, hz⟩ := hv
  have hM : MC G p s m _ c cX3_allCoins w_X3_allCoins RX3 := ⟨B.exec, B.bytes, findClass_of_methodNamed B.named, atoms_spec (ws := w_X3_allCoins) B.pre, hK, hz⟩
  have hW : WB G (st S a v) s s.heap [] := ⟨hB, va_S.rf⟩
  have hl := lv_entry ([.ref a]) (n := 3) (Nat.le_of_ble_eq_true rfl)
  rw [lg_entry_eq]
  generalize (lg_sl ([.ref a]) ++ List.replicate (3 - (lg_sl ([.ref a])).length) Slot.unset).toArray = ls at hl ⊢
  have hl : lv_has ls 3 [(0, .ref a)] := hl
  exact t_X3_allCoins_0 (fu := fu) hM hml B.returns B.notSynchronized hc hf _ _ hW _ (lv_sub hl [0] rfl)
abbrev RM_X4_operand : Room := { frames := 0, cells := 0, slots := 0, locals := 0 }
abbrev w_X4_operand : List Cond := Cond.code yX4_operand cX4_operand 4 (some .int) :: wsL_law0
noncomputable def f_X4_operand_0 (fu : Nat)  (x0 : Int32) (x1 : Int32) (x2 : Int32) (x3 : Int32) : Option (Int32) :=
  if x0 = (-3 : Int32) then
    (some (x3))
  else
  if x0 = (-2 : Int32) then
    (some (x2))
  else
  if x0 = (-1 : Int32) then
    (some (x1))
  else
  (some (x0))
set_option maxHeartbeats 4000000 in
set_option maxRecDepth 100000 in
theorem t_X4_operand_0 {G : GG} {p : Program} {l : Launch} {e : Env} {s : State} {m : MethodId} {args : Array Value} {below : List Frame} {meth : Method} {c : Code} {S : ST} {fu : Nat} {z : Int32}  {x0 : Int32} {x1 : Int32} {x2 : Int32} {x3 : Int32} (hM : MC G p s m args c cX4_operand w_X4_operand RX4) (hml : c.maxLocals = 4) (hr : meth.sig.returnType = (some .int)) (hlk : meth.locks = false)   (hf : f_X4_operand_0 fu    x0 x1 x2 x3 = some z) : ∀ (H : Heap) (locs : List Loc), WB G S s H locs → ∀ (ls : Array Slot), lv_has ls 4 [(0, .int x0), (1, .int x1), (2, .int x2), (3, .int x3)] → W p l e RM_X4_operand s m args below meth c H locs 0 0 (QR G below args s (some (.int z)) S S) (F0 m 0 ls []) := by
  intro  H locs hW ls hl
  have hx := hM.1
  have hb := hM.2.1
  refine lv_iload_n hx hb dX4_operand_0 rfl (lv_at hl 0 rfl) ?_
  by_cases c1 : x0 = (-3 : Int32)
  · have hf := if_t c1 hf
    refine lv_tableIn (off := 31) (tgt := 32) hx hb dX4_operand_1 (by rw [c1]; decide) (by rw [c1]; decide) (by rw [c1]; rfl) (by decide) ?_
    refine lv_iload_n hx hb dX4_operand_32 rfl (lv_at hl 3 rfl) ?_
    cases hf
    exact W.iret hx hb hr (b_ret0 hW (fun _ _ => rfl) _) hW.2.2.2 dX4_operand_33 hlk
  have hf := if_f c1 hf
  by_cases c2 : x0 = (-2 : Int32)
  · have hf := if_t c2 hf
    refine lv_tableIn (off := 29) (tgt := 30) hx hb dX4_operand_1 (by rw [c2]; decide) (by rw [c2]; decide) (by rw [c2]; rfl) (by decide) ?_
    refine lv_iload_n hx hb dX4_operand_30 rfl (lv_at hl 2 rfl) ?_
    cases hf
    exact W.iret hx hb hr (b_ret0 hW (fun _ _ => rfl) _) hW.2.2.2 dX4_operand_31 hlk
  have hf := if_f c2 hf
  by_cases c3 : x0 = (-1 : Int32)
  · have hf := if_t c3 hf
    refine lv_tableIn (off := 27) (tgt := 28) hx hb dX4_operand_1 (by rw [c3]; decide) (by rw [c3]; decide) (by rw [c3]; rfl) (by decide) ?_
    refine lv_iload_n hx hb dX4_operand_28 rfl (lv_at hl 1 rfl) ?_
    cases hf
    exact W.iret hx hb hr (b_ret0 hW (fun _ _ => rfl) _) hW.2.2.2 dX4_operand_29 hlk
  have hf := if_f c3 hf
  refine lv_tableOut (tgt := 34) hx hb dX4_operand_1 (sw_out (fun j h1 h2 hj => ?_)) (by decide) ?_
  · have hcases : j = -3 ∨ j = -2 ∨ j = -1 := by omega
    rcases hcases with rfl | rfl | rfl
    · exact c1 (Int32.toInt_inj.mp (hj.trans (by decide)))
    · exact c2 (Int32.toInt_inj.mp (hj.trans (by decide)))
    · exact c3 (Int32.toInt_inj.mp (hj.trans (by decide)))
  · refine lv_iload_n hx hb dX4_operand_34 rfl (lv_at hl 0 rfl) ?_
    cases hf
    exact W.iret hx hb hr (b_ret0 hW (fun _ _ => rfl) _) hW.2.2.2 dX4_operand_35 hlk
noncomputable def f_X4_operand (fu : Nat) (x0 : Int32) (x1 : Int32) (x2 : Int32) (x3 : Int32) : Option (Int32) := f_X4_operand_0 fu x0 x1 x2 x3
set_option maxHeartbeats 4000000 in
set_option maxRecDepth 100000 in
theorem c_X4_operand (l : Launch) (G : GG) (fu : Nat) (S : ST) (x0 : Int32) (x1 : Int32) (x2 : Int32) (x3 : Int32) {z : Int32} (hf : f_X4_operand fu x0 x1 x2 x3 = some z) : Ct l yX4_operand w_X4_operand RM_X4_operand G S [.int x0, .int x1, .int x2, .int x3] (some (.int z)) S 0 0 := by
  refine Met.ofW (cc := cX4_operand) (maxL := 4) (ret := (some .int)) (by decide) rfl ?_
  intro p e s m args below meth c s₁ B hml hv
  obtain ⟨rfl, hB, hK, hz⟩ := hv
  have hM : MC G p s m _ c cX4_operand w_X4_operand RX4 := ⟨B.exec, B.bytes, findClass_of_methodNamed B.named, atoms_spec (ws := w_X4_operand) B.pre, hK, hz⟩
  have hW : WB G S s s.heap [] := ⟨hB, va_S.rf⟩
  have hl := lv_entry ([.int x0, .int x1, .int x2, .int x3]) (n := 4) (Nat.le_of_ble_eq_true rfl)
  rw [lg_entry_eq]
  generalize (lg_sl ([.int x0, .int x1, .int x2, .int x3]) ++ List.replicate (4 - (lg_sl ([.int x0, .int x1, .int x2, .int x3])).length) Slot.unset).toArray = ls at hl ⊢
  have hl : lv_has ls 4 [(0, .int x0), (1, .int x1), (2, .int x2), (3, .int x3)] := hl
  exact t_X4_operand_0 (fu := fu) hM hml B.returns B.notSynchronized hf _ _ hW _ (lv_sub hl [0, 1, 2, 3] rfl)
abbrev RM_X4_joinedBy : Room := { frames := 0, cells := 0, slots := 0, locals := 0 }
abbrev w_X4_joinedBy : List Cond := Cond.code yX4_joinedBy cX4_joinedBy 3 (some .int) :: wsL_law0
noncomputable def f_X4_joinedBy_62 (fu : Nat)  : Option (Int32) :=
  some ((1 : Int32))
set_option maxHeartbeats 4000000 in
set_option maxRecDepth 100000 in
theorem t_X4_joinedBy_62 {G : GG} {p : Program} {l : Launch} {e : Env} {s : State} {m : MethodId} {args : Array Value} {below : List Frame} {meth : Method} {c : Code} {S : ST} {fu : Nat} {z : Int32}  (hM : MC G p s m args c cX4_joinedBy w_X4_joinedBy RX4) (hml : c.maxLocals = 3) (hr : meth.sig.returnType = (some .int)) (hlk : meth.locks = false)   (hf : f_X4_joinedBy_62 fu     = some z) : ∀ (H : Heap) (locs : List Loc), WB G S s H locs → ∀ (ls : Array Slot), lv_has ls 3 [] → W p l e RM_X4_joinedBy s m args below meth c H locs 0 0 (QR G below args s (some (.int z)) S S) (F0 m 62 ls []) := by
  intro  H locs hW ls hl
  have hx := hM.1
  have hb := hM.2.1
  refine lv_iconst (v := (1 : Int32)) hx hb dX4_joinedBy_62 (by decide) ?_
  refine lv_goto (tgt := 67) hx hb dX4_joinedBy_63 (by decide) ?_
  cases hf
  exact W.iret hx hb hr (b_ret0 hW (fun _ _ => rfl) _) hW.2.2.2 dX4_joinedBy_67 hlk
noncomputable def f_X4_joinedBy_52 (fu : Nat)  : Option (Int32) :=
  some ((0 : Int32))
set_option maxHeartbeats 4000000 in
set_option maxRecDepth 100000 in
theorem t_X4_joinedBy_52 {G : GG} {p : Program} {l : Launch} {e : Env} {s : State} {m : MethodId} {args : Array Value} {below : List Frame} {meth : Method} {c : Code} {S : ST} {fu : Nat} {z : Int32}  (hM : MC G p s m args c cX4_joinedBy w_X4_joinedBy RX4) (hml : c.maxLocals = 3) (hr : meth.sig.returnType = (some .int)) (hlk : meth.locks = false)   (hf : f_X4_joinedBy_52 fu     = some z) : ∀ (H : Heap) (locs : List Loc), WB G S s H locs → ∀ (ls : Array Slot), lv_has ls 3 [] → W p l e RM_X4_joinedBy s m args below meth c H locs 0 0 (QR G below args s (some (.int z)) S S) (F0 m 52 ls []) := by
  intro  H locs hW ls hl
  have hx := hM.1
  have hb := hM.2.1
  refine lv_iconst (v := (0 : Int32)) hx hb dX4_joinedBy_52 (by decide) ?_
  cases hf
  exact W.iret hx hb hr (b_ret0 hW (fun _ _ => rfl) _) hW.2.2.2 dX4_joinedBy_53 hlk
noncomputable def f_X4_joinedBy_0 (fu : Nat)  (x0 : Int32) (x1 : Int32) (x2 : Int32) : Option (Int32) :=
  if x0 = (-10 : Int32) then
    (some ((x1 - x2)))
  else
  if x0 = (-9 : Int32) then
    (some ((x1 + x2)))
  else
  if x0 = (-8 : Int32) then
    (if x1 = x2 then
      (some ((1 : Int32)))
    else
      (some ((0 : Int32))))
  else
  if x0 = (-7 : Int32) then
    (if x2 ≤ x1 then
      (some ((0 : Int32)))
    else
      (some ((1 : Int32))))
  else
  if x0 = (-6 : Int32) then
    (if x1 = 0 then
      (if x2 = 0 then
        (some ((0 : Int32)))
      else
        (f_X4_joinedBy_62 fu))
    else
      (f_X4_joinedBy_62 fu))
  else
  if x0 = (-5 : Int32) then
    (if x1 = 0 then
      (f_X4_joinedBy_52 fu)
    else
      (if x2 = 0 then
        (f_X4_joinedBy_52 fu)
      else
        (some ((1 : Int32)))))
  else
  (some ((x1 * x2)))
set_option maxHeartbeats 4000000 in
set_option maxRecDepth 100000 in
theorem t_X4_joinedBy_0 {G : GG} {p : Program} {l : Launch} {e : Env} {s : State} {m : MethodId} {args : Array Value} {below : List Frame} {meth : Method} {c : Code} {S : ST} {fu : Nat} {z : Int32}  {x0 : Int32} {x1 : Int32} {x2 : Int32} (hM : MC G p s m args c cX4_joinedBy w_X4_joinedBy RX4) (hml : c.maxLocals = 3) (hr : meth.sig.returnType = (some .int)) (hlk : meth.locks = false)   (hf : f_X4_joinedBy_0 fu    x0 x1 x2 = some z) : ∀ (H : Heap) (locs : List Loc), WB G S s H locs → ∀ (ls : Array Slot), lv_has ls 3 [(0, .int x0), (1, .int x1), (2, .int x2)] → W p l e RM_X4_joinedBy s m args below meth c H locs 0 0 (QR G below args s (some (.int z)) S S) (F0 m 0 ls []) := by
  intro  H locs hW ls hl
  have hx := hM.1
  have hb := hM.2.1
  refine lv_iload_n hx hb dX4_joinedBy_0 rfl (lv_at hl 0 rfl) ?_
  by_cases c1 : x0 = (-10 : Int32)
  · have hf := if_t c1 hf
    refine lv_tableIn (off := 93) (tgt := 94) hx hb dX4_joinedBy_1 (by rw [c1]; decide) (by rw [c1]; decide) (by rw [c1]; rfl) (by decide) ?_
    refine lv_iload_n hx hb dX4_joinedBy_94 rfl (lv_at hl 1 rfl) ?_
    refine lv_iload_n hx hb dX4_joinedBy_95 rfl (lv_at hl 2 rfl) ?_
    refine lv_isub hx hb dX4_joinedBy_96 ?_
    cases hf
    exact W.iret hx hb hr (b_ret0 hW (fun _ _ => rfl) _) hW.2.2.2 dX4_joinedBy_97 hlk
  have hf := if_f c1 hf
  by_cases c2 : x0 = (-9 : Int32)
  · have hf := if_t c2 hf
    refine lv_tableIn (off := 89) (tgt := 90) hx hb dX4_joinedBy_1 (by rw [c2]; decide) (by rw [c2]; decide) (by rw [c2]; rfl) (by decide) ?_
    refine lv_iload_n hx hb dX4_joinedBy_90 rfl (lv_at hl 1 rfl) ?_
    refine lv_iload_n hx hb dX4_joinedBy_91 rfl (lv_at hl 2 rfl) ?_
    refine lv_iadd hx hb dX4_joinedBy_92 ?_
    cases hf
    exact W.iret hx hb hr (b_ret0 hW (fun _ _ => rfl) _) hW.2.2.2 dX4_joinedBy_93 hlk
  have hf := if_f c2 hf
  by_cases c3 : x0 = (-8 : Int32)
  · have hf := if_t c3 hf
    refine lv_tableIn (off := 78) (tgt := 79) hx hb dX4_joinedBy_1 (by rw [c3]; decide) (by rw [c3]; decide) (by rw [c3]; rfl) (by decide) ?_
    refine lv_iload_n hx hb dX4_joinedBy_79 rfl (lv_at hl 1 rfl) ?_
    refine lv_iload_n hx hb dX4_joinedBy_80 rfl (lv_at hl 2 rfl) ?_
    refine lv_icmp_ne (tgt := 88) hx hb dX4_joinedBy_81 (by decide) (fun c4 => ?_) (fun c4 => ?_)
    · have hf := if_f c4 hf
      refine lv_iconst (v := (0 : Int32)) hx hb dX4_joinedBy_88 (by decide) ?_
      cases hf
      exact W.iret hx hb hr (b_ret0 hW (fun _ _ => rfl) _) hW.2.2.2 dX4_joinedBy_89 hlk
    · have hf := if_t c4 hf
      refine lv_iconst (v := (1 : Int32)) hx hb dX4_joinedBy_84 (by decide) ?_
      refine lv_goto (tgt := 89) hx hb dX4_joinedBy_85 (by decide) ?_
      cases hf
      exact W.iret hx hb hr (b_ret0 hW (fun _ _ => rfl) _) hW.2.2.2 dX4_joinedBy_89 hlk
  have hf := if_f c3 hf
  by_cases c5 : x0 = (-7 : Int32)
  · have hf := if_t c5 hf
    refine lv_tableIn (off := 67) (tgt := 68) hx hb dX4_joinedBy_1 (by rw [c5]; decide) (by rw [c5]; decide) (by rw [c5]; rfl) (by decide) ?_
    refine lv_iload_n hx hb dX4_joinedBy_68 rfl (lv_at hl 1 rfl) ?_
    refine lv_iload_n hx hb dX4_joinedBy_69 rfl (lv_at hl 2 rfl) ?_
    refine lv_icmp_ge (tgt := 77) hx hb dX4_joinedBy_70 (by decide) (fun c6 => ?_) (fun c6 => ?_)
    · have hf := if_t c6 hf
      refine lv_iconst (v := (0 : Int32)) hx hb dX4_joinedBy_77 (by decide) ?_
      cases hf
      exact W.iret hx hb hr (b_ret0 hW (fun _ _ => rfl) _) hW.2.2.2 dX4_joinedBy_78 hlk
    · have hf := if_f c6 hf
      refine lv_iconst (v := (1 : Int32)) hx hb dX4_joinedBy_73 (by decide) ?_
      refine lv_goto (tgt := 78) hx hb dX4_joinedBy_74 (by decide) ?_
      cases hf
      exact W.iret hx hb hr (b_ret0 hW (fun _ _ => rfl) _) hW.2.2.2 dX4_joinedBy_78 hlk
  have hf := if_f c5 hf
  by_cases c7 : x0 = (-6 : Int32)
  · have hf := if_t c7 hf
    refine lv_tableIn (off := 53) (tgt := 54) hx hb dX4_joinedBy_1 (by rw [c7]; decide) (by rw [c7]; decide) (by rw [c7]; rfl) (by decide) ?_
    refine lv_iload_n hx hb dX4_joinedBy_54 rfl (lv_at hl 1 rfl) ?_
    refine lv_if_ne (tgt := 62) hx hb dX4_joinedBy_55 (by decide) (fun c8 => ?_) (fun c8 => ?_)
    · have hf := if_f c8 hf
      exact t_X4_joinedBy_62 (fu := fu) hM hml hr hlk hf _ _ hW _ (lv_sub hl [] rfl)
    · have hf := if_t c8 hf
      refine lv_iload_n hx hb dX4_joinedBy_58 rfl (lv_at hl 2 rfl) ?_
      refine lv_if_eq (tgt := 66) hx hb dX4_joinedBy_59 (by decide) (fun c9 => ?_) (fun c9 => ?_)
      · have hf := if_t c9 hf
        refine lv_iconst (v := (0 : Int32)) hx hb dX4_joinedBy_66 (by decide) ?_
        cases hf
        exact W.iret hx hb hr (b_ret0 hW (fun _ _ => rfl) _) hW.2.2.2 dX4_joinedBy_67 hlk
      · have hf := if_f c9 hf
        exact t_X4_joinedBy_62 (fu := fu) hM hml hr hlk hf _ _ hW _ (lv_sub hl [] rfl)
  have hf := if_f c7 hf
  by_cases c10 : x0 = (-5 : Int32)
  · have hf := if_t c10 hf
    refine lv_tableIn (off := 39) (tgt := 40) hx hb dX4_joinedBy_1 (by rw [c10]; decide) (by rw [c10]; decide) (by rw [c10]; rfl) (by decide) ?_
    refine lv_iload_n hx hb dX4_joinedBy_40 rfl (lv_at hl 1 rfl) ?_
    refine lv_if_eq (tgt := 52) hx hb dX4_joinedBy_41 (by decide) (fun c11 => ?_) (fun c11 => ?_)
    · have hf := if_t c11 hf
      exact t_X4_joinedBy_52 (fu := fu) hM hml hr hlk hf _ _ hW _ (lv_sub hl [] rfl)
    · have hf := if_f c11 hf
      refine lv_iload_n hx hb dX4_joinedBy_44 rfl (lv_at hl 2 rfl) ?_
      refine lv_if_eq (tgt := 52) hx hb dX4_joinedBy_45 (by decide) (fun c12 => ?_) (fun c12 => ?_)
      · have hf := if_t c12 hf
        exact t_X4_joinedBy_52 (fu := fu) hM hml hr hlk hf _ _ hW _ (lv_sub hl [] rfl)
      · have hf := if_f c12 hf
        refine lv_iconst (v := (1 : Int32)) hx hb dX4_joinedBy_48 (by decide) ?_
        refine lv_goto (tgt := 53) hx hb dX4_joinedBy_49 (by decide) ?_
        cases hf
        exact W.iret hx hb hr (b_ret0 hW (fun _ _ => rfl) _) hW.2.2.2 dX4_joinedBy_53 hlk
  have hf := if_f c10 hf
  refine lv_tableOut (tgt := 98) hx hb dX4_joinedBy_1 (sw_out (fun j h1 h2 hj => ?_)) (by decide) ?_
  · have hcases : j = -10 ∨ j = -9 ∨ j = -8 ∨ j = -7 ∨ j = -6 ∨ j = -5 := by omega
    rcases hcases with rfl | rfl | rfl | rfl | rfl | rfl
    · exact c1 (Int32.toInt_inj.mp (hj.trans (by decide)))
    · exact c2 (Int32.toInt_inj.mp (hj.trans (by decide)))
    · exact c3 (Int32.toInt_inj.mp (hj.trans (by decide)))
    · exact c5 (Int32.toInt_inj.mp (hj.trans (by decide)))
    · exact c7 (Int32.toInt_inj.mp (hj.trans (by decide)))
    · exact c10 (Int32.toInt_inj.mp (hj.trans (by decide)))
  · refine lv_iload_n hx hb dX4_joinedBy_98 rfl (lv_at hl 1 rfl) ?_
    refine lv_iload_n hx hb dX4_joinedBy_99 rfl (lv_at hl 2 rfl) ?_
    refine lv_imul hx hb dX4_joinedBy_100 ?_
    cases hf
    exact W.iret hx hb hr (b_ret0 hW (fun _ _ => rfl) _) hW.2.2.2 dX4_joinedBy_101 hlk
noncomputable def f_X4_joinedBy (fu : Nat) (x0 : Int32) (x1 : Int32) (x2 : Int32) : Option (Int32) := f_X4_joinedBy_0 fu x0 x1 x2
set_option maxHeartbeats 4000000 in
set_option maxRecDepth 100000 in
theorem c_X4_joinedBy (l : Launch) (G : GG) (fu : Nat) (S : ST) (x0 : Int32) (x1 : Int32) (x2 : Int32) {z : Int32} (hf : f_X4_joinedBy fu x0 x1 x2 = some z) : Ct l yX4_joinedBy w_X4_joinedBy RM_X4_joinedBy G S [.int x0, .int x1, .int x2] (some (.int z)) S 0 0 := by
  refine Met.ofW (cc := cX4_joinedBy) (maxL := 3) (ret := (some .int)) (by decide) rfl ?_
  intro p e s m args below meth c s₁ B hml hv
  obtain ⟨rfl, hB, hK, hz⟩ := hv
  have hM : MC G p s m _ c cX4_joinedBy w_X4_joinedBy RX4 := ⟨B.exec, B.bytes, findClass_of_methodNamed B.named, atoms_spec (ws := w_X4_joinedBy) B.pre, hK, hz⟩
  have hW : WB G S s s.heap [] := ⟨hB, va_S.rf⟩
  have hl := lv_entry ([.int x0, .int x1, .int x2]) (n := 3) (Nat.le_of_ble_eq_true rfl)
  rw [lg_entry_eq]
  generalize (lg_sl ([.int x0, .int x1, .int x2]) ++ List.replicate (3 - (lg_sl ([.int x0, .int x1, .int x2])).length) Slot.unset).toArray = ls at hl ⊢
  have hl : lv_has ls 3 [(0, .int x0), (1, .int x1), (2, .int x2)] := hl
  exact t_X4_joinedBy_0 (fu := fu) hM hml B.returns B.notSynchronized hf _ _ hW _ (lv_sub hl [0, 1, 2] rfl)
