abbrev RM_X3_clear : Room := { frames := 1, cells := 0, slots := 0, locals := 23 }
abbrev w_X3_clear : List Cond := Cond.code yX3_clear cX3_clear 1 none :: wsL_law0
noncomputable def f_X3_clear_0 (fu : Nat)  (S : ST) (a : Nat) : Option (ST) :=
  nm (st S a (sA (S a) 0 (0 : Int32).toNatClampNeg (0 : Int32))) fun S1 =>
  nm (st S1 a (sA (S1 a) 1 (0 : Int32).toNatClampNeg (0 : Int32))) fun S2 =>
  nm (st S2 a (sA (S2 a) 3 (0 : Int32).toNatClampNeg (0 : Int32))) fun S3 =>
  nm (st S3 a (sA (S3 a) 2 (0 : Int32).toNatClampNeg (-1 : Int32))) fun S4 =>
  nm (st S4 a (sA (S4 a) 4 (0 : Int32).toNatClampNeg (5 : Int32))) fun S5 =>
  nm (st S5 a (sAf (S5 a) 5 (flA (gA (S5 a) 5) 5 (0 : Int32)))) fun S6 =>
  nm (st S6 a (sI (S6 a) 6 (0 : Int32))) fun S7 =>
  nm (st S7 a (sI (S7 a) 7 (1 : Int32))) fun S8 =>
  nm (st S8 a (sI (S8 a) 8 (0 : Int32))) fun S9 =>
  nm (st S9 a (sI (S9 a) 9 (0 : Int32))) fun S10 =>
  nm (st S10 a (sI (S10 a) 10 (0 : Int32))) fun S11 =>
  nm (st S11 a (sI (S11 a) 11 (0 : Int32))) fun S12 =>
  nm (st S12 a (sI (S12 a) 12 (0 : Int32))) fun S13 =>
  some S13
set_option maxHeartbeats 4000000 in
set_option maxRecDepth 100000 in
theorem t_X3_clear_0 {G : GG} {p : Program} {l : Launch} {e : Env} {s : State} {m : MethodId} {args : Array Value} {below : List Frame} {meth : Method} {c : Code} {S0 : ST} {fu : Nat} {z : ST} {a : Nat}  {S : ST} (hM : MC G p s m args c cX3_clear w_X3_clear RX3) (hml : c.maxLocals = 1) (hr : meth.sig.returnType = none) (hlk : meth.locks = false)   (hf : f_X3_clear_0 fu  S a  = some z) : (gC (S a) = 3) → (∀ b, gC (S0 b) ≠ 0 → gC (S b) = gC (S0 b)) → ∀ (H : Heap) (locs : List Loc), WB G S s H locs → ∀ (ls : Array Slot), lv_has ls 1 [(0, .ref a)] → W p l e RM_X3_clear s m args below meth c H locs 0 0 (QR G below args s none S0 z) (F0 m 0 ls []) := by
  intro ha hK0 H locs hW ls hl
  have hx := hM.1
  have hb := hM.2.1
  refine lv_aload_n hx hb dX3_clear_0 rfl (lv_at hl 0 rfl) ?_
  refine b_get hM (hW.at_ a) 2 0 ha rfl rfl (by decide) wi_X3 (wgm fk_RX3_9) (x := .ref (a + 1)) rfl dX3_clear_1 ?_
  refine lv_iconst (v := (0 : Int32)) hx hb dX3_clear_4 (by decide) ?_
  refine lv_iconst (v := (0 : Int32)) hx hb dX3_clear_5 (by decide) ?_
  refine s_iast (n := 8) hM hW 2 0 ha (by decide) rfl rfl rfl rfl (by decide) dX3_clear_6 (fun S1 eS1 hk H locs hW => ?_)
  have hf := nm_at eS1 hf
  have ha := keep1 hk ha
  have hK0 := keep_tr hK0 hk
  refine lv_aload_n hx hb dX3_clear_7 rfl (lv_at hl 0 rfl) ?_
  refine b_get hM (hW.at_ a) 2 1 ha rfl rfl (by decide) wi_X3 (wgm fk_RX3_15) (x := .ref (a + 2)) rfl dX3_clear_8 ?_
  refine lv_iconst (v := (0 : Int32)) hx hb dX3_clear_11 (by decide) ?_
  refine lv_iconst (v := (0 : Int32)) hx hb dX3_clear_12 (by decide) ?_
  refine s_iast (n := 8) hM hW 2 1 ha (by decide) rfl rfl rfl rfl (by decide) dX3_clear_13 (fun S2 eS2 hk H locs hW => ?_)
  have hf := nm_at eS2 hf
  have ha := keep1 hk ha
  have hK0 := keep_tr hK0 hk
  refine lv_aload_n hx hb dX3_clear_14 rfl (lv_at hl 0 rfl) ?_
  refine b_get hM (hW.at_ a) 2 3 ha rfl rfl (by decide) wi_X3 (wgm fk_RX3_21) (x := .ref (a + 4)) rfl dX3_clear_15 ?_
  refine lv_iconst (v := (0 : Int32)) hx hb dX3_clear_18 (by decide) ?_
  refine lv_iconst (v := (0 : Int32)) hx hb dX3_clear_19 (by decide) ?_
  refine s_iast (n := 8) hM hW 2 3 ha (by decide) rfl rfl rfl rfl (by decide) dX3_clear_20 (fun S3 eS3 hk H locs hW => ?_)
  have hf := nm_at eS3 hf
  have ha := keep1 hk ha
  have hK0 := keep_tr hK0 hk
  refine lv_aload_n hx hb dX3_clear_21 rfl (lv_at hl 0 rfl) ?_
  refine b_get hM (hW.at_ a) 2 2 ha rfl rfl (by decide) wi_X3 (wgm fk_RX3_18) (x := .ref (a + 3)) rfl dX3_clear_22 ?_
  refine lv_iconst (v := (0 : Int32)) hx hb dX3_clear_25 (by decide) ?_
  refine lv_iconst (v := (-1 : Int32)) hx hb dX3_clear_26 (by decide) ?_
  refine s_iast (n := 8) hM hW 2 2 ha (by decide) rfl rfl rfl rfl (by decide) dX3_clear_27 (fun S4 eS4 hk H locs hW => ?_)
  have hf := nm_at eS4 hf
  have ha := keep1 hk ha
  have hK0 := keep_tr hK0 hk
  refine lv_aload_n hx hb dX3_clear_28 rfl (lv_at hl 0 rfl) ?_
  refine b_get hM (hW.at_ a) 2 4 ha rfl rfl (by decide) wi_X3 (wgm fk_RX3_24) (x := .ref (a + 5)) rfl dX3_clear_29 ?_
  refine lv_iconst (v := (0 : Int32)) hx hb dX3_clear_32 (by decide) ?_
  refine lv_iconst (v := (5 : Int32)) hx hb dX3_clear_33 (by decide) ?_
  refine s_iast (n := 8) hM hW 2 4 ha (by decide) rfl rfl rfl rfl (by decide) dX3_clear_34 (fun S5 eS5 hk H locs hW => ?_)
  have hf := nm_at eS5 hf
  have ha := keep1 hk ha
  have hK0 := keep_tr hK0 hk
  refine lv_aload_n hx hb dX3_clear_35 rfl (lv_at hl 0 rfl) ?_
  refine b_get hM (hW.at_ a) 2 5 ha rfl rfl (by decide) wi_X3 (wgm fk_RX3_27) (x := .ref (a + 6)) rfl dX3_clear_36 ?_
  refine lv_iconst (v := (0 : Int32)) hx hb dX3_clear_39 (by decide) ?_
  refine s_callSv [.ref (a + 6), .int (0 : Int32)] [] hM hml hl.1 hW (Ct_self (c_fill l G _ a _ _ 2 5 ha (by decide) rfl rfl rfl (show (5 : Nat) < 2 ^ 31 by decide) rfl)) (va_cwS 2 hM.2.2.2.1 (gS mk_RX3_55 sm_J7_fill_53178 it_RJ7 cd_J7_fill_53178) rfl rfl rfl (by decide +kernel) ⟨Nat.le_of_ble_eq_true rfl, Nat.le_of_ble_eq_true rfl⟩) rfl rfl (Nat.le_of_ble_eq_true rfl) ⟨Nat.zero_le _, Nat.zero_le _⟩ dX3_clear_40 (fun H locs hW hk => ?_)
  obtain ⟨S6, eS6⟩ : ∃ y : ST, y = st S5 a (sAf (S5 a) 5 (flA (gA (S5 a) 5) 5 (0 : Int32))) := ⟨_, rfl⟩
  rw [show alen 2 5 (S5 a) = 5 from rfl, ← eS6] at hW hk
  have hf := nm_at eS6 hf
  have ha := keep1 hk ha
  have hK0 := keep_tr hK0 hk
  refine lv_aload_n hx hb dX3_clear_43 rfl (lv_at hl 0 rfl) ?_
  refine lv_iconst (v := (0 : Int32)) hx hb dX3_clear_44 (by decide) ?_
  refine s_putI hM hW 2 6 ha rfl rfl (by decide) wi_X3 tyX3 tyX3_ok nmX3 (wgm fk_RX3_30) rfl rfl rfl dX3_clear_45 (fun S7 eS7 hk H locs hW => ?_)
  have hf := nm_at eS7 hf
  have ha := keep1 hk ha
  have hK0 := keep_tr hK0 hk
  refine lv_aload_n hx hb dX3_clear_48 rfl (lv_at hl 0 rfl) ?_
  refine lv_iconst (v := (1 : Int32)) hx hb dX3_clear_49 (by decide) ?_
  refine s_putI hM hW 2 7 ha rfl rfl (by decide) wi_X3 tyX3 tyX3_ok nmX3 (wgm fk_RX3_34) rfl rfl rfl dX3_clear_50 (fun S8 eS8 hk H locs hW => ?_)
  have hf := nm_at eS8 hf
  have ha := keep1 hk ha
  have hK0 := keep_tr hK0 hk
  refine lv_aload_n hx hb dX3_clear_53 rfl (lv_at hl 0 rfl) ?_
  refine lv_iconst (v := (0 : Int32)) hx hb dX3_clear_54 (by decide) ?_
  refine s_putI hM hW 2 8 ha rfl rfl (by decide) wi_X3 tyX3 tyX3_ok nmX3 (wgm fk_RX3_37) rfl rfl rfl dX3_clear_55 (fun S9 eS9 hk H locs hW => ?_)
  have hf := nm_at eS9 hf
  have ha := keep1 hk ha
  have hK0 := keep_tr hK0 hk
  refine lv_aload_n hx hb dX3_clear_58 rfl (lv_at hl 0 rfl) ?_
  refine lv_iconst (v := (0 : Int32)) hx hb dX3_clear_59 (by decide) ?_
  refine s_putI hM hW 2 9 ha rfl rfl (by decide) wi_X3 tyX3 tyX3_ok nmX3 (wgm fk_RX3_40) rfl rfl rfl dX3_clear_60 (fun S10 eS10 hk H locs hW => ?_)
  have hf := nm_at eS10 hf
  have ha := keep1 hk ha
  have hK0 := keep_tr hK0 hk
  refine lv_aload_n hx hb dX3_clear_63 rfl (lv_at hl 0 rfl) ?_
  refine lv_iconst (v := (0 : Int32)) hx hb dX3_clear_64 (by decide) ?_
  refine s_putI hM hW 2 10 ha rfl rfl (by decide) wi_X3 tyX3 tyX3_ok nmX3 (wgm fk_RX3_43) rfl rfl rfl dX3_clear_65 (fun S11 eS11 hk H locs hW => ?_)
  have hf := nm_at eS11 hf
  have ha := keep1 hk ha
  have hK0 := keep_tr hK0 hk
  refine lv_aload_n hx hb dX3_clear_68 rfl (lv_at hl 0 rfl) ?_
  refine lv_iconst (v := (0 : Int32)) hx hb dX3_clear_69 (by decide) ?_
  refine s_putI hM hW 2 11 ha rfl rfl (by decide) wi_X3 tyX3 tyX3_ok nmX3 (wgm fk_RX3_46) rfl rfl rfl dX3_clear_70 (fun S12 eS12 hk H locs hW => ?_)
  have hf := nm_at eS12 hf
  have ha := keep1 hk ha
  have hK0 := keep_tr hK0 hk
  refine lv_aload_n hx hb dX3_clear_73 rfl (lv_at hl 0 rfl) ?_
  refine lv_iconst (v := (0 : Int32)) hx hb dX3_clear_74 (by decide) ?_
  refine s_putI hM hW 2 12 ha rfl rfl (by decide) wi_X3 tyX3 tyX3_ok nmX3 (wgm fk_RX3_49) rfl rfl rfl dX3_clear_75 (fun S13 eS13 hk H locs hW => ?_)
  have hf := nm_at eS13 hf
  have ha := keep1 hk ha
  have hK0 := keep_tr hK0 hk
  cases hf
  exact W.vret hx hb hr (b_ret0 hW hK0 _) hW.2.2.2 dX3_clear_78 hlk
noncomputable def f_X3_clear (fu : Nat) (S : ST) (a : Nat) : Option (ST) := f_X3_clear_0 fu S a
set_option maxHeartbeats 4000000 in
set_option maxRecDepth 100000 in
theorem c_X3_clear (l : Launch) (G : GG) (fu : Nat) (S : ST) (a : Nat) {z : ST} (ha : gC (S a) = 3) (hf : f_X3_clear fu S a = some z) : Ct l yX3_clear w_X3_clear RM_X3_clear G S [.ref a] none z 0 0 := by
  refine Met.ofW (cc := cX3_clear) (maxL := 1) (ret := none) (by decide) rfl ?_
  intro p e s m args below meth c s₁ B hml hv
  obtain ⟨rfl, hB, hK, hz⟩ := hv
  have hM : MC G p s m _ c cX3_clear w_X3_clear RX3 := ⟨B.exec, B.bytes, findClass_of_methodNamed B.named, atoms_spec (ws := w_X3_clear) B.pre, hK, hz⟩
  have hW : WB G S s s.heap [] := ⟨hB, va_S.rf⟩
  have hl := lv_entry ([.ref a]) (n := 1) (Nat.le_of_ble_eq_true rfl)
  rw [lg_entry_eq]
  generalize (lg_sl ([.ref a]) ++ List.replicate (1 - (lg_sl ([.ref a])).length) Slot.unset).toArray = ls at hl ⊢
  have hl : lv_has ls 1 [(0, .ref a)] := hl
  exact t_X3_clear_0 (fu := fu) hM hml B.returns B.notSynchronized hf ha (fun _ _ => rfl) _ _ hW _ (lv_sub hl [0] rfl)
abbrev RM_X1_clear : Room := { frames := 2, cells := 0, slots := 0, locals := 43 }
abbrev w_X1_clear : List Cond := Cond.code yX1_clear cX1_clear 1 none :: wsL_law0
noncomputable def f_X1_clear_0 (fu : Nat)  (S : ST) (a : Nat) : Option (ST) :=
  nm (st S a (sI (S a) 8 (0 : Int32))) fun S1 =>
  nm (st S1 a (sI (S1 a) 9 (0 : Int32))) fun S2 =>
  nm (st S2 a (sI (S2 a) 10 (0 : Int32))) fun S3 =>
  nm (st S3 a (sR (S3 a) 11 none)) fun S4 =>
  nm (st S4 a (sR (S4 a) 12 none)) fun S5 =>
  ck (decide (gC (S5 (a + 8)) = 3)) <|
  bd (f_X3_clear fu S5 (a + 8)) fun S8 =>
  some S8
set_option maxHeartbeats 4000000 in
set_option maxRecDepth 100000 in
theorem t_X1_clear_0 {G : GG} {p : Program} {l : Launch} {e : Env} {s : State} {m : MethodId} {args : Array Value} {below : List Frame} {meth : Method} {c : Code} {S0 : ST} {fu : Nat} {z : ST} {a : Nat}  {S : ST} (hM : MC G p s m args c cX1_clear w_X1_clear RX1) (hml : c.maxLocals = 1) (hr : meth.sig.returnType = none) (hlk : meth.locks = false)   (hf : f_X1_clear_0 fu  S a  = some z) : (gC (S a) = 1) → (∀ b, gC (S0 b) ≠ 0 → gC (S b) = gC (S0 b)) → ∀ (H : Heap) (locs : List Loc), WB G S s H locs → ∀ (ls : Array Slot), lv_has ls 1 [(0, .ref a)] → W p l e RM_X1_clear s m args below meth c H locs 0 0 (QR G below args s none S0 z) (F0 m 0 ls []) := by
  intro ha hK0 H locs hW ls hl
  have hx := hM.1
  have hb := hM.2.1
  refine lv_aload_n hx hb dX1_clear_0 rfl (lv_at hl 0 rfl) ?_
  refine lv_iconst (v := (0 : Int32)) hx hb dX1_clear_1 (by decide) ?_
  refine s_putI hM hW 0 8 ha rfl rfl (by decide) wi_X1 tyX1 tyX1_ok nmX1 (wgm fk_RX1_41) rfl rfl rfl dX1_clear_2 (fun S1 eS1 hk H locs hW => ?_)
  have hf := nm_at eS1 hf
  have ha := keep1 hk ha
  have hK0 := keep_tr hK0 hk
  refine lv_aload_n hx hb dX1_clear_5 rfl (lv_at hl 0 rfl) ?_
  refine lv_iconst (v := (0 : Int32)) hx hb dX1_clear_6 (by decide) ?_
  refine s_putI hM hW 0 9 ha rfl rfl (by decide) wi_X1 tyX1 tyX1_ok nmX1 (wgm fk_RX1_45) rfl rfl rfl dX1_clear_7 (fun S2 eS2 hk H locs hW => ?_)
  have hf := nm_at eS2 hf
  have ha := keep1 hk ha
  have hK0 := keep_tr hK0 hk
  refine lv_aload_n hx hb dX1_clear_10 rfl (lv_at hl 0 rfl) ?_
  refine lv_iconst (v := (0 : Int32)) hx hb dX1_clear_11 (by decide) ?_
  refine s_putI hM hW 0 10 ha rfl rfl (by decide) wi_X1 tyX1 tyX1_ok nmX1 (wgm fk_RX1_48) rfl rfl rfl dX1_clear_12 (fun S3 eS3 hk H locs hW => ?_)
  have hf := nm_at eS3 hf
  have ha := keep1 hk ha
  have hK0 := keep_tr hK0 hk
  refine lv_aload_n hx hb dX1_clear_15 rfl (lv_at hl 0 rfl) ?_
  refine lv_null hx hb dX1_clear_16 ?_
  refine s_putR hM hW 0 11 ha rfl rfl (by decide) wi_X1 tyX1 tyX1_ok nmX1 (wgm fk_RX1_51) rfl rfl _ rfl none rfl dX1_clear_17 (fun S4 eS4 hk H locs hW => ?_)
  have hf := nm_at eS4 hf
  have ha := keep1 hk ha
  have hK0 := keep_tr hK0 hk
  refine lv_aload_n hx hb dX1_clear_20 rfl (lv_at hl 0 rfl) ?_
  refine lv_null hx hb dX1_clear_21 ?_
  refine s_putR hM hW 0 12 ha rfl rfl (by decide) wi_X1 tyX1 tyX1_ok nmX1 (wgm fk_RX1_55) rfl rfl _ rfl none rfl dX1_clear_22 (fun S5 eS5 hk H locs hW => ?_)
  have hf := nm_at eS5 hf
  have ha := keep1 hk ha
  have hK0 := keep_tr hK0 hk
  refine lv_aload_n hx hb dX1_clear_25 rfl (lv_at hl 0 rfl) ?_
  refine b_get hM (hW.at_ a) 0 7 ha rfl rfl (by decide) wi_X1 (wgm fk_RX1_37) (x := .ref (a + 8)) rfl dX1_clear_26 ?_
  obtain ⟨h6, hf⟩ := ck_elim hf
  have h6 := of_decide_eq_true h6
  obtain ⟨S8, hr7, hf⟩ := bd_elim hf
  refine s_callVv [] [] hM hml hl.1 hW h6 rfl (by decide) (c_X3_clear l G fu _ (a + 8) h6 hr7) (cwV 0 hM.2.2.2.1 (gV mk_RX1_58 im_X3_clear se_X3_clear it_RX3 cd_X3_clear) rfl rfl rfl (by decide +kernel) ⟨Nat.le_of_ble_eq_true rfl, Nat.le_of_ble_eq_true rfl⟩) rfl rfl (Nat.le_of_ble_eq_true rfl) ⟨Nat.zero_le _, Nat.zero_le _⟩ dX1_clear_29 (fun H locs hW hk => ?_)
  have ha := keep1 hk ha
  have h6 := keep1 hk h6
  have hK0 := keep_tr hK0 hk
  cases hf
  exact W.vret hx hb hr (b_ret0 hW hK0 _) hW.2.2.2 dX1_clear_32 hlk
noncomputable def f_X1_clear (fu : Nat) (S : ST) (a : Nat) : Option (ST) := f_X1_clear_0 fu S a
set_option maxHeartbeats 4000000 in
set_option maxRecDepth 100000 in
theorem c_X1_clear (l : Launch) (G : GG) (fu : Nat) (S : ST) (a : Nat) {z : ST} (ha : gC (S a) = 1) (hf : f_X1_clear fu S a = some z) : Ct l yX1_clear w_X1_clear RM_X1_clear G S [.ref a] none z 0 0 := by
  refine Met.ofW (cc := cX1_clear) (maxL := 1) (ret := none) (by decide) rfl ?_
  intro p e s m args below meth c s₁ B hml hv
  obtain ⟨rfl, hB, hK, hz⟩ := hv
  have hM : MC G p s m _ c cX1_clear w_X1_clear RX1 := ⟨B.exec, B.bytes, findClass_of_methodNamed B.named, atoms_spec (ws := w_X1_clear) B.pre, hK, hz⟩
  have hW : WB G S s s.heap [] := ⟨hB, va_S.rf⟩
  have hl := lv_entry ([.ref a]) (n := 1) (Nat.le_of_ble_eq_true rfl)
  rw [lg_entry_eq]
  generalize (lg_sl ([.ref a]) ++ List.replicate (1 - (lg_sl ([.ref a])).length) Slot.unset).toArray = ls at hl ⊢
  have hl : lv_has ls 1 [(0, .ref a)] := hl
  exact t_X1_clear_0 (fu := fu) hM hml B.returns B.notSynchronized hf ha (fun _ _ => rfl) _ _ hW _ (lv_sub hl [0] rfl)
abbrev RM_X1_hasSpot : Room := { frames := 0, cells := 0, slots := 0, locals := 0 }
abbrev w_X1_hasSpot : List Cond := Cond.code yX1_hasSpot cX1_hasSpot 2 (some .boolean) :: wsL_law0
noncomputable def f_X1_hasSpot_16 (fu : Nat)  (v : GV) : Option (Int32) :=
  some ((0 : Int32))
set_option maxHeartbeats 4000000 in
set_option maxRecDepth 100000 in
theorem t_X1_hasSpot_16 {G : GG} {p : Program} {l : Launch} {e : Env} {s : State} {m : MethodId} {args : Array Value} {below : List Frame} {meth : Method} {c : Code} {S : ST} {fu : Nat} {z : Int32} {a : Nat} {v : GV}  (hM : MC G p s m args c cX1_hasSpot w_X1_hasSpot RX1) (hml : c.maxLocals = 2) (hr : meth.sig.returnType = (some .boolean)) (hlk : meth.locks = false) (hc0 : gC v = 1)  (hf : f_X1_hasSpot_16 fu  v   = some z) : ∀ (H : Heap) (locs : List Loc), WB G (st S a v) s H locs → ∀ (ls : Array Slot), lv_has ls 2 [] → W p l e RM_X1_hasSpot s m args below meth c H locs 0 0 (QR G below args s (some (.int z)) (st S a v) (st S a v)) (F0 m 16 ls []) := by
  intro  H locs hW ls hl
  have hx := hM.1
  have hb := hM.2.1
  have hc := hc0
  refine lv_iconst (v := (0 : Int32)) hx hb dX1_hasSpot_16 (by decide) ?_
  cases hf
  exact W.zret (v := (0 : Int32)) hx hb hr (by decide) (b_ret0 hW (fun _ _ => rfl) _) hW.2.2.2 dX1_hasSpot_17 hlk
noncomputable def f_X1_hasSpot_0 (fu : Nat)  (v : GV) (x1 : Int32) : Option (Int32) :=
  if x1 < 0 then
    (f_X1_hasSpot_16 fu v)
  else
    (if (gI v 8) ≤ x1 then
      (f_X1_hasSpot_16 fu v)
    else
      (some ((1 : Int32))))
set_option maxHeartbeats 4000000 in
set_option maxRecDepth 100000 in
theorem t_X1_hasSpot_0 {G : GG} {p : Program} {l : Launch} {e : Env} {s : State} {m : MethodId} {args : Array Value} {below : List Frame} {meth : Method} {c : Code} {S : ST} {fu : Nat} {z : Int32} {a : Nat} {v : GV}  {x1 : Int32} (hM : MC G p s m args c cX1_hasSpot w_X1_hasSpot RX1) (hml : c.maxLocals = 2) (hr : meth.sig.returnType = (some .boolean)) (hlk : meth.locks = false) (hc0 : gC v = 1)  (hf : f_X1_hasSpot_0 fu  v  x1 = some z) : ∀ (H : Heap) (locs : List Loc), WB G (st S a v) s H locs → ∀ (ls : Array Slot), lv_has ls 2 [(0, .ref a), (1, .int x1)] → W p l e RM_X1_hasSpot s m args below meth c H locs 0 0 (QR G below args s (some (.int z)) (st S a v) (st S a v)) (F0 m 0 ls []) := by
  intro  H locs hW ls hl
  have hx := hM.1
  have hb := hM.2.1
  have hc := hc0
  refine lv_iload_n hx hb dX1_hasSpot_0 rfl (lv_at hl 1 rfl) ?_
  refine lv_if_lt (tgt := 16) hx hb dX1_hasSpot_1 (by decide) (fun c1 => ?_) (fun c1 => ?_)
  · have hf := if_t c1 hf
    exact t_X1_hasSpot_16 (fu := fu) hM hml hr hlk hc0 hf _ _ hW _ (lv_sub hl [] rfl)
  · have hf := if_f c1 hf
    refine lv_iload_n hx hb dX1_hasSpot_4 rfl (lv_at hl 1 rfl) ?_
    refine lv_aload_n hx hb dX1_hasSpot_5 rfl (lv_at hl 0 rfl) ?_
    refine b_get hM hW 0 8 hc rfl rfl (by decide) wi_X1 (wgm fk_RX1_41) (x := .int (gI v 8)) rfl dX1_hasSpot_6 ?_
    refine lv_icmp_ge (tgt := 16) hx hb dX1_hasSpot_9 (by decide) (fun c2 => ?_) (fun c2 => ?_)
    · have hf := if_t c2 hf
      exact t_X1_hasSpot_16 (fu := fu) hM hml hr hlk hc0 hf _ _ hW _ (lv_sub hl [] rfl)
    · have hf := if_f c2 hf
      refine lv_iconst (v := (1 : Int32)) hx hb dX1_hasSpot_12 (by decide) ?_
      refine lv_goto (tgt := 17) hx hb dX1_hasSpot_13 (by decide) ?_
      cases hf
      exact W.zret (v := (1 : Int32)) hx hb hr (by decide) (b_ret0 hW (fun _ _ => rfl) _) hW.2.2.2 dX1_hasSpot_17 hlk
noncomputable def f_X1_hasSpot (fu : Nat) (v : GV) (x1 : Int32) : Option (Int32) := f_X1_hasSpot_0 fu v x1
set_option maxHeartbeats 4000000 in
set_option maxRecDepth 100000 in
theorem c_X1_hasSpot (l : Launch) (G : GG) (fu : Nat) (S : ST) (a : Nat) (v : GV) (x1 : Int32) {z : Int32} (hc : gC v = 1) (hf : f_X1_hasSpot fu v x1 = some z) : Ct l yX1_hasSpot w_X1_hasSpot RM_X1_hasSpot G (st S a v) [.ref a, .int x1] (some (.int z)) (st S a v) 0 0 := by
  refine Met.ofW (cc := cX1_hasSpot) (maxL := 2) (ret := (some .boolean)) (by decide) rfl ?_
  intro p e s m args below meth c s₁ B hml hv
  obtain ⟨rfl, hB, hK, hz⟩ := hv
  have hM : MC G p s m _ c cX1_hasSpot w_X1_hasSpot RX1 := ⟨B.exec, B.bytes, findClass_of_methodNamed B.named, atoms_spec (ws := w_X1_hasSpot) B.pre, hK, hz⟩
  have hW : WB G (st S a v) s s.heap [] := ⟨hB, va_S.rf⟩
  have hl := lv_entry ([.ref a, .int x1]) (n := 2) (Nat.le_of_ble_eq_true rfl)
  rw [lg_entry_eq]
  generalize (lg_sl ([.ref a, .int x1]) ++ List.replicate (2 - (lg_sl ([.ref a, .int x1])).length) Slot.unset).toArray = ls at hl ⊢
  have hl : lv_has ls 2 [(0, .ref a), (1, .int x1)] := hl
  exact t_X1_hasSpot_0 (fu := fu) hM hml B.returns B.notSynchronized hc hf _ _ hW _ (lv_sub hl [0, 1] rfl)
abbrev RM_X1_hasThief : Room := { frames := 0, cells := 0, slots := 0, locals := 0 }
abbrev w_X1_hasThief : List Cond := Cond.code yX1_hasThief cX1_hasThief 2 (some .boolean) :: wsL_law0
noncomputable def f_X1_hasThief_16 (fu : Nat)  (v : GV) : Option (Int32) :=
  some ((0 : Int32))
set_option maxHeartbeats 4000000 in
set_option maxRecDepth 100000 in
theorem t_X1_hasThief_16 {G : GG} {p : Program} {l : Launch} {e : Env} {s : State} {m : MethodId} {args : Array Value} {below : List Frame} {meth : Method} {c : Code} {S : ST} {fu : Nat} {z : Int32} {a : Nat} {v : GV}  (hM : MC G p s m args c cX1_hasThief w_X1_hasThief RX1) (hml : c.maxLocals = 2) (hr : meth.sig.returnType = (some .boolean)) (hlk : meth.locks = false) (hc0 : gC v = 1)  (hf : f_X1_hasThief_16 fu  v   = some z) : ∀ (H : Heap) (locs : List Loc), WB G (st S a v) s H locs → ∀ (ls : Array Slot), lv_has ls 2 [] → W p l e RM_X1_hasThief s m args below meth c H locs 0 0 (QR G below args s (some (.int z)) (st S a v) (st S a v)) (F0 m 16 ls []) := by
  intro  H locs hW ls hl
  have hx := hM.1
  have hb := hM.2.1
  have hc := hc0
  refine lv_iconst (v := (0 : Int32)) hx hb dX1_hasThief_16 (by decide) ?_
  cases hf
  exact W.zret (v := (0 : Int32)) hx hb hr (by decide) (b_ret0 hW (fun _ _ => rfl) _) hW.2.2.2 dX1_hasThief_17 hlk
noncomputable def f_X1_hasThief_0 (fu : Nat)  (v : GV) (x1 : Int32) : Option (Int32) :=
  if x1 < 0 then
    (f_X1_hasThief_16 fu v)
  else
    (if (gI v 9) ≤ x1 then
      (f_X1_hasThief_16 fu v)
    else
      (some ((1 : Int32))))
set_option maxHeartbeats 4000000 in
set_option maxRecDepth 100000 in
theorem t_X1_hasThief_0 {G : GG} {p : Program} {l : Launch} {e : Env} {s : State} {m : MethodId} {args : Array Value} {below : List Frame} {meth : Method} {c : Code} {S : ST} {fu : Nat} {z : Int32} {a : Nat} {v : GV}  {x1 : Int32} (hM : MC G p s m args c cX1_hasThief w_X1_hasThief RX1) (hml : c.maxLocals = 2) (hr : meth.sig.returnType = (some .boolean)) (hlk : meth.locks = false) (hc0 : gC v = 1)  (hf : f_X1_hasThief_0 fu  v  x1 = some z) : ∀ (H : Heap) (locs : List Loc), WB G (st S a v) s H locs → ∀ (ls : Array Slot), lv_has ls 2 [(0, .ref a), (1, .int x1)] → W p l e RM_X1_hasThief s m args below meth c H locs 0 0 (QR G below args s (some (.int z)) (st S a v) (st S a v)) (F0 m 0 ls []) := by
  intro  H locs hW ls hl
  have hx := hM.1
  have hb := hM.2.1
  have hc := hc0
  refine lv_iload_n hx hb dX1_hasThief_0 rfl (lv_at hl 1 rfl) ?_
  refine lv_if_lt (tgt := 16) hx hb dX1_hasThief_1 (by decide) (fun c1 => ?_) (fun c1 => ?_)
  · have hf := if_t c1 hf
    exact t_X1_hasThief_16 (fu := fu) hM hml hr hlk hc0 hf _ _ hW _ (lv_sub hl [] rfl)
  · have hf := if_f c1 hf
    refine lv_iload_n hx hb dX1_hasThief_4 rfl (lv_at hl 1 rfl) ?_
    refine lv_aload_n hx hb dX1_hasThief_5 rfl (lv_at hl 0 rfl) ?_
    refine b_get hM hW 0 9 hc rfl rfl (by decide) wi_X1 (wgm fk_RX1_45) (x := .int (gI v 9)) rfl dX1_hasThief_6 ?_
    refine lv_icmp_ge (tgt := 16) hx hb dX1_hasThief_9 (by decide) (fun c2 => ?_) (fun c2 => ?_)
    · have hf := if_t c2 hf
      exact t_X1_hasThief_16 (fu := fu) hM hml hr hlk hc0 hf _ _ hW _ (lv_sub hl [] rfl)
    · have hf := if_f c2 hf
      refine lv_iconst (v := (1 : Int32)) hx hb dX1_hasThief_12 (by decide) ?_
      refine lv_goto (tgt := 17) hx hb dX1_hasThief_13 (by decide) ?_
      cases hf
      exact W.zret (v := (1 : Int32)) hx hb hr (by decide) (b_ret0 hW (fun _ _ => rfl) _) hW.2.2.2 dX1_hasThief_17 hlk
noncomputable def f_X1_hasThief (fu : Nat) (v : GV) (x1 : Int32) : Option (Int32) := f_X1_hasThief_0 fu v x1
set_option maxHeartbeats 4000000 in
set_option maxRecDepth 100000 in
theorem c_X1_hasThief (l : Launch) (G : GG) (fu : Nat) (S : ST) (a : Nat) (v : GV) (x1 : Int32) {z : Int32} (hc : gC v = 1) (hf : f_X1_hasThief fu v x1 = some z) : Ct l yX1_hasThief w_X1_hasThief RM_X1_hasThief G (st S a v) [.ref a, .int x1] (some (.int z)) (st S a v) 0 0 := by
  refine Met.ofW (cc := cX1_hasThief) (maxL := 2) (ret := (some .boolean)) (by decide) rfl ?_
  intro p e s m args below meth c s₁ B hml hv
  obtain ⟨rfl, hB, hK, hz⟩ := hv
  have hM : MC G p s m _ c cX1_hasThief w_X1_hasThief RX1 := ⟨B.exec, B.bytes, findClass_of_methodNamed B.named, atoms_spec (ws := w_X1_hasThief) B.pre, hK, hz⟩
  have hW : WB G (st S a v) s s.heap [] := ⟨hB, va_S.rf⟩
  have hl := lv_entry ([.ref a, .int x1]) (n := 2) (Nat.le_of_ble_eq_true rfl)
  rw [lg_entry_eq]
  generalize (lg_sl ([.ref a, .int x1]) ++ List.replicate (2 - (lg_sl ([.ref a, .int x1])).length) Slot.unset).toArray = ls at hl ⊢
  have hl : lv_has ls 2 [(0, .ref a), (1, .int x1)] := hl
  exact t_X1_hasThief_0 (fu := fu) hM hml B.returns B.notSynchronized hc hf _ _ hW _ (lv_sub hl [0, 1] rfl)
abbrev RM_X1_addSpot : Room := { frames := 0, cells := 0, slots := 0, locals := 0 }
abbrev w_X1_addSpot : List Cond := Cond.code yX1_addSpot cX1_addSpot 3 none :: wsL_law0
noncomputable def f_X1_addSpot_0 (fu : Nat)  (v : GV) (x1 : Int64) : Option (GV) :=
  if (8 : Int32) ≤ (gI v 8) then
    (some v)
  else
    (ck (inb (gI v 8) 8) <|
    nm (sL v 0 (gI v 8).toNatClampNeg x1) fun v3 =>
    nm (sI v3 8 ((gI v3 8) + (1 : Int32))) fun v4 =>
    some v4)
set_option maxHeartbeats 4000000 in
set_option maxRecDepth 100000 in
theorem t_X1_addSpot_0 {G : GG} {p : Program} {l : Launch} {e : Env} {s : State} {m : MethodId} {args : Array Value} {below : List Frame} {meth : Method} {c : Code} {S : ST} {fu : Nat} {z : GV} {a : Nat} {v0 : GV}  {v : GV} {x1 : Int64} (hM : MC G p s m args c cX1_addSpot w_X1_addSpot RX1) (hml : c.maxLocals = 3) (hr : meth.sig.returnType = none) (hlk : meth.locks = false) (hc0 : gC v0 = 1)  (hf : f_X1_addSpot_0 fu  v  x1 = some z) : (gC v = 1) → ∀ (H : Heap) (locs : List Loc), WB G (st S a v) s H locs → ∀ (ls : Array Slot), lv_has ls 3 [(0, .ref a), (1, .long x1)] → W p l e RM_X1_addSpot s m args below meth c H locs 0 0 (QR G below args s none (st S a v0) (st S a z)) (F0 m 0 ls []) := by
  intro hc H locs hW ls hl
  have hx := hM.1
  have hb := hM.2.1
  refine lv_aload_n hx hb dX1_addSpot_0 rfl (lv_at hl 0 rfl) ?_
  refine b_get hM hW 0 8 hc rfl rfl (by decide) wi_X1 (wgm fk_RX1_41) (x := .int (gI v 8)) rfl dX1_addSpot_1 ?_
  refine lv_bipush (v := (8 : Int32)) hx hb dX1_addSpot_4 (by decide) ?_
  refine lv_icmp_ge (tgt := 29) hx hb dX1_addSpot_6 (by decide) (fun c1 => ?_) (fun c1 => ?_)
  · have hf := if_t c1 hf
    cases hf
    exact W.vret hx hb hr (b_ret0 hW (keep_s2 hc0 hc) _) hW.2.2.2 dX1_addSpot_29 hlk
  · have hf := if_f c1 hf
    refine lv_aload_n hx hb dX1_addSpot_9 rfl (lv_at hl 0 rfl) ?_
    refine b_get hM hW 0 0 hc rfl rfl (by decide) wi_X1 (wgm fk_RX1_9) (x := .ref (a + 1)) rfl dX1_addSpot_10 ?_
    refine lv_aload_n hx hb dX1_addSpot_13 rfl (lv_at hl 0 rfl) ?_
    refine b_get hM hW 0 8 hc rfl rfl (by decide) wi_X1 (wgm fk_RX1_41) (x := .int (gI v 8)) rfl dX1_addSpot_14 ?_
    refine lv_lload_n hx hb dX1_addSpot_17 rfl (lv_at hl 1 rfl) ?_
    obtain ⟨h2, hf⟩ := ck_elim hf
    refine b_last (n := 8) hM hW 0 0 hc (by decide) rfl rfl rfl rfl h2 dX1_addSpot_18 (fun v3 ev3 hc H locs hW => ?_)
    have hf := nm_at ev3 hf
    refine lv_aload_n hx hb dX1_addSpot_19 rfl (lv_at hl 0 rfl) ?_
    refine lv_dup hx hb dX1_addSpot_20 rfl ?_
    refine b_get hM hW 0 8 hc rfl rfl (by decide) wi_X1 (wgm fk_RX1_41) (x := .int (gI v3 8)) rfl dX1_addSpot_21 ?_
    refine lv_iconst (v := (1 : Int32)) hx hb dX1_addSpot_24 (by decide) ?_
    refine lv_iadd hx hb dX1_addSpot_25 ?_
    refine b_putI hM hW 0 8 hc rfl rfl (by decide) wi_X1 tyX1 tyX1_ok nmX1 (wgm fk_RX1_41) rfl rfl rfl dX1_addSpot_26 (fun v4 ev4 hc H locs hW => ?_)
    have hf := nm_at ev4 hf
    cases hf
    exact W.vret hx hb hr (b_ret0 hW (keep_s2 hc0 hc) _) hW.2.2.2 dX1_addSpot_29 hlk
noncomputable def f_X1_addSpot (fu : Nat) (v : GV) (x1 : Int64) : Option (GV) := f_X1_addSpot_0 fu v x1
set_option maxHeartbeats 4000000 in
set_option maxRecDepth 100000 in
theorem c_X1_addSpot (l : Launch) (G : GG) (fu : Nat) (S : ST) (a : Nat) (v : GV) (x1 : Int64) {z : GV} (hc : gC v = 1) (hf : f_X1_addSpot fu v x1 = some z) : Ct l yX1_addSpot w_X1_addSpot RM_X1_addSpot G (st S a v) [.ref a, .long x1] none (st S a z) 0 0 := by
  refine Met.ofW (cc := cX1_addSpot) (maxL := 3) (ret := none) (by decide) rfl ?_
  intro p e s m args below meth c s₁ B hml hv
  obtain ⟨rfl, hB, hK, hz⟩ := hv
  have hM : MC G p s m _ c cX1_addSpot w_X1_addSpot RX1 := ⟨B.exec, B.bytes, findClass_of_methodNamed B.named, atoms_spec (ws := w_X1_addSpot) B.pre, hK, hz⟩
  have hW : WB G (st S a v) s s.heap [] := ⟨hB, va_S.rf⟩
  have hl := lv_entry ([.ref a, .long x1]) (n := 3) (Nat.le_of_ble_eq_true rfl)
  rw [lg_entry_eq]
  generalize (lg_sl ([.ref a, .long x1]) ++ List.replicate (3 - (lg_sl ([.ref a, .long x1])).length) Slot.unset).toArray = ls at hl ⊢
  have hl : lv_has ls 3 [(0, .ref a), (1, .long x1)] := hl
  exact t_X1_addSpot_0 (fu := fu) hM hml B.returns B.notSynchronized hc hf hc _ _ hW _ (lv_sub hl [0, 1] rfl)
abbrev RM_X1_addThief : Room := { frames := 0, cells := 0, slots := 0, locals := 0 }
abbrev w_X1_addThief : List Cond := Cond.code yX1_addThief cX1_addThief 7 none :: wsL_law0
noncomputable def f_X1_addThief_0 (fu : Nat)  (S : ST) (a : Nat) (x1 : Int64) (x3 : Int32) (x4 : Int32) (x5 : Int32) (x6 : Int32) : Option (ST) :=
  if (5 : Int32) ≤ (gI (S a) 9) then
    (some S)
  else
    (ck (inb (gI (S a) 9) 5) <|
    nm (st S a (sL (S a) 1 (gI (S a) 9).toNatClampNeg x1)) fun S3 =>
    ck (inb (gI (S3 a) 9) 5) <|
    nm (st S3 a (sA (S3 a) 3 (gI (S3 a) 9).toNatClampNeg x3)) fun S5 =>
    ck (inb (gI (S5 a) 9) 5) <|
    nm (st S5 a (sA (S5 a) 4 (gI (S5 a) 9).toNatClampNeg x4)) fun S7 =>
    ck (inb (gI (S7 a) 9) 5) <|
    nm (st S7 a (sA (S7 a) 5 (gI (S7 a) 9).toNatClampNeg x6)) fun S9 =>
    ck (decide (gC (S9 (a + 8)) = 3)) <|
    ck (inb (gI (S9 a) 9) 5) <|
    nm (st S9 (a + 8) (sA (S9 (a + 8)) 5 (gI (S9 a) 9).toNatClampNeg x5)) fun S12 =>
    nm (st S12 a (sI (S12 a) 9 ((gI (S12 a) 9) + (1 : Int32)))) fun S13 =>
    some S13)
set_option maxHeartbeats 4000000 in
set_option maxRecDepth 100000 in
theorem t_X1_addThief_0 {G : GG} {p : Program} {l : Launch} {e : Env} {s : State} {m : MethodId} {args : Array Value} {below : List Frame} {meth : Method} {c : Code} {S0 : ST} {fu : Nat} {z : ST} {a : Nat}  {S : ST} {x1 : Int64} {x3 : Int32} {x4 : Int32} {x5 : Int32} {x6 : Int32} (hM : MC G p s m args c cX1_addThief w_X1_addThief RX1) (hml : c.maxLocals = 7) (hr : meth.sig.returnType = none) (hlk : meth.locks = false)   (hf : f_X1_addThief_0 fu  S a x1 x3 x4 x5 x6 = some z) : (gC (S a) = 1) → (∀ b, gC (S0 b) ≠ 0 → gC (S b) = gC (S0 b)) → ∀ (H : Heap) (locs : List Loc), WB G S s H locs → ∀ (ls : Array Slot), lv_has ls 7 [(0, .ref a), (1, .long x1), (3, .int x3), (4, .int x4), (5, .int x5), (6, .int x6)] → W p l e RM_X1_addThief s m args below meth c H locs 0 0 (QR G below args s none S0 z) (F0 m 0 ls []) := by
  intro ha hK0 H locs hW ls hl
  have hx := hM.1
  have hb := hM.2.1
  refine lv_aload_n hx hb dX1_addThief_0 rfl (lv_at hl 0 rfl) ?_
  refine b_get hM (hW.at_ a) 0 9 ha rfl rfl (by decide) wi_X1 (wgm fk_RX1_45) (x := .int (gI (S a) 9)) rfl dX1_addThief_1 ?_
  refine lv_iconst (v := (5 : Int32)) hx hb dX1_addThief_4 (by decide) ?_
  refine lv_icmp_ge (tgt := 74) hx hb dX1_addThief_5 (by decide) (fun c1 => ?_) (fun c1 => ?_)
  · have hf := if_t c1 hf
    cases hf
    exact W.vret hx hb hr (b_ret0 hW hK0 _) hW.2.2.2 dX1_addThief_74 hlk
  · have hf := if_f c1 hf
    refine lv_aload_n hx hb dX1_addThief_8 rfl (lv_at hl 0 rfl) ?_
    refine b_get hM (hW.at_ a) 0 1 ha rfl rfl (by decide) wi_X1 (wgm fk_RX1_15) (x := .ref (a + 2)) rfl dX1_addThief_9 ?_
    refine lv_aload_n hx hb dX1_addThief_12 rfl (lv_at hl 0 rfl) ?_
    refine b_get hM (hW.at_ a) 0 9 ha rfl rfl (by decide) wi_X1 (wgm fk_RX1_45) (x := .int (gI (S a) 9)) rfl dX1_addThief_13 ?_
    refine lv_lload_n hx hb dX1_addThief_16 rfl (lv_at hl 1 rfl) ?_
    obtain ⟨h2, hf⟩ := ck_elim hf
    refine s_last (n := 5) hM hW 0 1 ha (by decide) rfl rfl rfl rfl h2 dX1_addThief_17 (fun S3 eS3 hk H locs hW => ?_)
    have hf := nm_at eS3 hf
    have ha := keep1 hk ha
    have hK0 := keep_tr hK0 hk
    refine lv_aload_n hx hb dX1_addThief_18 rfl (lv_at hl 0 rfl) ?_
    refine b_get hM (hW.at_ a) 0 3 ha rfl rfl (by decide) wi_X1 (wgm fk_RX1_21) (x := .ref (a + 4)) rfl dX1_addThief_19 ?_
    refine lv_aload_n hx hb dX1_addThief_22 rfl (lv_at hl 0 rfl) ?_
    refine b_get hM (hW.at_ a) 0 9 ha rfl rfl (by decide) wi_X1 (wgm fk_RX1_45) (x := .int (gI (S3 a) 9)) rfl dX1_addThief_23 ?_
    refine lv_iload_n hx hb dX1_addThief_26 rfl (lv_at hl 2 rfl) ?_
    obtain ⟨h4, hf⟩ := ck_elim hf
    refine s_iast (n := 5) hM hW 0 3 ha (by decide) rfl rfl rfl rfl h4 dX1_addThief_27 (fun S5 eS5 hk H locs hW => ?_)
    have hf := nm_at eS5 hf
    have ha := keep1 hk ha
    have hK0 := keep_tr hK0 hk
    refine lv_aload_n hx hb dX1_addThief_28 rfl (lv_at hl 0 rfl) ?_
    refine b_get hM (hW.at_ a) 0 4 ha rfl rfl (by decide) wi_X1 (wgm fk_RX1_25) (x := .ref (a + 5)) rfl dX1_addThief_29 ?_
    refine lv_aload_n hx hb dX1_addThief_32 rfl (lv_at hl 0 rfl) ?_
    refine b_get hM (hW.at_ a) 0 9 ha rfl rfl (by decide) wi_X1 (wgm fk_RX1_45) (x := .int (gI (S5 a) 9)) rfl dX1_addThief_33 ?_
    refine lv_iload hx hb dX1_addThief_36 (lv_at hl 3 rfl) ?_
    obtain ⟨h6, hf⟩ := ck_elim hf
    refine s_iast (n := 5) hM hW 0 4 ha (by decide) rfl rfl rfl rfl h6 dX1_addThief_38 (fun S7 eS7 hk H locs hW => ?_)
    have hf := nm_at eS7 hf
    have ha := keep1 hk ha
    have hK0 := keep_tr hK0 hk
    refine lv_aload_n hx hb dX1_addThief_39 rfl (lv_at hl 0 rfl) ?_
    refine b_get hM (hW.at_ a) 0 5 ha rfl rfl (by decide) wi_X1 (wgm fk_RX1_28) (x := .ref (a + 6)) rfl dX1_addThief_40 ?_
    refine lv_aload_n hx hb dX1_addThief_43 rfl (lv_at hl 0 rfl) ?_
    refine b_get hM (hW.at_ a) 0 9 ha rfl rfl (by decide) wi_X1 (wgm fk_RX1_45) (x := .int (gI (S7 a) 9)) rfl dX1_addThief_44 ?_
    refine lv_iload hx hb dX1_addThief_47 (lv_at hl 5 rfl) ?_
    obtain ⟨h8, hf⟩ := ck_elim hf
    refine s_iast (n := 5) hM hW 0 5 ha (by decide) rfl rfl rfl rfl h8 dX1_addThief_49 (fun S9 eS9 hk H locs hW => ?_)
    have hf := nm_at eS9 hf
    have ha := keep1 hk ha
    have hK0 := keep_tr hK0 hk
    refine lv_aload_n hx hb dX1_addThief_50 rfl (lv_at hl 0 rfl) ?_
    refine b_get hM (hW.at_ a) 0 7 ha rfl rfl (by decide) wi_X1 (wgm fk_RX1_37) (x := .ref (a + 8)) rfl dX1_addThief_51 ?_
    obtain ⟨h10, hf⟩ := ck_elim hf
    have h10 := of_decide_eq_true h10
    refine b_get hM (hW.at_ (a + 8)) 2 5 h10 rfl rfl (by decide) wi_X3 (wgm fk_RX1_61) (x := .ref ((a + 8) + 6)) rfl dX1_addThief_54 ?_
    refine lv_aload_n hx hb dX1_addThief_57 rfl (lv_at hl 0 rfl) ?_
    refine b_get hM (hW.at_ a) 0 9 ha rfl rfl (by decide) wi_X1 (wgm fk_RX1_45) (x := .int (gI (S9 a) 9)) rfl dX1_addThief_58 ?_
    refine lv_iload hx hb dX1_addThief_61 (lv_at hl 4 rfl) ?_
    obtain ⟨h11, hf⟩ := ck_elim hf
    refine s_iast (n := 5) hM hW 2 5 h10 (by decide) rfl rfl rfl rfl h11 dX1_addThief_63 (fun S12 eS12 hk H locs hW => ?_)
    have hf := nm_at eS12 hf
    have ha := keep1 hk ha
    have h10 := keep1 hk h10
    have hK0 := keep_tr hK0 hk
    refine lv_aload_n hx hb dX1_addThief_64 rfl (lv_at hl 0 rfl) ?_
    refine lv_dup hx hb dX1_addThief_65 rfl ?_
    refine b_get hM (hW.at_ a) 0 9 ha rfl rfl (by decide) wi_X1 (wgm fk_RX1_45) (x := .int (gI (S12 a) 9)) rfl dX1_addThief_66 ?_
    refine lv_iconst (v := (1 : Int32)) hx hb dX1_addThief_69 (by decide) ?_
    refine lv_iadd hx hb dX1_addThief_70 ?_
    refine s_putI hM hW 0 9 ha rfl rfl (by decide) wi_X1 tyX1 tyX1_ok nmX1 (wgm fk_RX1_45) rfl rfl rfl dX1_addThief_71 (fun S13 eS13 hk H locs hW => ?_)
    have hf := nm_at eS13 hf
    have ha := keep1 hk ha
    have h10 := keep1 hk h10
    have hK0 := keep_tr hK0 hk
    cases hf
    exact W.vret hx hb hr (b_ret0 hW hK0 _) hW.2.2.2 dX1_addThief_74 hlk
noncomputable def f_X1_addThief (fu : Nat) (S : ST) (a : Nat) (x1 : Int64) (x3 : Int32) (x4 : Int32) (x5 : Int32) (x6 : Int32) : Option (ST) := f_X1_addThief_0 fu S a x1 x3 x4 x5 x6
set_option maxHeartbeats 4000000 in
set_option maxRecDepth 100000 in
theorem c_X1_addThief (l : Launch) (G : GG) (fu : Nat) (S : ST) (a : Nat) (x1 : Int64) (x3 : Int32) (x4 : Int32) (x5 : Int32) (x6 : Int32) {z : ST} (ha : gC (S a) = 1) (hf : f_X1_addThief fu S a x1 x3 x4 x5 x6 = some z) : Ct l yX1_addThief w_X1_addThief RM_X1_addThief G S [.ref a, .long x1, .int x3, .int x4, .int x5, .int x6] none z 0 0 := by
  refine Met.ofW (cc := cX1_addThief) (maxL := 7) (ret := none) (by decide) rfl ?_
  intro p e s m args below meth c s₁ B hml hv
  obtain ⟨rfl, hB, hK, hz⟩ := hv
  have hM : MC G p s m _ c cX1_addThief w_X1_addThief RX1 := ⟨B.exec, B.bytes, findClass_of_methodNamed B.named, atoms_spec (ws := w_X1_addThief) B.pre, hK, hz⟩
  have hW : WB G S s s.heap [] := ⟨hB, va_S.rf⟩
  have hl := lv_entry ([.ref a, .long x1, .int x3, .int x4, .int x5, .int x6]) (n := 7) (Nat.le_of_ble_eq_true rfl)
  rw [lg_entry_eq]
  generalize (lg_sl ([.ref a, .long x1, .int x3, .int x4, .int x5, .int x6]) ++ List.replicate (7 - (lg_sl ([.ref a, .long x1, .int x3, .int x4, .int x5, .int x6])).length) Slot.unset).toArray = ls at hl ⊢
  have hl : lv_has ls 7 [(0, .ref a), (1, .long x1), (3, .int x3), (4, .int x4), (5, .int x5), (6, .int x6)] := hl
  exact t_X1_addThief_0 (fu := fu) hM hml B.returns B.notSynchronized hf ha (fun _ _ => rfl) _ _ hW _ (lv_sub hl [0, 1, 2, 3, 4, 5] rfl)
abbrev RM_X1_addExpert : Room := { frames := 0, cells := 0, slots := 0, locals := 0 }
abbrev w_X1_addExpert : List Cond := Cond.code yX1_addExpert cX1_addExpert 4 none :: wsL_law0
noncomputable def f_X1_addExpert_0 (fu : Nat)  (v : GV) (x1 : Int64) (x3 : Int32) : Option (GV) :=
  if (4 : Int32) ≤ (gI v 10) then
    (some v)
  else
    (ck (inb (gI v 10) 4) <|
    nm (sL v 2 (gI v 10).toNatClampNeg x1) fun v3 =>
    ck (inb (gI v3 10) 4) <|
    nm (sA v3 6 (gI v3 10).toNatClampNeg x3) fun v5 =>
    nm (sI v5 10 ((gI v5 10) + (1 : Int32))) fun v6 =>
    some v6)
set_option maxHeartbeats 4000000 in
set_option maxRecDepth 100000 in
theorem t_X1_addExpert_0 {G : GG} {p : Program} {l : Launch} {e : Env} {s : State} {m : MethodId} {args : Array Value} {below : List Frame} {meth : Method} {c : Code} {S : ST} {fu : Nat} {z : GV} {a : Nat} {v0 : GV}  {v : GV} {x1 : Int64} {x3 : Int32} (hM : MC G p s m args c cX1_addExpert w_X1_addExpert RX1) (hml : c.maxLocals = 4) (hr : meth.sig.returnType = none) (hlk : meth.locks = false) (hc0 : gC v0 = 1)  (hf : f_X1_addExpert_0 fu  v  x1 x3 = some z) : (gC v = 1) → ∀ (H : Heap) (locs : List Loc), WB G (st S a v) s H locs → ∀ (ls : Array Slot), lv_has ls 4 [(0, .ref a), (1, .long x1), (3, .int x3)] → W p l e RM_X1_addExpert s m args below meth c H locs 0 0 (QR G below args s none (st S a v0) (st S a z)) (F0 m 0 ls []) := by
  intro hc H locs hW ls hl
  have hx := hM.1
  have hb := hM.2.1
  refine lv_aload_n hx hb dX1_addExpert_0 rfl (lv_at hl 0 rfl) ?_
  refine b_get hM hW 0 10 hc rfl rfl (by decide) wi_X1 (wgm fk_RX1_48) (x := .int (gI v 10)) rfl dX1_addExpert_1 ?_
  refine lv_iconst (v := (4 : Int32)) hx hb dX1_addExpert_4 (by decide) ?_
  refine lv_icmp_ge (tgt := 38) hx hb dX1_addExpert_5 (by decide) (fun c1 => ?_) (fun c1 => ?_)
  · have hf := if_t c1 hf
    cases hf
    exact W.vret hx hb hr (b_ret0 hW (keep_s2 hc0 hc) _) hW.2.2.2 dX1_addExpert_38 hlk
  · have hf := if_f c1 hf
    refine lv_aload_n hx hb dX1_addExpert_8 rfl (lv_at hl 0 rfl) ?_
    refine b_get hM hW 0 2 hc rfl rfl (by decide) wi_X1 (wgm fk_RX1_18) (x := .ref (a + 3)) rfl dX1_addExpert_9 ?_
    refine lv_aload_n hx hb dX1_addExpert_12 rfl (lv_at hl 0 rfl) ?_
    refine b_get hM hW 0 10 hc rfl rfl (by decide) wi_X1 (wgm fk_RX1_48) (x := .int (gI v 10)) rfl dX1_addExpert_13 ?_
    refine lv_lload_n hx hb dX1_addExpert_16 rfl (lv_at hl 1 rfl) ?_
    obtain ⟨h2, hf⟩ := ck_elim hf
    refine b_last (n := 4) hM hW 0 2 hc (by decide) rfl rfl rfl rfl h2 dX1_addExpert_17 (fun v3 ev3 hc H locs hW => ?_)
    have hf := nm_at ev3 hf
    refine lv_aload_n hx hb dX1_addExpert_18 rfl (lv_at hl 0 rfl) ?_
    refine b_get hM hW 0 6 hc rfl rfl (by decide) wi_X1 (wgm fk_RX1_31) (x := .ref (a + 7)) rfl dX1_addExpert_19 ?_
    refine lv_aload_n hx hb dX1_addExpert_22 rfl (lv_at hl 0 rfl) ?_
    refine b_get hM hW 0 10 hc rfl rfl (by decide) wi_X1 (wgm fk_RX1_48) (x := .int (gI v3 10)) rfl dX1_addExpert_23 ?_
    refine lv_iload_n hx hb dX1_addExpert_26 rfl (lv_at hl 2 rfl) ?_
    obtain ⟨h4, hf⟩ := ck_elim hf
    refine b_iast (n := 4) hM hW 0 6 hc (by decide) rfl rfl rfl rfl h4 dX1_addExpert_27 (fun v5 ev5 hc H locs hW => ?_)
    have hf := nm_at ev5 hf
    refine lv_aload_n hx hb dX1_addExpert_28 rfl (lv_at hl 0 rfl) ?_
    refine lv_dup hx hb dX1_addExpert_29 rfl ?_
    refine b_get hM hW 0 10 hc rfl rfl (by decide) wi_X1 (wgm fk_RX1_48) (x := .int (gI v5 10)) rfl dX1_addExpert_30 ?_
    refine lv_iconst (v := (1 : Int32)) hx hb dX1_addExpert_33 (by decide) ?_
    refine lv_iadd hx hb dX1_addExpert_34 ?_
    refine b_putI hM hW 0 10 hc rfl rfl (by decide) wi_X1 tyX1 tyX1_ok nmX1 (wgm fk_RX1_48) rfl rfl rfl dX1_addExpert_35 (fun v6 ev6 hc H locs hW => ?_)
    have hf := nm_at ev6 hf
    cases hf
    exact W.vret hx hb hr (b_ret0 hW (keep_s2 hc0 hc) _) hW.2.2.2 dX1_addExpert_38 hlk
noncomputable def f_X1_addExpert (fu : Nat) (v : GV) (x1 : Int64) (x3 : Int32) : Option (GV) := f_X1_addExpert_0 fu v x1 x3
set_option maxHeartbeats 4000000 in
set_option maxRecDepth 100000 in
theorem c_X1_addExpert (l : Launch) (G : GG) (fu : Nat) (S : ST) (a : Nat) (v : GV) (x1 : Int64) (x3 : Int32) {z : GV} (hc : gC v = 1) (hf : f_X1_addExpert fu v x1 x3 = some z) : Ct l yX1_addExpert w_X1_addExpert RM_X1_addExpert G (st S a v) [.ref a, .long x1, .int x3] none (st S a z) 0 0 := by
  refine Met.ofW (cc := cX1_addExpert) (maxL := 4) (ret := none) (by decide) rfl ?_
  intro p e s m args below meth c s₁ B hml hv
  obtain ⟨rfl, hB, hK, hz⟩ := hv
  have hM : MC G p s m _ c cX1_addExpert w_X1_addExpert RX1 := ⟨B.exec, B.bytes, findClass_of_methodNamed B.named, atoms_spec (ws := w_X1_addExpert) B.pre, hK, hz⟩
  have hW : WB G (st S a v) s s.heap [] := ⟨hB, va_S.rf⟩
  have hl := lv_entry ([.ref a, .long x1, .int x3]) (n := 4) (Nat.le_of_ble_eq_true rfl)
  rw [lg_entry_eq]
  generalize (lg_sl ([.ref a, .long x1, .int x3]) ++ List.replicate (4 - (lg_sl ([.ref a, .long x1, .int x3])).length) Slot.unset).toArray = ls at hl ⊢
  have hl : lv_has ls 4 [(0, .ref a), (1, .long x1), (3, .int x3)] := hl
  exact t_X1_addExpert_0 (fu := fu) hM hml B.returns B.notSynchronized hc hf hc _ _ hW _ (lv_sub hl [0, 1, 2] rfl)
abbrev RM_X1_placeOf : Room := { frames := 0, cells := 0, slots := 0, locals := 0 }
abbrev w_X1_placeOf : List Cond := Cond.code yX1_placeOf cX1_placeOf 5 (some .int) :: wsL_law0
noncomputable def f_X1_placeOf_34 (fu : Nat)  (S : ST) (g2 : Nat) (q2 : Nat) : Option (Int32) :=
  some ((-1 : Int32))
set_option maxHeartbeats 4000000 in
set_option maxRecDepth 100000 in
theorem t_X1_placeOf_34 {G : GG} {p : Program} {l : Launch} {e : Env} {s : State} {m : MethodId} {args : Array Value} {below : List Frame} {meth : Method} {c : Code} {S : ST} {fu : Nat} {z : Int32} {g2 : Nat} {q2 : Nat}  (hM : MC G p s m args c cX1_placeOf w_X1_placeOf RX1) (hml : c.maxLocals = 5) (hr : meth.sig.returnType = (some .int)) (hlk : meth.locks = false) (hg2 : gC (S g2) = 1) (hq2 : q2 < nf 0 ∧ (ds 0 q2).1 = 2 ∧ (ds 0 q2).2.2.1 = 2)  (hf : f_X1_placeOf_34 fu  S g2 q2  = some z) : ∀ (H : Heap) (locs : List Loc), WB G S s H locs → ∀ (ls : Array Slot), lv_has ls 5 [] → W p l e RM_X1_placeOf s m args below meth c H locs 0 0 (QR G below args s (some (.int z)) S S) (F0 m 34 ls []) := by
  intro  H locs hW ls hl
  have hx := hM.1
  have hb := hM.2.1
  refine lv_iconst (v := (-1 : Int32)) hx hb dX1_placeOf_34 (by decide) ?_
  cases hf
  exact W.iret hx hb hr (b_ret0 hW (fun _ _ => rfl) _) hW.2.2.2 dX1_placeOf_35 hlk
noncomputable def f_X1_placeOf_3s (fu : Nat)  (k3 : Int32 → Option (Int32)) (S : ST) (g2 : Nat) (q2 : Nat) (x0 : Int64) (x3 : Int32) (x4 : Int32) : Option (Int32) :=
  if x3 ≤ x4 then
    (f_X1_placeOf_34 fu S g2 q2)
  else
    (if (Int32.ofNat (alen 0 q2 (S g2))) ≤ x4 then
      (f_X1_placeOf_34 fu S g2 q2)
    else
      (ck (inb x4 (alen 0 q2 (S g2))) <|
      if (lg_cmp (gL (S g2) q2 x4.toNatClampNeg) x0) = 0 then
        (some (x4))
      else
        (nm (x4 + (1 : Int32)) fun y5 =>
        k3 y5)))
noncomputable def f_X1_placeOf_3 (fu n : Nat)  (S : ST) (g2 : Nat) (q2 : Nat) (x0 : Int64) (x3 : Int32) : Int32 → Option (Int32) :=
  lq_1 (fun k3 => f_X1_placeOf_3s fu  k3 S g2 q2 x0 x3) n
set_option maxHeartbeats 4000000 in
set_option maxRecDepth 100000 in
theorem t_X1_placeOf_3s {G : GG} {p : Program} {l : Launch} {e : Env} {s : State} {m : MethodId} {args : Array Value} {below : List Frame} {meth : Method} {c : Code} {S : ST} {fu : Nat} {z : Int32} {g2 : Nat} {q2 : Nat}  {k3 : Int32 → Option (Int32)} {x0 : Int64} {x3 : Int32} (hM : MC G p s m args c cX1_placeOf w_X1_placeOf RX1) (hml : c.maxLocals = 5) (hr : meth.sig.returnType = (some .int)) (hlk : meth.locks = false) (hg2 : gC (S g2) = 1) (hq2 : q2 < nf 0 ∧ (ds 0 q2).1 = 2 ∧ (ds 0 q2).2.2.1 = 2)  (hk3 : ∀ (x4 : Int32), k3 x4 = some z → ∀ (H : Heap) (locs : List Loc), WB G S s H locs → ∀ (ls : Array Slot), lv_has ls 5 [(0, .long x0), (2, .ref (g2 + (ds 0 q2).2.1)), (3, .int x3), (4, .int x4)] → W p l e RM_X1_placeOf s m args below meth c H locs 0 0 (QR G below args s (some (.int z)) S S) (F0 m 3 ls [])) : ∀ (x4 : Int32), f_X1_placeOf_3s fu  k3 S g2 q2 x0 x3 x4 = some z → ∀ (H : Heap) (locs : List Loc), WB G S s H locs → ∀ (ls : Array Slot), lv_has ls 5 [(0, .long x0), (2, .ref (g2 + (ds 0 q2).2.1)), (3, .int x3), (4, .int x4)] → W p l e RM_X1_placeOf s m args below meth c H locs 0 0 (QR G below args s (some (.int z)) S S) (F0 m 3 ls []) := by
  intro x4 hf  H locs hW ls hl
  have hx := hM.1
  have hb := hM.2.1
  refine lv_iload hx hb dX1_placeOf_3 (lv_at hl 3 rfl) ?_
  refine lv_iload_n hx hb dX1_placeOf_5 rfl (lv_at hl 2 rfl) ?_
  refine lv_icmp_ge (tgt := 34) hx hb dX1_placeOf_6 (by decide) (fun c1 => ?_) (fun c1 => ?_)
  · have hf := if_t c1 hf
    exact t_X1_placeOf_34 (fu := fu) hM hml hr hlk hg2 hq2 hf _ _ hW _ (lv_sub hl [] rfl)
  · have hf := if_f c1 hf
    refine lv_iload hx hb dX1_placeOf_9 (lv_at hl 3 rfl) ?_
    refine lv_aload_n hx hb dX1_placeOf_11 rfl (lv_at hl 1 rfl) ?_
    refine b_alen hM (hW.at_ g2) 0 q2 1 hg2 hq2.1 hq2.2.1 hq2.2.2 (by decide) rfl rfl rfl dX1_placeOf_12 ?_
    refine lv_icmp_ge (tgt := 34) hx hb dX1_placeOf_13 (by decide) (fun c2 => ?_) (fun c2 => ?_)
    · have hf := if_t c2 hf
      exact t_X1_placeOf_34 (fu := fu) hM hml hr hlk hg2 hq2 hf _ _ hW _ (lv_sub hl [] rfl)
    · have hf := if_f c2 hf
      refine lv_aload_n hx hb dX1_placeOf_16 rfl (lv_at hl 1 rfl) ?_
      refine lv_iload hx hb dX1_placeOf_17 (lv_at hl 3 rfl) ?_
      obtain ⟨h3, hf⟩ := ck_elim hf
      refine b_lald hM (hW.at_ g2) 0 q2 hg2 hq2.1 hq2.2.1 hq2.2.2 rfl rfl h3 dX1_placeOf_19 ?_
      refine lv_lload_n hx hb dX1_placeOf_20 rfl (lv_at hl 0 rfl) ?_
      refine W.lcmp hx hb dX1_placeOf_21 ?_
      refine lv_if_ne (tgt := 28) hx hb dX1_placeOf_22 (by decide) (fun c4 => ?_) (fun c4 => ?_)
      · have hf := if_f c4 hf
        obtain ⟨y5, ey5⟩ : ∃ y : Int32, y = x4 + (1 : Int32) := ⟨_, rfl⟩
        have hf := nm_at ey5 hf
        refine lv_iinc (v := y5) (lv' := [(4, .int y5), (0, .long x0), (2, .ref (g2 + (ds 0 q2).2.1)), (3, .int x3)]) hx hb dX1_placeOf_28 hl (k := 3) rfl (by rw [ey5]; rfl) (by decide) rfl (fun ls hl => ?_)
        refine lv_goto (tgt := 3) hx hb dX1_placeOf_31 (by decide) ?_
        exact hk3 _ hf _ _ hW _ (lv_sub hl [1, 2, 3, 0] rfl)
      · have hf := if_t c4 hf
        refine lv_iload hx hb dX1_placeOf_25 (lv_at hl 3 rfl) ?_
        cases hf
        exact W.iret hx hb hr (b_ret0 hW (fun _ _ => rfl) _) hW.2.2.2 dX1_placeOf_27 hlk
theorem t_X1_placeOf_3 {G : GG} {p : Program} {l : Launch} {e : Env} {s : State} {m : MethodId} {args : Array Value} {below : List Frame} {meth : Method} {c : Code} {S : ST} {fu : Nat} {z : Int32} {g2 : Nat} {q2 : Nat}  {x0 : Int64} {x3 : Int32} (hM : MC G p s m args c cX1_placeOf w_X1_placeOf RX1) (hml : c.maxLocals = 5) (hr : meth.sig.returnType = (some .int)) (hlk : meth.locks = false) (hg2 : gC (S g2) = 1) (hq2 : q2 < nf 0 ∧ (ds 0 q2).1 = 2 ∧ (ds 0 q2).2.2.1 = 2)  : ∀ {n : Nat} (x4 : Int32), f_X1_placeOf_3 fu n  S g2 q2 x0 x3 x4 = some z → ∀ (H : Heap) (locs : List Loc), WB G S s H locs → ∀ (ls : Array Slot), lv_has ls 5 [(0, .long x0), (2, .ref (g2 + (ds 0 q2).2.1)), (3, .int x3), (4, .int x4)] → W p l e RM_X1_placeOf s m args below meth c H locs 0 0 (QR G below args s (some (.int z)) S S) (F0 m 3 ls []) := by
  intro n
  induction n with
  | zero => intro x4 hf; cases hf
  | succ n ih => intro x4 hf; exact t_X1_placeOf_3s (fu := fu) hM hml hr hlk hg2 hq2 (k3 := f_X1_placeOf_3 fu n  S g2 q2 x0 x3) ih _ hf
noncomputable def f_X1_placeOf_0 (fu : Nat)  (S : ST) (g2 : Nat) (q2 : Nat) (x0 : Int64) (x3 : Int32) : Option (Int32) :=
  f_X1_placeOf_3 fu fu S g2 q2 x0 x3 (0 : Int32)
set_option maxHeartbeats 4000000 in
set_option maxRecDepth 100000 in
theorem t_X1_placeOf_0 {G : GG} {p : Program} {l : Launch} {e : Env} {s : State} {m : MethodId} {args : Array Value} {below : List Frame} {meth : Method} {c : Code} {S : ST} {fu : Nat} {z : Int32} {g2 : Nat} {q2 : Nat}  {x0 : Int64} {x3 : Int32} (hM : MC G p s m args c cX1_placeOf w_X1_placeOf RX1) (hml : c.maxLocals = 5) (hr : meth.sig.returnType = (some .int)) (hlk : meth.locks = false) (hg2 : gC (S g2) = 1) (hq2 : q2 < nf 0 ∧ (ds 0 q2).1 = 2 ∧ (ds 0 q2).2.2.1 = 2)  (hf : f_X1_placeOf_0 fu  S g2 q2 x0 x3 = some z) : ∀ (H : Heap) (locs : List Loc), WB G S s H locs → ∀ (ls : Array Slot), lv_has ls 5 [(0, .long x0), (2, .ref (g2 + (ds 0 q2).2.1)), (3, .int x3)] → W p l e RM_X1_placeOf s m args below meth c H locs 0 0 (QR G below args s (some (.int z)) S S) (F0 m 0 ls []) := by
  intro  H locs hW ls hl
  have hx := hM.1
  have hb := hM.2.1
  refine lv_iconst (v := (0 : Int32)) hx hb dX1_placeOf_0 (by decide) ?_
  refine lv_istore (lv' := [(4, .int (0 : Int32)), (0, .long x0), (2, .ref (g2 + (ds 0 q2).2.1)), (3, .int x3)]) hx hb dX1_placeOf_1 hl (by decide) rfl (fun ls hl => ?_)
  exact t_X1_placeOf_3 (fu := fu) hM hml hr hlk hg2 hq2 _ hf _ _ hW _ (lv_sub hl [1, 2, 3, 0] rfl)
noncomputable def f_X1_placeOf (fu : Nat) (S : ST) (x0 : Int64) (g2 : Nat) (q2 : Nat) (x3 : Int32) : Option (Int32) := f_X1_placeOf_0 fu S g2 q2 x0 x3
set_option maxHeartbeats 4000000 in
set_option maxRecDepth 100000 in
theorem c_X1_placeOf (l : Launch) (G : GG) (fu : Nat) (S : ST) (x0 : Int64) (g2 : Nat) (q2 : Nat) (x3 : Int32) {z : Int32} (hg2 : gC (S g2) = 1) (hq2 : q2 < nf 0 ∧ (ds 0 q2).1 = 2 ∧ (ds 0 q2).2.2.1 = 2) (hf : f_X1_placeOf fu S x0 g2 q2 x3 = some z) : Ct l yX1_placeOf w_X1_placeOf RM_X1_placeOf G S [.long x0, .ref (g2 + (ds 0 q2).2.1), .int x3] (some (.int z)) S 0 0 := by
  refine Met.ofW (cc := cX1_placeOf) (maxL := 5) (ret := (some .int)) (by decide) rfl ?_
  intro p e s m args below meth c s₁ B hml hv
  obtain ⟨rfl, hB, hK, hz⟩ := hv
  have hM : MC G p s m _ c cX1_placeOf w_X1_placeOf RX1 := ⟨B.exec, B.bytes, findClass_of_methodNamed B.named, atoms_spec (ws := w_X1_placeOf) B.pre, hK, hz⟩
  have hW : WB G S s s.heap [] := ⟨hB, va_S.rf⟩
  have hl := lv_entry ([.long x0, .ref (g2 + (ds 0 q2).2.1), .int x3]) (n := 5) (Nat.le_of_ble_eq_true rfl)
  rw [lg_entry_eq]
  generalize (lg_sl ([.long x0, .ref (g2 + (ds 0 q2).2.1), .int x3]) ++ List.replicate (5 - (lg_sl ([.long x0, .ref (g2 + (ds 0 q2).2.1), .int x3])).length) Slot.unset).toArray = ls at hl ⊢
  have hl : lv_has ls 5 [(0, .long x0), (2, .ref (g2 + (ds 0 q2).2.1)), (3, .int x3)] := hl
  exact t_X1_placeOf_0 (fu := fu) hM hml B.returns B.notSynchronized hg2 hq2 hf _ _ hW _ (lv_sub hl [0, 1, 2] rfl)
abbrev RM_X1_isTold : Room := { frames := 1, cells := 0, slots := 0, locals := 24 }
abbrev w_X1_isTold : List Cond := Cond.code yX1_isTold cX1_isTold 3 (some .boolean) :: wsL_law0
noncomputable def f_X1_isTold_48 (fu : Nat)  (S : ST) (a : Nat) : Option (Int32) :=
  some ((1 : Int32))
set_option maxHeartbeats 4000000 in
set_option maxRecDepth 100000 in
theorem t_X1_isTold_48 {G : GG} {p : Program} {l : Launch} {e : Env} {s : State} {m : MethodId} {args : Array Value} {below : List Frame} {meth : Method} {c : Code} {S : ST} {fu : Nat} {z : Int32} {a : Nat}  (hM : MC G p s m args c cX1_isTold w_X1_isTold RX1) (hml : c.maxLocals = 3) (hr : meth.sig.returnType = (some .boolean)) (hlk : meth.locks = false) (ha : gC (S a) = 1)  (hf : f_X1_isTold_48 fu  S a  = some z) : ∀ (H : Heap) (locs : List Loc), WB G S s H locs → ∀ (ls : Array Slot), lv_has ls 3 [] → W p l e RM_X1_isTold s m args below meth c H locs 0 0 (QR G below args s (some (.int z)) S S) (F0 m 48 ls []) := by
  intro  H locs hW ls hl
  have hx := hM.1
  have hb := hM.2.1
  refine lv_iconst (v := (1 : Int32)) hx hb dX1_isTold_48 (by decide) ?_
  refine lv_goto (tgt := 53) hx hb dX1_isTold_49 (by decide) ?_
  cases hf
  exact W.zret (v := (1 : Int32)) hx hb hr (by decide) (b_ret0 hW (fun _ _ => rfl) _) hW.2.2.2 dX1_isTold_53 hlk
noncomputable def f_X1_isTold_0 (fu : Nat)  (S : ST) (a : Nat) (x1 : Int64) : Option (Int32) :=
  bd (f_X1_placeOf fu S x1 a 0 (gI (S a) 8)) fun r1 =>
  if r1 = (-1 : Int32) then
    (bd (f_X1_placeOf fu S x1 a 1 (gI (S a) 9)) fun r3 =>
    if r3 = (-1 : Int32) then
      (bd (f_X1_placeOf fu S x1 a 2 (gI (S a) 10)) fun r5 =>
      if r5 = (-1 : Int32) then
        (some ((0 : Int32)))
      else
        (f_X1_isTold_48 fu S a))
    else
      (f_X1_isTold_48 fu S a))
  else
    (f_X1_isTold_48 fu S a)
set_option maxHeartbeats 4000000 in
set_option maxRecDepth 100000 in
theorem t_X1_isTold_0 {G : GG} {p : Program} {l : Launch} {e : Env} {s : State} {m : MethodId} {args : Array Value} {below : List Frame} {meth : Method} {c : Code} {S : ST} {fu : Nat} {z : Int32} {a : Nat}  {x1 : Int64} (hM : MC G p s m args c cX1_isTold w_X1_isTold RX1) (hml : c.maxLocals = 3) (hr : meth.sig.returnType = (some .boolean)) (hlk : meth.locks = false) (ha : gC (S a) = 1)  (hf : f_X1_isTold_0 fu  S a x1 = some z) : ∀ (H : Heap) (locs : List Loc), WB G S s H locs → ∀ (ls : Array Slot), lv_has ls 3 [(0, .ref a), (1, .long x1)] → W p l e RM_X1_isTold s m args below meth c H locs 0 0 (QR G below args s (some (.int z)) S S) (F0 m 0 ls []) := by
  intro  H locs hW ls hl
  have hx := hM.1
  have hb := hM.2.1
  refine lv_lload_n hx hb dX1_isTold_0 rfl (lv_at hl 1 rfl) ?_
  refine lv_aload_n hx hb dX1_isTold_1 rfl (lv_at hl 0 rfl) ?_
  refine b_get hM (hW.at_ a) 0 0 ha rfl rfl (by decide) wi_X1 (wgm fk_RX1_9) (x := .ref (a + 1)) rfl dX1_isTold_2 ?_
  refine lv_aload_n hx hb dX1_isTold_5 rfl (lv_at hl 0 rfl) ?_
  refine b_get hM (hW.at_ a) 0 8 ha rfl rfl (by decide) wi_X1 (wgm fk_RX1_41) (x := .int (gI (S a) 8)) rfl dX1_isTold_6 ?_
  obtain ⟨r1, hr1, hf⟩ := bd_elim hf
  refine s_callSi [.long x1, .ref (a + 1), .int (gI (S a) 8)] [] hM hml hl.1 hW (c_X1_placeOf l G fu _ _ _ _ _ ha ⟨by decide, rfl, rfl⟩ hr1) (va_cwS 3 hM.2.2.2.1 (gS mk_RX1_64 sm_X1_placeOf it_RX1 cd_X1_placeOf) rfl rfl rfl (by decide +kernel) ⟨Nat.le_of_ble_eq_true rfl, Nat.le_of_ble_eq_true rfl⟩) rfl rfl (Nat.le_of_ble_eq_true rfl) ⟨Nat.zero_le _, Nat.zero_le _⟩ dX1_isTold_9 (fun H locs hW hk => ?_)
  refine lv_iconst (v := (-1 : Int32)) hx hb dX1_isTold_12 (by decide) ?_
  refine lv_icmp_ne (tgt := 48) hx hb dX1_isTold_13 (by decide) (fun c2 => ?_) (fun c2 => ?_)
  · have hf := if_f c2 hf
    exact t_X1_isTold_48 (fu := fu) hM hml hr hlk ha hf _ _ hW _ (lv_sub hl [] rfl)
  · have hf := if_t c2 hf
    refine lv_lload_n hx hb dX1_isTold_16 rfl (lv_at hl 1 rfl) ?_
    refine lv_aload_n hx hb dX1_isTold_17 rfl (lv_at hl 0 rfl) ?_
    refine b_get hM (hW.at_ a) 0 1 ha rfl rfl (by decide) wi_X1 (wgm fk_RX1_15) (x := .ref (a + 2)) rfl dX1_isTold_18 ?_
    refine lv_aload_n hx hb dX1_isTold_21 rfl (lv_at hl 0 rfl) ?_
    refine b_get hM (hW.at_ a) 0 9 ha rfl rfl (by decide) wi_X1 (wgm fk_RX1_45) (x := .int (gI (S a) 9)) rfl dX1_isTold_22 ?_
    obtain ⟨r3, hr3, hf⟩ := bd_elim hf
    refine s_callSi [.long x1, .ref (a + 2), .int (gI (S a) 9)] [] hM hml hl.1 hW (c_X1_placeOf l G fu _ _ _ _ _ ha ⟨by decide, rfl, rfl⟩ hr3) (va_cwS 3 hM.2.2.2.1 (gS mk_RX1_64 sm_X1_placeOf it_RX1 cd_X1_placeOf) rfl rfl rfl (by decide +kernel) ⟨Nat.le_of_ble_eq_true rfl, Nat.le_of_ble_eq_true rfl⟩) rfl rfl (Nat.le_of_ble_eq_true rfl) ⟨Nat.zero_le _, Nat.zero_le _⟩ dX1_isTold_25 (fun H locs hW hk => ?_)
    refine lv_iconst (v := (-1 : Int32)) hx hb dX1_isTold_28 (by decide) ?_
    refine lv_icmp_ne (tgt := 48) hx hb dX1_isTold_29 (by decide) (fun c4 => ?_) (fun c4 => ?_)
    · have hf := if_f c4 hf
      exact t_X1_isTold_48 (fu := fu) hM hml hr hlk ha hf _ _ hW _ (lv_sub hl [] rfl)
    · have hf := if_t c4 hf
      refine lv_lload_n hx hb dX1_isTold_32 rfl (lv_at hl 1 rfl) ?_
      refine lv_aload_n hx hb dX1_isTold_33 rfl (lv_at hl 0 rfl) ?_
      refine b_get hM (hW.at_ a) 0 2 ha rfl rfl (by decide) wi_X1 (wgm fk_RX1_18) (x := .ref (a + 3)) rfl dX1_isTold_34 ?_
      refine lv_aload_n hx hb dX1_isTold_37 rfl (lv_at hl 0 rfl) ?_
      refine b_get hM (hW.at_ a) 0 10 ha rfl rfl (by decide) wi_X1 (wgm fk_RX1_48) (x := .int (gI (S a) 10)) rfl dX1_isTold_38 ?_
      obtain ⟨r5, hr5, hf⟩ := bd_elim hf
      refine s_callSi [.long x1, .ref (a + 3), .int (gI (S a) 10)] [] hM hml hl.1 hW (c_X1_placeOf l G fu _ _ _ _ _ ha ⟨by decide, rfl, rfl⟩ hr5) (va_cwS 3 hM.2.2.2.1 (gS mk_RX1_64 sm_X1_placeOf it_RX1 cd_X1_placeOf) rfl rfl rfl (by decide +kernel) ⟨Nat.le_of_ble_eq_true rfl, Nat.le_of_ble_eq_true rfl⟩) rfl rfl (Nat.le_of_ble_eq_true rfl) ⟨Nat.zero_le _, Nat.zero_le _⟩ dX1_isTold_41 (fun H locs hW hk => ?_)
      refine lv_iconst (v := (-1 : Int32)) hx hb dX1_isTold_44 (by decide) ?_
      refine lv_icmp_eq (tgt := 52) hx hb dX1_isTold_45 (by decide) (fun c6 => ?_) (fun c6 => ?_)
      · have hf := if_t c6 hf
        refine lv_iconst (v := (0 : Int32)) hx hb dX1_isTold_52 (by decide) ?_
        cases hf
        exact W.zret (v := (0 : Int32)) hx hb hr (by decide) (b_ret0 hW (fun _ _ => rfl) _) hW.2.2.2 dX1_isTold_53 hlk
      · have hf := if_f c6 hf
        exact t_X1_isTold_48 (fu := fu) hM hml hr hlk ha hf _ _ hW _ (lv_sub hl [] rfl)
noncomputable def f_X1_isTold (fu : Nat) (S : ST) (a : Nat) (x1 : Int64) : Option (Int32) := f_X1_isTold_0 fu S a x1
set_option maxHeartbeats 4000000 in
set_option maxRecDepth 100000 in
theorem c_X1_isTold (l : Launch) (G : GG) (fu : Nat) (S : ST) (a : Nat) (x1 : Int64) {z : Int32} (ha : gC (S a) = 1) (hf : f_X1_isTold fu S a x1 = some z) : Ct l yX1_isTold w_X1_isTold RM_X1_isTold G S [.ref a, .long x1] (some (.int z)) S 0 0 := by
  refine Met.ofW (cc := cX1_isTold) (maxL := 3) (ret := (some .boolean)) (by decide) rfl ?_
  intro p e s m args below meth c s₁ B hml hv
  obtain ⟨rfl, hB, hK, hz⟩ := hv
  have hM : MC G p s m _ c cX1_isTold w_X1_isTold RX1 := ⟨B.exec, B.bytes, findClass_of_methodNamed B.named, atoms_spec (ws := w_X1_isTold) B.pre, hK, hz⟩
  have hW : WB G S s s.heap [] := ⟨hB, va_S.rf⟩
  have hl := lv_entry ([.ref a, .long x1]) (n := 3) (Nat.le_of_ble_eq_true rfl)
  rw [lg_entry_eq]
  generalize (lg_sl ([.ref a, .long x1]) ++ List.replicate (3 - (lg_sl ([.ref a, .long x1])).length) Slot.unset).toArray = ls at hl ⊢
  have hl : lv_has ls 3 [(0, .ref a), (1, .long x1)] := hl
  exact t_X1_isTold_0 (fu := fu) hM hml B.returns B.notSynchronized ha hf _ _ hW _ (lv_sub hl [0, 1] rfl)
abbrev RM_X8_isName : Room := { frames := 0, cells := 0, slots := 0, locals := 0 }
abbrev w_X8_isName : List Cond := Cond.code yX8_isName cX8_isName 1 (some .boolean) :: wsL_law0
noncomputable def f_X8_isName_24 (fu : Nat)  (v : GV) : Option (Int32) :=
  some ((0 : Int32))
set_option maxHeartbeats 4000000 in
set_option maxRecDepth 100000 in
theorem t_X8_isName_24 {G : GG} {p : Program} {l : Launch} {e : Env} {s : State} {m : MethodId} {args : Array Value} {below : List Frame} {meth : Method} {c : Code} {S : ST} {fu : Nat} {z : Int32} {a : Nat} {v : GV}  (hM : MC G p s m args c cX8_isName w_X8_isName RX8) (hml : c.maxLocals = 1) (hr : meth.sig.returnType = (some .boolean)) (hlk : meth.locks = false) (hc0 : gC v = 8)  (hf : f_X8_isName_24 fu  v   = some z) : ∀ (H : Heap) (locs : List Loc), WB G (st S a v) s H locs → ∀ (ls : Array Slot), lv_has ls 1 [] → W p l e RM_X8_isName s m args below meth c H locs 0 0 (QR G below args s (some (.int z)) (st S a v) (st S a v)) (F0 m 24 ls []) := by
  intro  H locs hW ls hl
  have hx := hM.1
  have hb := hM.2.1
  have hc := hc0
  refine lv_iconst (v := (0 : Int32)) hx hb dX8_isName_24 (by decide) ?_
  cases hf
  exact W.zret (v := (0 : Int32)) hx hb hr (by decide) (b_ret0 hW (fun _ _ => rfl) _) hW.2.2.2 dX8_isName_25 hlk
noncomputable def f_X8_isName_0 (fu : Nat)  (v : GV) : Option (Int32) :=
  if (gI v 7) = 0 then
    (nm ((gI v 5)) fun y2 =>
    ck (inb y2 1001) <|
    if (gA v 1 y2.toNatClampNeg) = (2 : Int32) then
      (some ((1 : Int32)))
    else
      (f_X8_isName_24 fu v))
  else
    (f_X8_isName_24 fu v)
set_option maxHeartbeats 4000000 in
set_option maxRecDepth 100000 in
theorem t_X8_isName_0 {G : GG} {p : Program} {l : Launch} {e : Env} {s : State} {m : MethodId} {args : Array Value} {below : List Frame} {meth : Method} {c : Code} {S : ST} {fu : Nat} {z : Int32} {a : Nat} {v : GV}  (hM : MC G p s m args c cX8_isName w_X8_isName RX8) (hml : c.maxLocals = 1) (hr : meth.sig.returnType = (some .boolean)) (hlk : meth.locks = false) (hc0 : gC v = 8)  (hf : f_X8_isName_0 fu  v   = some z) : ∀ (H : Heap) (locs : List Loc), WB G (st S a v) s H locs → ∀ (ls : Array Slot), lv_has ls 1 [(0, .ref a)] → W p l e RM_X8_isName s m args below meth c H locs 0 0 (QR G below args s (some (.int z)) (st S a v) (st S a v)) (F0 m 0 ls []) := by
  intro  H locs hW ls hl
  have hx := hM.1
  have hb := hM.2.1
  have hc := hc0
  refine lv_aload_n hx hb dX8_isName_0 rfl (lv_at hl 0 rfl) ?_
  refine b_get hM hW 7 7 hc rfl rfl (by decide) wi_X8 (wgm fk_RX8_36) (x := .int (gI v 7)) rfl dX8_isName_1 ?_
  refine lv_if_ne (tgt := 24) hx hb dX8_isName_4 (by decide) (fun c1 => ?_) (fun c1 => ?_)
  · have hf := if_f c1 hf
    exact t_X8_isName_24 (fu := fu) hM hml hr hlk hc0 hf _ _ hW _ (lv_sub hl [] rfl)
  · have hf := if_t c1 hf
    refine lv_aload_n hx hb dX8_isName_7 rfl (lv_at hl 0 rfl) ?_
    refine b_get hM hW 7 1 hc rfl rfl (by decide) wi_X8 (wgm fk_RX8_15) (x := .ref (a + 2)) rfl dX8_isName_8 ?_
    refine lv_aload_n hx hb dX8_isName_11 rfl (lv_at hl 0 rfl) ?_
    refine b_get hM hW 7 5 hc rfl rfl (by decide) wi_X8 (wgm fk_RX8_30) (x := .int (gI v 5)) rfl dX8_isName_12 ?_
    refine lv_topi (fun y2 ey2 => ?_)
    have hf := nm_at ey2 hf
    obtain ⟨h3, hf⟩ := ck_elim hf
    refine b_iald (n := 1001) hM hW 7 1 hc (by decide) rfl rfl rfl rfl h3 dX8_isName_15 ?_
    refine lv_iconst (v := (2 : Int32)) hx hb dX8_isName_16 (by decide) ?_
    refine lv_icmp_ne (tgt := 24) hx hb dX8_isName_17 (by decide) (fun c4 => ?_) (fun c4 => ?_)
    · have hf := if_f c4 hf
      exact t_X8_isName_24 (fu := fu) hM hml hr hlk hc0 hf _ _ hW _ (lv_sub hl [] rfl)
    · have hf := if_t c4 hf
      refine lv_iconst (v := (1 : Int32)) hx hb dX8_isName_20 (by decide) ?_
      refine lv_goto (tgt := 25) hx hb dX8_isName_21 (by decide) ?_
      cases hf
      exact W.zret (v := (1 : Int32)) hx hb hr (by decide) (b_ret0 hW (fun _ _ => rfl) _) hW.2.2.2 dX8_isName_25 hlk
noncomputable def f_X8_isName (fu : Nat) (v : GV) : Option (Int32) := f_X8_isName_0 fu v
set_option maxHeartbeats 4000000 in
set_option maxRecDepth 100000 in
theorem c_X8_isName (l : Launch) (G : GG) (fu : Nat) (S : ST) (a : Nat) (v : GV) {z : Int32} (hc : gC v = 8) (hf : f_X8_isName fu v = some z) : Ct l yX8_isName w_X8_isName RM_X8_isName G (st S a v) [.ref a] (some (.int z)) (st S a v) 0 0 := by
  refine Met.ofW (cc := cX8_isName) (maxL := 1) (ret := (some .boolean)) (by decide) rfl ?_
  intro p e s m args below meth c s₁ B hml hv
  obtain ⟨rfl, hB, hK, hz⟩ := hv
  have hM : MC G p s m _ c cX8_isName w_X8_isName RX8 := ⟨B.exec, B.bytes, findClass_of_methodNamed B.named, atoms_spec (ws := w_X8_isName) B.pre, hK, hz⟩
  have hW : WB G (st S a v) s s.heap [] := ⟨hB, va_S.rf⟩
  have hl := lv_entry ([.ref a]) (n := 1) (Nat.le_of_ble_eq_true rfl)
  rw [lg_entry_eq]
  generalize (lg_sl ([.ref a]) ++ List.replicate (1 - (lg_sl ([.ref a])).length) Slot.unset).toArray = ls at hl ⊢
  have hl : lv_has ls 1 [(0, .ref a)] := hl
  exact t_X8_isName_0 (fu := fu) hM hml B.returns B.notSynchronized hc hf _ _ hW _ (lv_sub hl [0] rfl)
abbrev RM_X8_fail : Room := { frames := 0, cells := 0, slots := 0, locals := 0 }
abbrev w_X8_fail : List Cond := Cond.code yX8_fail cX8_fail 2 none :: wsL_law0
noncomputable def f_X8_fail_0 (fu : Nat)  (v : GV) (x1 : Int32) : Option (GV) :=
  if (gI v 7) = 0 then
    (nm ((gI v 5)) fun y2 =>
    ck (inb y2 1001) <|
    nm (sI v 7 (x1 + ((16 : Int32) * (gA v 2 y2.toNatClampNeg)))) fun v4 =>
    some v4)
  else
    (some v)
set_option maxHeartbeats 4000000 in
set_option maxRecDepth 100000 in
theorem t_X8_fail_0 {G : GG} {p : Program} {l : Launch} {e : Env} {s : State} {m : MethodId} {args : Array Value} {below : List Frame} {meth : Method} {c : Code} {S : ST} {fu : Nat} {z : GV} {a : Nat} {v0 : GV}  {v : GV} {x1 : Int32} (hM : MC G p s m args c cX8_fail w_X8_fail RX8) (hml : c.maxLocals = 2) (hr : meth.sig.returnType = none) (hlk : meth.locks = false) (hc0 : gC v0 = 8)  (hf : f_X8_fail_0 fu  v  x1 = some z) : (gC v = 8) → ∀ (H : Heap) (locs : List Loc), WB G (st S a v) s H locs → ∀ (ls : Array Slot), lv_has ls 2 [(0, .ref a), (1, .int x1)] → W p l e RM_X8_fail s m args below meth c H locs 0 0 (QR G below args s none (st S a v0) (st S a z)) (F0 m 0 ls []) := by
  intro hc H locs hW ls hl
  have hx := hM.1
  have hb := hM.2.1
  refine lv_aload_n hx hb dX8_fail_0 rfl (lv_at hl 0 rfl) ?_
  refine b_get hM hW 7 7 hc rfl rfl (by decide) wi_X8 (wgm fk_RX8_36) (x := .int (gI v 7)) rfl dX8_fail_1 ?_
  refine lv_if_ne (tgt := 25) hx hb dX8_fail_4 (by decide) (fun c1 => ?_) (fun c1 => ?_)
  · have hf := if_f c1 hf
    cases hf
    exact W.vret hx hb hr (b_ret0 hW (keep_s2 hc0 hc) _) hW.2.2.2 dX8_fail_25 hlk
  · have hf := if_t c1 hf
    refine lv_aload_n hx hb dX8_fail_7 rfl (lv_at hl 0 rfl) ?_
    refine lv_iload_n hx hb dX8_fail_8 rfl (lv_at hl 1 rfl) ?_
    refine lv_bipush (v := (16 : Int32)) hx hb dX8_fail_9 (by decide) ?_
    refine lv_aload_n hx hb dX8_fail_11 rfl (lv_at hl 0 rfl) ?_
    refine b_get hM hW 7 2 hc rfl rfl (by decide) wi_X8 (wgm fk_RX8_19) (x := .ref (a + 3)) rfl dX8_fail_12 ?_
    refine lv_aload_n hx hb dX8_fail_15 rfl (lv_at hl 0 rfl) ?_
    refine b_get hM hW 7 5 hc rfl rfl (by decide) wi_X8 (wgm fk_RX8_30) (x := .int (gI v 5)) rfl dX8_fail_16 ?_
    refine lv_topi (fun y2 ey2 => ?_)
    have hf := nm_at ey2 hf
    obtain ⟨h3, hf⟩ := ck_elim hf
    refine b_iald (n := 1001) hM hW 7 2 hc (by decide) rfl rfl rfl rfl h3 dX8_fail_19 ?_
    refine lv_imul hx hb dX8_fail_20 ?_
    refine lv_iadd hx hb dX8_fail_21 ?_
    refine b_putI hM hW 7 7 hc rfl rfl (by decide) wi_X8 tyX8 tyX8_ok nmX8 (wgm fk_RX8_36) rfl rfl rfl dX8_fail_22 (fun v4 ev4 hc H locs hW => ?_)
    have hf := nm_at ev4 hf
    cases hf
    exact W.vret hx hb hr (b_ret0 hW (keep_s2 hc0 hc) _) hW.2.2.2 dX8_fail_25 hlk
noncomputable def f_X8_fail (fu : Nat) (v : GV) (x1 : Int32) : Option (GV) := f_X8_fail_0 fu v x1
set_option maxHeartbeats 4000000 in
set_option maxRecDepth 100000 in
theorem c_X8_fail (l : Launch) (G : GG) (fu : Nat) (S : ST) (a : Nat) (v : GV) (x1 : Int32) {z : GV} (hc : gC v = 8) (hf : f_X8_fail fu v x1 = some z) : Ct l yX8_fail w_X8_fail RM_X8_fail G (st S a v) [.ref a, .int x1] none (st S a z) 0 0 := by
  refine Met.ofW (cc := cX8_fail) (maxL := 2) (ret := none) (by decide) rfl ?_
  intro p e s m args below meth c s₁ B hml hv
  obtain ⟨rfl, hB, hK, hz⟩ := hv
  have hM : MC G p s m _ c cX8_fail w_X8_fail RX8 := ⟨B.exec, B.bytes, findClass_of_methodNamed B.named, atoms_spec (ws := w_X8_fail) B.pre, hK, hz⟩
  have hW : WB G (st S a v) s s.heap [] := ⟨hB, va_S.rf⟩
  have hl := lv_entry ([.ref a, .int x1]) (n := 2) (Nat.le_of_ble_eq_true rfl)
  rw [lg_entry_eq]
  generalize (lg_sl ([.ref a, .int x1]) ++ List.replicate (2 - (lg_sl ([.ref a, .int x1])).length) Slot.unset).toArray = ls at hl ⊢
  have hl : lv_has ls 2 [(0, .ref a), (1, .int x1)] := hl
  exact t_X8_fail_0 (fu := fu) hM hml B.returns B.notSynchronized hc hf hc _ _ hW _ (lv_sub hl [0, 1] rfl)
abbrev RM_X8_packed : Room := { frames := 0, cells := 0, slots := 0, locals := 0 }
abbrev w_X8_packed : List Cond := Cond.code yX8_packed cX8_packed 1 (some .long) :: wsL_law0
noncomputable def f_X8_packed_0 (fu : Nat)  (v : GV) : Option (Int64) :=
  nm ((gI v 5)) fun y1 =>
  ck (inb y1 1001) <|
  some ((gL v 3 y1.toNatClampNeg))
set_option maxHeartbeats 4000000 in
set_option maxRecDepth 100000 in
theorem t_X8_packed_0 {G : GG} {p : Program} {l : Launch} {e : Env} {s : State} {m : MethodId} {args : Array Value} {below : List Frame} {meth : Method} {c : Code} {S : ST} {fu : Nat} {z : Int64} {a : Nat} {v : GV}  (hM : MC G p s m args c cX8_packed w_X8_packed RX8) (hml : c.maxLocals = 1) (hr : meth.sig.returnType = (some .long)) (hlk : meth.locks = false) (hc0 : gC v = 8)  (hf : f_X8_packed_0 fu  v   = some z) : ∀ (H : Heap) (locs : List Loc), WB G (st S a v) s H locs → ∀ (ls : Array Slot), lv_has ls 1 [(0, .ref a)] → W p l e RM_X8_packed s m args below meth c H locs 0 0 (QR G below args s (some (.long z)) (st S a v) (st S a v)) (F0 m 0 ls []) := by
  intro  H locs hW ls hl
  have hx := hM.1
  have hb := hM.2.1
  have hc := hc0
  refine lv_aload_n hx hb dX8_packed_0 rfl (lv_at hl 0 rfl) ?_
  refine b_get hM hW 7 3 hc rfl rfl (by decide) wi_X8 (wgm fk_RX8_22) (x := .ref (a + 4)) rfl dX8_packed_1 ?_
  refine lv_aload_n hx hb dX8_packed_4 rfl (lv_at hl 0 rfl) ?_
  refine b_get hM hW 7 5 hc rfl rfl (by decide) wi_X8 (wgm fk_RX8_30) (x := .int (gI v 5)) rfl dX8_packed_5 ?_
  refine lv_topi (fun y1 ey1 => ?_)
  have hf := nm_at ey1 hf
  obtain ⟨h2, hf⟩ := ck_elim hf
  refine b_lald (n := 1001) hM hW 7 3 hc (by decide) rfl rfl rfl rfl h2 dX8_packed_8 ?_
  cases hf
  exact W.lret hx hb hr (b_ret0 hW (fun _ _ => rfl) _) hW.2.2.2 dX8_packed_9 hlk
noncomputable def f_X8_packed (fu : Nat) (v : GV) : Option (Int64) := f_X8_packed_0 fu v
set_option maxHeartbeats 4000000 in
set_option maxRecDepth 100000 in
theorem c_X8_packed (l : Launch) (G : GG) (fu : Nat) (S : ST) (a : Nat) (v : GV) {z : Int64} (hc : gC v = 8) (hf : f_X8_packed fu v = some z) : Ct l yX8_packed w_X8_packed RM_X8_packed G (st S a v) [.ref a] (some (.long z)) (st S a v) 0 0 := by
  refine Met.ofW (cc := cX8_packed) (maxL := 1) (ret := (some .long)) (by decide) rfl ?_
  intro p e s m args below meth c s₁ B hml hv
  obtain ⟨rfl, hB, hK, hz⟩ := hv
  have hM : MC G p s m _ c cX8_packed w_X8_packed RX8 := ⟨B.exec, B.bytes, findClass_of_methodNamed B.named, atoms_spec (ws := w_X8_packed) B.pre, hK, hz⟩
  have hW : WB G (st S a v) s s.heap [] := ⟨hB, va_S.rf⟩
  have hl := lv_entry ([.ref a]) (n := 1) (Nat.le_of_ble_eq_true rfl)
  rw [lg_entry_eq]
  generalize (lg_sl ([.ref a]) ++ List.replicate (1 - (lg_sl ([.ref a])).length) Slot.unset).toArray = ls at hl ⊢
  have hl : lv_has ls 1 [(0, .ref a)] := hl
  exact t_X8_packed_0 (fu := fu) hM hml B.returns B.notSynchronized hc hf _ _ hW _ (lv_sub hl [0] rfl)
abbrev RM_X1_toldAt : Room := { frames := 1, cells := 0, slots := 0, locals := 24 }
abbrev w_X1_toldAt : List Cond := Cond.code yX1_toldAt cX1_toldAt 4 (some .int) :: wsL_law0
noncomputable def f_X1_toldAt_37 (fu : Nat)  (S : ST) (g0 : Nat) (g1 : Nat) (q1 : Nat) (x3 : Int32) : Option (Int32 × ST) :=
  some (x3, S)
set_option maxHeartbeats 4000000 in
set_option maxRecDepth 100000 in
theorem t_X1_toldAt_37 {G : GG} {p : Program} {l : Launch} {e : Env} {s : State} {m : MethodId} {args : Array Value} {below : List Frame} {meth : Method} {c : Code} {S0 : ST} {fu : Nat} {z : Int32 × ST} {g0 : Nat} {g1 : Nat} {q1 : Nat}  {S : ST} {x3 : Int32} (hM : MC G p s m args c cX1_toldAt w_X1_toldAt RX1) (hml : c.maxLocals = 4) (hr : meth.sig.returnType = (some .int)) (hlk : meth.locks = false) (hq1 : q1 < nf 0 ∧ (ds 0 q1).1 = 2 ∧ (ds 0 q1).2.2.1 = 2)  (hf : f_X1_toldAt_37 fu  S g0 g1 q1 x3 = some z) : (gC (S g0) = 8) → (gC (S g1) = 1) → (∀ b, gC (S0 b) ≠ 0 → gC (S b) = gC (S0 b)) → ∀ (H : Heap) (locs : List Loc), WB G S s H locs → ∀ (ls : Array Slot), lv_has ls 4 [(3, .int x3)] → W p l e RM_X1_toldAt s m args below meth c H locs 0 0 (QR G below args s (some (.int z.1)) S0 z.2) (F0 m 37 ls []) := by
  intro hg0 hg1 hK0 H locs hW ls hl
  have hx := hM.1
  have hb := hM.2.1
  refine lv_iload_n hx hb dX1_toldAt_37 rfl (lv_at hl 0 rfl) ?_
  cases hf
  exact W.iret hx hb hr (b_ret0 hW hK0 _) hW.2.2.2 dX1_toldAt_38 hlk
noncomputable def f_X1_toldAt_0 (fu : Nat)  (S : ST) (g0 : Nat) (g1 : Nat) (q1 : Nat) (x2 : Int32) : Option (Int32 × ST) :=
  bd (f_X8_isName fu (S g0)) fun r1 =>
  if r1 = 0 then
    (bd (f_X8_fail fu (S g0) (1 : Int32)) fun v9 =>
    nm (st S g0 v9) fun Sv9 =>
    f_X1_toldAt_37 fu Sv9 g0 g1 q1 (-1 : Int32))
  else
    (bd (f_X8_packed fu (S g0)) fun r3 =>
    bd (f_X1_placeOf fu S r3 g1 q1 x2) fun r4 =>
    if r4 = (-1 : Int32) then
      (bd (f_X8_fail fu (S g0) (2 : Int32)) fun v7 =>
      nm (st S g0 v7) fun Sv7 =>
      f_X1_toldAt_37 fu Sv7 g0 g1 q1 r4)
    else
      (f_X1_toldAt_37 fu S g0 g1 q1 r4))
set_option maxHeartbeats 4000000 in
set_option maxRecDepth 100000 in
theorem t_X1_toldAt_0 {G : GG} {p : Program} {l : Launch} {e : Env} {s : State} {m : MethodId} {args : Array Value} {below : List Frame} {meth : Method} {c : Code} {S0 : ST} {fu : Nat} {z : Int32 × ST} {g0 : Nat} {g1 : Nat} {q1 : Nat}  {S : ST} {x2 : Int32} (hM : MC G p s m args c cX1_toldAt w_X1_toldAt RX1) (hml : c.maxLocals = 4) (hr : meth.sig.returnType = (some .int)) (hlk : meth.locks = false) (hq1 : q1 < nf 0 ∧ (ds 0 q1).1 = 2 ∧ (ds 0 q1).2.2.1 = 2)  (hf : f_X1_toldAt_0 fu  S g0 g1 q1 x2 = some z) : (gC (S g0) = 8) → (gC (S g1) = 1) → (∀ b, gC (S0 b) ≠ 0 → gC (S b) = gC (S0 b)) → ∀ (H : Heap) (locs : List Loc), WB G S s H locs → ∀ (ls : Array Slot), lv_has ls 4 [(0, .ref g0), (1, .ref (g1 + (ds 0 q1).2.1)), (2, .int x2)] → W p l e RM_X1_toldAt s m args below meth c H locs 0 0 (QR G below args s (some (.int z.1)) S0 z.2) (F0 m 0 ls []) := by
  intro hg0 hg1 hK0 H locs hW ls hl
  have hx := hM.1
  have hb := hM.2.1
  refine lv_iconst (v := (-1 : Int32)) hx hb dX1_toldAt_0 (by decide) ?_
  refine lv_istore_n (lv' := [(3, .int (-1 : Int32)), (0, .ref g0), (1, .ref (g1 + (ds 0 q1).2.1)), (2, .int x2)]) hx hb dX1_toldAt_1 rfl hl (by decide) rfl (fun ls hl => ?_)
  refine lv_aload_n hx hb dX1_toldAt_2 rfl (lv_at hl 1 rfl) ?_
  obtain ⟨r1, hr1, hf⟩ := bd_elim hf
  refine s_callVi [] [] hM hml hl.1 hW hg0 rfl (by decide) (Ct_rd (c_X8_isName l G fu _ g0 (S g0) hg0 hr1)) (cwV 0 hM.2.2.2.1 (gV mk_RX1_77 im_X8_isName se_X8_isName it_RX8 cd_X8_isName) rfl rfl rfl (by decide +kernel) ⟨Nat.le_of_ble_eq_true rfl, Nat.le_of_ble_eq_true rfl⟩) rfl rfl (Nat.le_of_ble_eq_true rfl) ⟨Nat.zero_le _, Nat.zero_le _⟩ dX1_toldAt_3 (fun H locs hW hk => ?_)
  refine lv_if_ne (tgt := 17) hx hb dX1_toldAt_6 (by decide) (fun c2 => ?_) (fun c2 => ?_)
  · have hf := if_f c2 hf
    refine lv_aload_n hx hb dX1_toldAt_17 rfl (lv_at hl 1 rfl) ?_
    obtain ⟨r3, hr3, hf⟩ := bd_elim hf
    refine s_callVl [] [] hM hml hl.1 hW hg0 rfl (by decide) (Ct_rd (c_X8_packed l G fu _ g0 (S g0) hg0 hr3)) (cwV 0 hM.2.2.2.1 (gV mk_RX1_85 im_X8_packed se_X8_packed it_RX8 cd_X8_packed) rfl rfl rfl (by decide +kernel) ⟨Nat.le_of_ble_eq_true rfl, Nat.le_of_ble_eq_true rfl⟩) rfl rfl (Nat.le_of_ble_eq_true rfl) ⟨Nat.zero_le _, Nat.zero_le _⟩ dX1_toldAt_18 (fun H locs hW hk => ?_)
    refine lv_aload_n hx hb dX1_toldAt_21 rfl (lv_at hl 2 rfl) ?_
    refine lv_iload_n hx hb dX1_toldAt_22 rfl (lv_at hl 3 rfl) ?_
    obtain ⟨r4, hr4, hf⟩ := bd_elim hf
    refine s_callSi [.long r3, .ref (g1 + (ds 0 q1).2.1), .int x2] [] hM hml hl.1 hW (c_X1_placeOf l G fu _ _ _ _ _ hg1 hq1 hr4) (va_cwS 3 hM.2.2.2.1 (gS mk_RX1_64 sm_X1_placeOf it_RX1 cd_X1_placeOf) rfl rfl rfl (by decide +kernel) ⟨Nat.le_of_ble_eq_true rfl, Nat.le_of_ble_eq_true rfl⟩) rfl rfl (Nat.le_of_ble_eq_true rfl) ⟨Nat.zero_le _, Nat.zero_le _⟩ dX1_toldAt_23 (fun H locs hW hk => ?_)
    refine lv_istore_n (lv' := [(3, .int r4), (0, .ref g0), (1, .ref (g1 + (ds 0 q1).2.1)), (2, .int x2)]) hx hb dX1_toldAt_26 rfl hl (by decide) rfl (fun ls hl => ?_)
    refine lv_iload_n hx hb dX1_toldAt_27 rfl (lv_at hl 0 rfl) ?_
    refine lv_iconst (v := (-1 : Int32)) hx hb dX1_toldAt_28 (by decide) ?_
    refine lv_icmp_ne (tgt := 37) hx hb dX1_toldAt_29 (by decide) (fun c5 => ?_) (fun c5 => ?_)
    · have hf := if_f c5 hf
      exact t_X1_toldAt_37 (fu := fu) hM hml hr hlk hq1 hf hg0 hg1 hK0 _ _ hW _ (lv_sub hl [0] rfl)
    · have hf := if_t c5 hf
      refine lv_aload_n hx hb dX1_toldAt_32 rfl (lv_at hl 1 rfl) ?_
      refine lv_iconst (v := (2 : Int32)) hx hb dX1_toldAt_33 (by decide) ?_
      obtain ⟨v7, hr6, hf⟩ := bd_elim hf
      refine s_callNv [.int (2 : Int32)] [] hM hml hl.1 hW hg0 rfl (by decide) (Ct_self (c_X8_fail l G fu _ g0 (S g0) _ hg0 hr6)) (cwV 1 hM.2.2.2.1 (gV mk_RX1_81 im_X8_fail se_X8_fail it_RX8 cd_X8_fail) rfl rfl rfl (by decide +kernel) ⟨Nat.le_of_ble_eq_true rfl, Nat.le_of_ble_eq_true rfl⟩) rfl rfl (Nat.le_of_ble_eq_true rfl) ⟨Nat.zero_le _, Nat.zero_le _⟩ dX1_toldAt_34 (fun Sv7 ev7 hk H locs hW => ?_)
      have hf := nm_at ev7 hf
      have hg0 := keep1 hk hg0
      have hg1 := keep1 hk hg1
      have hK0 := keep_tr hK0 hk
      exact t_X1_toldAt_37 (fu := fu) hM hml hr hlk hq1 hf hg0 hg1 hK0 _ _ hW _ (lv_sub hl [0] rfl)
  · have hf := if_t c2 hf
    refine lv_aload_n hx hb dX1_toldAt_9 rfl (lv_at hl 1 rfl) ?_
    refine lv_iconst (v := (1 : Int32)) hx hb dX1_toldAt_10 (by decide) ?_
    obtain ⟨v9, hr8, hf⟩ := bd_elim hf
    refine s_callNv [.int (1 : Int32)] [] hM hml hl.1 hW hg0 rfl (by decide) (Ct_self (c_X8_fail l G fu _ g0 (S g0) _ hg0 hr8)) (cwV 1 hM.2.2.2.1 (gV mk_RX1_81 im_X8_fail se_X8_fail it_RX8 cd_X8_fail) rfl rfl rfl (by decide +kernel) ⟨Nat.le_of_ble_eq_true rfl, Nat.le_of_ble_eq_true rfl⟩) rfl rfl (Nat.le_of_ble_eq_true rfl) ⟨Nat.zero_le _, Nat.zero_le _⟩ dX1_toldAt_11 (fun Sv9 ev9 hk H locs hW => ?_)
    have hf := nm_at ev9 hf
    have hg0 := keep1 hk hg0
    have hg1 := keep1 hk hg1
    have hK0 := keep_tr hK0 hk
    refine lv_goto (tgt := 37) hx hb dX1_toldAt_14 (by decide) ?_
    exact t_X1_toldAt_37 (fu := fu) hM hml hr hlk hq1 hf hg0 hg1 hK0 _ _ hW _ (lv_sub hl [0] rfl)
noncomputable def f_X1_toldAt (fu : Nat) (S : ST) (g0 : Nat) (g1 : Nat) (q1 : Nat) (x2 : Int32) : Option (Int32 × ST) := f_X1_toldAt_0 fu S g0 g1 q1 x2
set_option maxHeartbeats 4000000 in
set_option maxRecDepth 100000 in
theorem c_X1_toldAt (l : Launch) (G : GG) (fu : Nat) (S : ST) (g0 : Nat) (g1 : Nat) (q1 : Nat) (x2 : Int32) {z : Int32} {w : ST} (hg0 : gC (S g0) = 8) (hg1 : gC (S g1) = 1) (hq1 : q1 < nf 0 ∧ (ds 0 q1).1 = 2 ∧ (ds 0 q1).2.2.1 = 2) (hf : f_X1_toldAt fu S g0 g1 q1 x2 = some (z, w)) : Ct l yX1_toldAt w_X1_toldAt RM_X1_toldAt G S [.ref g0, .ref (g1 + (ds 0 q1).2.1), .int x2] (some (.int z)) w 0 0 := by
  refine Met.ofW (cc := cX1_toldAt) (maxL := 4) (ret := (some .int)) (by decide) rfl ?_
  intro p e s m args below meth c s₁ B hml hv
  obtain ⟨rfl, hB, hK, hz⟩ := hv
  have hM : MC G p s m _ c cX1_toldAt w_X1_toldAt RX1 := ⟨B.exec, B.bytes, findClass_of_methodNamed B.named, atoms_spec (ws := w_X1_toldAt) B.pre, hK, hz⟩
  have hW : WB G S s s.heap [] := ⟨hB, va_S.rf⟩
  have hl := lv_entry ([.ref g0, .ref (g1 + (ds 0 q1).2.1), .int x2]) (n := 4) (Nat.le_of_ble_eq_true rfl)
  rw [lg_entry_eq]
  generalize (lg_sl ([.ref g0, .ref (g1 + (ds 0 q1).2.1), .int x2]) ++ List.replicate (4 - (lg_sl ([.ref g0, .ref (g1 + (ds 0 q1).2.1), .int x2])).length) Slot.unset).toArray = ls at hl ⊢
  have hl : lv_has ls 4 [(0, .ref g0), (1, .ref (g1 + (ds 0 q1).2.1)), (2, .int x2)] := hl
  exact t_X1_toldAt_0 (fu := fu) hM hml B.returns B.notSynchronized hq1 hf hg0 hg1 (fun _ _ => rfl) _ _ hW _ (lv_sub hl [0, 1, 2] rfl)
abbrev RM_X1_spotAt : Room := { frames := 2, cells := 0, slots := 0, locals := 47 }
abbrev w_X1_spotAt : List Cond := Cond.code yX1_spotAt cX1_spotAt 2 (some .int) :: wsL_law0
noncomputable def f_X1_spotAt_0 (fu : Nat)  (S : ST) (a : Nat) (g1 : Nat) : Option (Int32 × ST) :=
  bd2 (f_X1_toldAt fu S g1 a 0 (gI (S a) 8)) fun r1 S2 =>
  some (r1, S2)
set_option maxHeartbeats 4000000 in
set_option maxRecDepth 100000 in
theorem t_X1_spotAt_0 {G : GG} {p : Program} {l : Launch} {e : Env} {s : State} {m : MethodId} {args : Array Value} {below : List Frame} {meth : Method} {c : Code} {S0 : ST} {fu : Nat} {z : Int32 × ST} {a : Nat} {g1 : Nat}  {S : ST} (hM : MC G p s m args c cX1_spotAt w_X1_spotAt RX1) (hml : c.maxLocals = 2) (hr : meth.sig.returnType = (some .int)) (hlk : meth.locks = false)   (hf : f_X1_spotAt_0 fu  S a g1  = some z) : (gC (S a) = 1) → (gC (S g1) = 8) → (∀ b, gC (S0 b) ≠ 0 → gC (S b) = gC (S0 b)) → ∀ (H : Heap) (locs : List Loc), WB G S s H locs → ∀ (ls : Array Slot), lv_has ls 2 [(0, .ref a), (1, .ref g1)] → W p l e RM_X1_spotAt s m args below meth c H locs 0 0 (QR G below args s (some (.int z.1)) S0 z.2) (F0 m 0 ls []) := by
  intro ha hg1 hK0 H locs hW ls hl
  have hx := hM.1
  have hb := hM.2.1
  refine lv_aload_n hx hb dX1_spotAt_0 rfl (lv_at hl 1 rfl) ?_
  refine lv_aload_n hx hb dX1_spotAt_1 rfl (lv_at hl 0 rfl) ?_
  refine b_get hM (hW.at_ a) 0 0 ha rfl rfl (by decide) wi_X1 (wgm fk_RX1_9) (x := .ref (a + 1)) rfl dX1_spotAt_2 ?_
  refine lv_aload_n hx hb dX1_spotAt_5 rfl (lv_at hl 0 rfl) ?_
  refine b_get hM (hW.at_ a) 0 8 ha rfl rfl (by decide) wi_X1 (wgm fk_RX1_41) (x := .int (gI (S a) 8)) rfl dX1_spotAt_6 ?_
  obtain ⟨r1, S2, hr1, hf⟩ := bd2_elim hf
  refine s_callSi [.ref g1, .ref (a + 1), .int (gI (S a) 8)] [] hM hml hl.1 hW (c_X1_toldAt l G fu _ _ _ _ _ hg1 ha ⟨by decide, rfl, rfl⟩ hr1) (va_cwS 3 hM.2.2.2.1 (gS mk_RX1_68 sm_X1_toldAt it_RX1 cd_X1_toldAt) rfl rfl rfl (by decide +kernel) ⟨Nat.le_of_ble_eq_true rfl, Nat.le_of_ble_eq_true rfl⟩) rfl rfl (Nat.le_of_ble_eq_true rfl) ⟨Nat.zero_le _, Nat.zero_le _⟩ dX1_spotAt_9 (fun H locs hW hk => ?_)
  have ha := keep1 hk ha
  have hg1 := keep1 hk hg1
  have hK0 := keep_tr hK0 hk
  cases hf
  exact W.iret hx hb hr (b_ret0 hW hK0 _) hW.2.2.2 dX1_spotAt_12 hlk
noncomputable def f_X1_spotAt (fu : Nat) (S : ST) (a : Nat) (g1 : Nat) : Option (Int32 × ST) := f_X1_spotAt_0 fu S a g1
set_option maxHeartbeats 4000000 in
set_option maxRecDepth 100000 in
theorem c_X1_spotAt (l : Launch) (G : GG) (fu : Nat) (S : ST) (a : Nat) (g1 : Nat) {z : Int32} {w : ST} (ha : gC (S a) = 1) (hg1 : gC (S g1) = 8) (hf : f_X1_spotAt fu S a g1 = some (z, w)) : Ct l yX1_spotAt w_X1_spotAt RM_X1_spotAt G S [.ref a, .ref g1] (some (.int z)) w 0 0 := by
  refine Met.ofW (cc := cX1_spotAt) (maxL := 2) (ret := (some .int)) (by decide) rfl ?_
  intro p e s m args below meth c s₁ B hml hv
  obtain ⟨rfl, hB, hK, hz⟩ := hv
  have hM : MC G p s m _ c cX1_spotAt w_X1_spotAt RX1 := ⟨B.exec, B.bytes, findClass_of_methodNamed B.named, atoms_spec (ws := w_X1_spotAt) B.pre, hK, hz⟩
  have hW : WB G S s s.heap [] := ⟨hB, va_S.rf⟩
  have hl := lv_entry ([.ref a, .ref g1]) (n := 2) (Nat.le_of_ble_eq_true rfl)
  rw [lg_entry_eq]
  generalize (lg_sl ([.ref a, .ref g1]) ++ List.replicate (2 - (lg_sl ([.ref a, .ref g1])).length) Slot.unset).toArray = ls at hl ⊢
  have hl : lv_has ls 2 [(0, .ref a), (1, .ref g1)] := hl
  exact t_X1_spotAt_0 (fu := fu) hM hml B.returns B.notSynchronized hf ha hg1 (fun _ _ => rfl) _ _ hW _ (lv_sub hl [0, 1] rfl)
abbrev RM_X8_step : Room := { frames := 0, cells := 0, slots := 0, locals := 0 }
abbrev w_X8_step : List Cond := Cond.code yX8_step cX8_step 1 none :: wsL_law0
noncomputable def f_X8_step_0 (fu : Nat)  (v : GV) : Option (GV) :=
  if (gI v 7) = 0 then
    (nm ((gI v 5)) fun y2 =>
    ck (inb y2 1001) <|
    if (gA v 1 y2.toNatClampNeg) = 0 then
      (some v)
    else
      (nm (sI v 5 ((gI v 5) + (1 : Int32))) fun v5 =>
      some v5))
  else
    (some v)
set_option maxHeartbeats 4000000 in
set_option maxRecDepth 100000 in
theorem t_X8_step_0 {G : GG} {p : Program} {l : Launch} {e : Env} {s : State} {m : MethodId} {args : Array Value} {below : List Frame} {meth : Method} {c : Code} {S : ST} {fu : Nat} {z : GV} {a : Nat} {v0 : GV}  {v : GV} (hM : MC G p s m args c cX8_step w_X8_step RX8) (hml : c.maxLocals = 1) (hr : meth.sig.returnType = none) (hlk : meth.locks = false) (hc0 : gC v0 = 8)  (hf : f_X8_step_0 fu  v   = some z) : (gC v = 8) → ∀ (H : Heap) (locs : List Loc), WB G (st S a v) s H locs → ∀ (ls : Array Slot), lv_has ls 1 [(0, .ref a)] → W p l e RM_X8_step s m args below meth c H locs 0 0 (QR G below args s none (st S a v0) (st S a z)) (F0 m 0 ls []) := by
  intro hc H locs hW ls hl
  have hx := hM.1
  have hb := hM.2.1
  refine lv_aload_n hx hb dX8_step_0 rfl (lv_at hl 0 rfl) ?_
  refine b_get hM hW 7 7 hc rfl rfl (by decide) wi_X8 (wgm fk_RX8_36) (x := .int (gI v 7)) rfl dX8_step_1 ?_
  refine lv_if_ne (tgt := 29) hx hb dX8_step_4 (by decide) (fun c1 => ?_) (fun c1 => ?_)
  · have hf := if_f c1 hf
    cases hf
    exact W.vret hx hb hr (b_ret0 hW (keep_s2 hc0 hc) _) hW.2.2.2 dX8_step_29 hlk
  · have hf := if_t c1 hf
    refine lv_aload_n hx hb dX8_step_7 rfl (lv_at hl 0 rfl) ?_
    refine b_get hM hW 7 1 hc rfl rfl (by decide) wi_X8 (wgm fk_RX8_15) (x := .ref (a + 2)) rfl dX8_step_8 ?_
    refine lv_aload_n hx hb dX8_step_11 rfl (lv_at hl 0 rfl) ?_
    refine b_get hM hW 7 5 hc rfl rfl (by decide) wi_X8 (wgm fk_RX8_30) (x := .int (gI v 5)) rfl dX8_step_12 ?_
    refine lv_topi (fun y2 ey2 => ?_)
    have hf := nm_at ey2 hf
    obtain ⟨h3, hf⟩ := ck_elim hf
    refine b_iald (n := 1001) hM hW 7 1 hc (by decide) rfl rfl rfl rfl h3 dX8_step_15 ?_
    refine lv_if_eq (tgt := 29) hx hb dX8_step_16 (by decide) (fun c4 => ?_) (fun c4 => ?_)
    · have hf := if_t c4 hf
      cases hf
      exact W.vret hx hb hr (b_ret0 hW (keep_s2 hc0 hc) _) hW.2.2.2 dX8_step_29 hlk
    · have hf := if_f c4 hf
      refine lv_aload_n hx hb dX8_step_19 rfl (lv_at hl 0 rfl) ?_
      refine lv_dup hx hb dX8_step_20 rfl ?_
      refine b_get hM hW 7 5 hc rfl rfl (by decide) wi_X8 (wgm fk_RX8_30) (x := .int (gI v 5)) rfl dX8_step_21 ?_
      refine lv_iconst (v := (1 : Int32)) hx hb dX8_step_24 (by decide) ?_
      refine lv_iadd hx hb dX8_step_25 ?_
      refine b_putI hM hW 7 5 hc rfl rfl (by decide) wi_X8 tyX8 tyX8_ok nmX8 (wgm fk_RX8_30) rfl rfl rfl dX8_step_26 (fun v5 ev5 hc H locs hW => ?_)
      have hf := nm_at ev5 hf
      cases hf
      exact W.vret hx hb hr (b_ret0 hW (keep_s2 hc0 hc) _) hW.2.2.2 dX8_step_29 hlk
noncomputable def f_X8_step (fu : Nat) (v : GV) : Option (GV) := f_X8_step_0 fu v
set_option maxHeartbeats 4000000 in
set_option maxRecDepth 100000 in
theorem c_X8_step (l : Launch) (G : GG) (fu : Nat) (S : ST) (a : Nat) (v : GV) {z : GV} (hc : gC v = 8) (hf : f_X8_step fu v = some z) : Ct l yX8_step w_X8_step RM_X8_step G (st S a v) [.ref a] none (st S a z) 0 0 := by
  refine Met.ofW (cc := cX8_step) (maxL := 1) (ret := none) (by decide) rfl ?_
  intro p e s m args below meth c s₁ B hml hv
  obtain ⟨rfl, hB, hK, hz⟩ := hv
  have hM : MC G p s m _ c cX8_step w_X8_step RX8 := ⟨B.exec, B.bytes, findClass_of_methodNamed B.named, atoms_spec (ws := w_X8_step) B.pre, hK, hz⟩
  have hW : WB G (st S a v) s s.heap [] := ⟨hB, va_S.rf⟩
  have hl := lv_entry ([.ref a]) (n := 1) (Nat.le_of_ble_eq_true rfl)
  rw [lg_entry_eq]
  generalize (lg_sl ([.ref a]) ++ List.replicate (1 - (lg_sl ([.ref a])).length) Slot.unset).toArray = ls at hl ⊢
  have hl : lv_has ls 1 [(0, .ref a)] := hl
  exact t_X8_step_0 (fu := fu) hM hml B.returns B.notSynchronized hc hf hc _ _ hW _ (lv_sub hl [0] rfl)
abbrev RM_X1_takeThief : Room := { frames := 2, cells := 0, slots := 0, locals := 47 }
abbrev w_X1_takeThief : List Cond := Cond.code yX1_takeThief cX1_takeThief 3 (some .int) :: wsL_law0
noncomputable def f_X1_takeThief_0 (fu : Nat)  (S : ST) (a : Nat) (g1 : Nat) : Option (Int32 × ST) :=
  bd2 (f_X1_toldAt fu S g1 a 1 (gI (S a) 9)) fun r1 S2 =>
  bd (f_X8_step fu (S2 g1)) fun v4 =>
  nm (st S2 g1 v4) fun Sv4 =>
  some (r1, Sv4)
set_option maxHeartbeats 4000000 in
set_option maxRecDepth 100000 in
theorem t_X1_takeThief_0 {G : GG} {p : Program} {l : Launch} {e : Env} {s : State} {m : MethodId} {args : Array Value} {below : List Frame} {meth : Method} {c : Code} {S0 : ST} {fu : Nat} {z : Int32 × ST} {a : Nat} {g1 : Nat}  {S : ST} (hM : MC G p s m args c cX1_takeThief w_X1_takeThief RX1) (hml : c.maxLocals = 3) (hr : meth.sig.returnType = (some .int)) (hlk : meth.locks = false)   (hf : f_X1_takeThief_0 fu  S a g1  = some z) : (gC (S a) = 1) → (gC (S g1) = 8) → (∀ b, gC (S0 b) ≠ 0 → gC (S b) = gC (S0 b)) → ∀ (H : Heap) (locs : List Loc), WB G S s H locs → ∀ (ls : Array Slot), lv_has ls 3 [(0, .ref a), (1, .ref g1)] → W p l e RM_X1_takeThief s m args below meth c H locs 0 0 (QR G below args s (some (.int z.1)) S0 z.2) (F0 m 0 ls []) := by
  intro ha hg1 hK0 H locs hW ls hl
  have hx := hM.1
  have hb := hM.2.1
  refine lv_aload_n hx hb dX1_takeThief_0 rfl (lv_at hl 1 rfl) ?_
  refine lv_aload_n hx hb dX1_takeThief_1 rfl (lv_at hl 0 rfl) ?_
  refine b_get hM (hW.at_ a) 0 1 ha rfl rfl (by decide) wi_X1 (wgm fk_RX1_15) (x := .ref (a + 2)) rfl dX1_takeThief_2 ?_
  refine lv_aload_n hx hb dX1_takeThief_5 rfl (lv_at hl 0 rfl) ?_
  refine b_get hM (hW.at_ a) 0 9 ha rfl rfl (by decide) wi_X1 (wgm fk_RX1_45) (x := .int (gI (S a) 9)) rfl dX1_takeThief_6 ?_
  obtain ⟨r1, S2, hr1, hf⟩ := bd2_elim hf
  refine s_callSi [.ref g1, .ref (a + 2), .int (gI (S a) 9)] [] hM hml hl.1 hW (c_X1_toldAt l G fu _ _ _ _ _ hg1 ha ⟨by decide, rfl, rfl⟩ hr1) (va_cwS 3 hM.2.2.2.1 (gS mk_RX1_68 sm_X1_toldAt it_RX1 cd_X1_toldAt) rfl rfl rfl (by decide +kernel) ⟨Nat.le_of_ble_eq_true rfl, Nat.le_of_ble_eq_true rfl⟩) rfl rfl (Nat.le_of_ble_eq_true rfl) ⟨Nat.zero_le _, Nat.zero_le _⟩ dX1_takeThief_9 (fun H locs hW hk => ?_)
  have ha := keep1 hk ha
  have hg1 := keep1 hk hg1
  have hK0 := keep_tr hK0 hk
  refine lv_istore_n (lv' := [(2, .int r1), (0, .ref a), (1, .ref g1)]) hx hb dX1_takeThief_12 rfl hl (by decide) rfl (fun ls hl => ?_)
  refine lv_aload_n hx hb dX1_takeThief_13 rfl (lv_at hl 2 rfl) ?_
  obtain ⟨v4, hr3, hf⟩ := bd_elim hf
  refine s_callNv [] [] hM hml hl.1 hW hg1 rfl (by decide) (Ct_self (c_X8_step l G fu _ g1 (S2 g1) hg1 hr3)) (cwV 0 hM.2.2.2.1 (gV mk_RX1_72 im_X8_step se_X8_step it_RX8 cd_X8_step) rfl rfl rfl (by decide +kernel) ⟨Nat.le_of_ble_eq_true rfl, Nat.le_of_ble_eq_true rfl⟩) rfl rfl (Nat.le_of_ble_eq_true rfl) ⟨Nat.zero_le _, Nat.zero_le _⟩ dX1_takeThief_14 (fun Sv4 ev4 hk H locs hW => ?_)
  have hf := nm_at ev4 hf
  have ha := keep1 hk ha
  have hg1 := keep1 hk hg1
  have hK0 := keep_tr hK0 hk
  refine lv_iload_n hx hb dX1_takeThief_17 rfl (lv_at hl 0 rfl) ?_
  cases hf
  exact W.iret hx hb hr (b_ret0 hW hK0 _) hW.2.2.2 dX1_takeThief_18 hlk
noncomputable def f_X1_takeThief (fu : Nat) (S : ST) (a : Nat) (g1 : Nat) : Option (Int32 × ST) := f_X1_takeThief_0 fu S a g1
set_option maxHeartbeats 4000000 in
set_option maxRecDepth 100000 in
theorem c_X1_takeThief (l : Launch) (G : GG) (fu : Nat) (S : ST) (a : Nat) (g1 : Nat) {z : Int32} {w : ST} (ha : gC (S a) = 1) (hg1 : gC (S g1) = 8) (hf : f_X1_takeThief fu S a g1 = some (z, w)) : Ct l yX1_takeThief w_X1_takeThief RM_X1_takeThief G S [.ref a, .ref g1] (some (.int z)) w 0 0 := by
  refine Met.ofW (cc := cX1_takeThief) (maxL := 3) (ret := (some .int)) (by decide) rfl ?_
  intro p e s m args below meth c s₁ B hml hv
  obtain ⟨rfl, hB, hK, hz⟩ := hv
  have hM : MC G p s m _ c cX1_takeThief w_X1_takeThief RX1 := ⟨B.exec, B.bytes, findClass_of_methodNamed B.named, atoms_spec (ws := w_X1_takeThief) B.pre, hK, hz⟩
  have hW : WB G S s s.heap [] := ⟨hB, va_S.rf⟩
  have hl := lv_entry ([.ref a, .ref g1]) (n := 3) (Nat.le_of_ble_eq_true rfl)
  rw [lg_entry_eq]
  generalize (lg_sl ([.ref a, .ref g1]) ++ List.replicate (3 - (lg_sl ([.ref a, .ref g1])).length) Slot.unset).toArray = ls at hl ⊢
  have hl : lv_has ls 3 [(0, .ref a), (1, .ref g1)] := hl
  exact t_X1_takeThief_0 (fu := fu) hM hml B.returns B.notSynchronized hf ha hg1 (fun _ _ => rfl) _ _ hW _ (lv_sub hl [0, 1] rfl)
abbrev RM_X1_thievesAt : Room := { frames := 0, cells := 0, slots := 0, locals := 0 }
abbrev w_X1_thievesAt : List Cond := Cond.code yX1_thievesAt cX1_thievesAt 4 (some .int) :: wsL_law0
noncomputable def f_X1_thievesAt_4s (fu : Nat)  (k4 : Int32 → Int32 → Option (Int32)) (v : GV) (x1 : Int32) (x2 : Int32) (x3 : Int32) : Option (Int32) :=
  if (gI v 9) ≤ x3 then
    (some (x2))
  else
    (ck (inb x3 5) <|
    nm ((x2 ||| ((((gA v 5 x3.toNatClampNeg) >>> (x1 &&& 31)) &&& (1 : Int32)) <<< (x3 &&& 31)))) fun y3 =>
    nm (x3 + (1 : Int32)) fun y4 =>
    k4 y3 y4)
noncomputable def f_X1_thievesAt_4 (fu n : Nat)  (v : GV) (x1 : Int32) : Int32 → Int32 → Option (Int32) :=
  lq_2 (fun k4 => f_X1_thievesAt_4s fu  k4 v  x1) n
set_option maxHeartbeats 4000000 in
set_option maxRecDepth 100000 in
theorem t_X1_thievesAt_4s {G : GG} {p : Program} {l : Launch} {e : Env} {s : State} {m : MethodId} {args : Array Value} {below : List Frame} {meth : Method} {c : Code} {S : ST} {fu : Nat} {z : Int32} {a : Nat} {v : GV}  {k4 : Int32 → Int32 → Option (Int32)} {x1 : Int32} (hM : MC G p s m args c cX1_thievesAt w_X1_thievesAt RX1) (hml : c.maxLocals = 4) (hr : meth.sig.returnType = (some .int)) (hlk : meth.locks = false) (hc0 : gC v = 1)  (hk4 : ∀ (x2 : Int32) (x3 : Int32), k4 x2 x3 = some z → ∀ (H : Heap) (locs : List Loc), WB G (st S a v) s H locs → ∀ (ls : Array Slot), lv_has ls 4 [(0, .ref a), (1, .int x1), (2, .int x2), (3, .int x3)] → W p l e RM_X1_thievesAt s m args below meth c H locs 0 0 (QR G below args s (some (.int z)) (st S a v) (st S a v)) (F0 m 4 ls [])) : ∀ (x2 : Int32) (x3 : Int32), f_X1_thievesAt_4s fu  k4 v  x1 x2 x3 = some z → ∀ (H : Heap) (locs : List Loc), WB G (st S a v) s H locs → ∀ (ls : Array Slot), lv_has ls 4 [(0, .ref a), (1, .int x1), (2, .int x2), (3, .int x3)] → W p l e RM_X1_thievesAt s m args below meth c H locs 0 0 (QR G below args s (some (.int z)) (st S a v) (st S a v)) (F0 m 4 ls []) := by
  intro x2 x3 hf  H locs hW ls hl
  have hx := hM.1
  have hb := hM.2.1
  have hc := hc0
  refine lv_iload_n hx hb dX1_thievesAt_4 rfl (lv_at hl 3 rfl) ?_
  refine lv_aload_n hx hb dX1_thievesAt_5 rfl (lv_at hl 0 rfl) ?_
  refine b_get hM hW 0 9 hc rfl rfl (by decide) wi_X1 (wgm fk_RX1_45) (x := .int (gI v 9)) rfl dX1_thievesAt_6 ?_
  refine lv_icmp_ge (tgt := 33) hx hb dX1_thievesAt_9 (by decide) (fun c1 => ?_) (fun c1 => ?_)
  · have hf := if_t c1 hf
    refine lv_iload_n hx hb dX1_thievesAt_33 rfl (lv_at hl 2 rfl) ?_
    cases hf
    exact W.iret hx hb hr (b_ret0 hW (fun _ _ => rfl) _) hW.2.2.2 dX1_thievesAt_34 hlk
  · have hf := if_f c1 hf
    refine lv_iload_n hx hb dX1_thievesAt_12 rfl (lv_at hl 2 rfl) ?_
    refine lv_aload_n hx hb dX1_thievesAt_13 rfl (lv_at hl 0 rfl) ?_
    refine b_get hM hW 0 5 hc rfl rfl (by decide) wi_X1 (wgm fk_RX1_28) (x := .ref (a + 6)) rfl dX1_thievesAt_14 ?_
    refine lv_iload_n hx hb dX1_thievesAt_17 rfl (lv_at hl 3 rfl) ?_
    obtain ⟨h2, hf⟩ := ck_elim hf
    refine b_iald (n := 5) hM hW 0 5 hc (by decide) rfl rfl rfl rfl h2 dX1_thievesAt_18 ?_
    refine lv_iload_n hx hb dX1_thievesAt_19 rfl (lv_at hl 1 rfl) ?_
    refine lv_ishr hx hb dX1_thievesAt_20 ?_
    refine lv_iconst (v := (1 : Int32)) hx hb dX1_thievesAt_21 (by decide) ?_
    refine lv_iand hx hb dX1_thievesAt_22 ?_
    refine lv_iload_n hx hb dX1_thievesAt_23 rfl (lv_at hl 3 rfl) ?_
    refine lv_ishl hx hb dX1_thievesAt_24 ?_
    refine lv_ior hx hb dX1_thievesAt_25 ?_
    refine lv_topi (fun y3 ey3 => ?_)
    have hf := nm_at ey3 hf
    refine lv_istore_n (lv' := [(2, .int y3), (0, .ref a), (1, .int x1), (3, .int x3)]) hx hb dX1_thievesAt_26 rfl hl (by decide) rfl (fun ls hl => ?_)
    obtain ⟨y4, ey4⟩ : ∃ y : Int32, y = x3 + (1 : Int32) := ⟨_, rfl⟩
    have hf := nm_at ey4 hf
    refine lv_iinc (v := y4) (lv' := [(3, .int y4), (2, .int y3), (0, .ref a), (1, .int x1)]) hx hb dX1_thievesAt_27 hl (k := 3) rfl (by rw [ey4]; rfl) (by decide) rfl (fun ls hl => ?_)
    refine lv_goto (tgt := 4) hx hb dX1_thievesAt_30 (by decide) ?_
    exact hk4 _ _ hf _ _ hW _ (lv_sub hl [2, 3, 1, 0] rfl)
theorem t_X1_thievesAt_4 {G : GG} {p : Program} {l : Launch} {e : Env} {s : State} {m : MethodId} {args : Array Value} {below : List Frame} {meth : Method} {c : Code} {S : ST} {fu : Nat} {z : Int32} {a : Nat} {v : GV}  {x1 : Int32} (hM : MC G p s m args c cX1_thievesAt w_X1_thievesAt RX1) (hml : c.maxLocals = 4) (hr : meth.sig.returnType = (some .int)) (hlk : meth.locks = false) (hc0 : gC v = 1)  : ∀ {n : Nat} (x2 : Int32) (x3 : Int32), f_X1_thievesAt_4 fu n  v  x1 x2 x3 = some z → ∀ (H : Heap) (locs : List Loc), WB G (st S a v) s H locs → ∀ (ls : Array Slot), lv_has ls 4 [(0, .ref a), (1, .int x1), (2, .int x2), (3, .int x3)] → W p l e RM_X1_thievesAt s m args below meth c H locs 0 0 (QR G below args s (some (.int z)) (st S a v) (st S a v)) (F0 m 4 ls []) := by
  intro n
  induction n with
  | zero => intro x2 x3 hf; cases hf
  | succ n ih => intro x2 x3 hf; exact t_X1_thievesAt_4s (fu := fu) hM hml hr hlk hc0 (k4 := f_X1_thievesAt_4 fu n  v  x1) ih _ _ hf
noncomputable def f_X1_thievesAt_0 (fu : Nat)  (v : GV) (x1 : Int32) : Option (Int32) :=
  f_X1_thievesAt_4 fu fu v x1 (0 : Int32) (0 : Int32)
set_option maxHeartbeats 4000000 in
set_option maxRecDepth 100000 in
theorem t_X1_thievesAt_0 {G : GG} {p : Program} {l : Launch} {e : Env} {s : State} {m : MethodId} {args : Array Value} {below : List Frame} {meth : Method} {c : Code} {S : ST} {fu : Nat} {z : Int32} {a : Nat} {v : GV}  {x1 : Int32} (hM : MC G p s m args c cX1_thievesAt w_X1_thievesAt RX1) (hml : c.maxLocals = 4) (hr : meth.sig.returnType = (some .int)) (hlk : meth.locks = false) (hc0 : gC v = 1)  (hf : f_X1_thievesAt_0 fu  v  x1 = some z) : ∀ (H : Heap) (locs : List Loc), WB G (st S a v) s H locs → ∀ (ls : Array Slot), lv_has ls 4 [(0, .ref a), (1, .int x1)] → W p l e RM_X1_thievesAt s m args below meth c H locs 0 0 (QR G below args s (some (.int z)) (st S a v) (st S a v)) (F0 m 0 ls []) := by
  intro  H locs hW ls hl
  have hx := hM.1
  have hb := hM.2.1
  have hc := hc0
  refine lv_iconst (v := (0 : Int32)) hx hb dX1_thievesAt_0 (by decide) ?_
  refine lv_istore_n (lv' := [(2, .int (0 : Int32)), (0, .ref a), (1, .int x1)]) hx hb dX1_thievesAt_1 rfl hl (by decide) rfl (fun ls hl => ?_)
  refine lv_iconst (v := (0 : Int32)) hx hb dX1_thievesAt_2 (by decide) ?_
  refine lv_istore_n (lv' := [(3, .int (0 : Int32)), (2, .int (0 : Int32)), (0, .ref a), (1, .int x1)]) hx hb dX1_thievesAt_3 rfl hl (by decide) rfl (fun ls hl => ?_)
  exact t_X1_thievesAt_4 (fu := fu) hM hml hr hlk hc0 _ _ hf _ _ hW _ (lv_sub hl [2, 3, 1, 0] rfl)
noncomputable def f_X1_thievesAt (fu : Nat) (v : GV) (x1 : Int32) : Option (Int32) := f_X1_thievesAt_0 fu v x1
set_option maxHeartbeats 4000000 in
set_option maxRecDepth 100000 in
theorem c_X1_thievesAt (l : Launch) (G : GG) (fu : Nat) (S : ST) (a : Nat) (v : GV) (x1 : Int32) {z : Int32} (hc : gC v = 1) (hf : f_X1_thievesAt fu v x1 = some z) : Ct l yX1_thievesAt w_X1_thievesAt RM_X1_thievesAt G (st S a v) [.ref a, .int x1] (some (.int z)) (st S a v) 0 0 := by
  refine Met.ofW (cc := cX1_thievesAt) (maxL := 4) (ret := (some .int)) (by decide) rfl ?_
  intro p e s m args below meth c s₁ B hml hv
  obtain ⟨rfl, hB, hK, hz⟩ := hv
  have hM : MC G p s m _ c cX1_thievesAt w_X1_thievesAt RX1 := ⟨B.exec, B.bytes, findClass_of_methodNamed B.named, atoms_spec (ws := w_X1_thievesAt) B.pre, hK, hz⟩
  have hW : WB G (st S a v) s s.heap [] := ⟨hB, va_S.rf⟩
  have hl := lv_entry ([.ref a, .int x1]) (n := 4) (Nat.le_of_ble_eq_true rfl)
  rw [lg_entry_eq]
  generalize (lg_sl ([.ref a, .int x1]) ++ List.replicate (4 - (lg_sl ([.ref a, .int x1])).length) Slot.unset).toArray = ls at hl ⊢
  have hl : lv_has ls 4 [(0, .ref a), (1, .int x1)] := hl
  exact t_X1_thievesAt_0 (fu := fu) hM hml B.returns B.notSynchronized hc hf _ _ hW _ (lv_sub hl [0, 1] rfl)
abbrev RM_X8_stepOrFail : Room := { frames := 1, cells := 0, slots := 0, locals := 21 }
abbrev w_X8_stepOrFail : List Cond := Cond.code yX8_stepOrFail cX8_stepOrFail 3 none :: wsL_law0
noncomputable def f_X8_stepOrFail_0 (fu : Nat)  (v : GV) (x1 : Int32) (x2 : Int32) : Option (GV) :=
  if x1 = 0 then
    (bd (f_X8_fail fu v x2) fun v3 =>
    some v3)
  else
    (bd (f_X8_step fu v) fun v5 =>
    some v5)
set_option maxHeartbeats 4000000 in
set_option maxRecDepth 100000 in
theorem t_X8_stepOrFail_0 {G : GG} {p : Program} {l : Launch} {e : Env} {s : State} {m : MethodId} {args : Array Value} {below : List Frame} {meth : Method} {c : Code} {S : ST} {fu : Nat} {z : GV} {a : Nat} {v0 : GV}  {v : GV} {x1 : Int32} {x2 : Int32} (hM : MC G p s m args c cX8_stepOrFail w_X8_stepOrFail RX8) (hml : c.maxLocals = 3) (hr : meth.sig.returnType = none) (hlk : meth.locks = false) (hc0 : gC v0 = 8)  (hf : f_X8_stepOrFail_0 fu  v  x1 x2 = some z) : (gC v = 8) → ∀ (H : Heap) (locs : List Loc), WB G (st S a v) s H locs → ∀ (ls : Array Slot), lv_has ls 3 [(0, .ref a), (1, .int x1), (2, .int x2)] → W p l e RM_X8_stepOrFail s m args below meth c H locs 0 0 (QR G below args s none (st S a v0) (st S a z)) (F0 m 0 ls []) := by
  intro hc H locs hW ls hl
  have hx := hM.1
  have hb := hM.2.1
  refine lv_iload_n hx hb dX8_stepOrFail_0 rfl (lv_at hl 1 rfl) ?_
  refine lv_if_eq (tgt := 11) hx hb dX8_stepOrFail_1 (by decide) (fun c1 => ?_) (fun c1 => ?_)
  · have hf := if_t c1 hf
    refine lv_aload_n hx hb dX8_stepOrFail_11 rfl (lv_at hl 0 rfl) ?_
    refine lv_iload_n hx hb dX8_stepOrFail_12 rfl (lv_at hl 2 rfl) ?_
    obtain ⟨v3, hr2, hf⟩ := bd_elim hf
    refine b_callVv [.int x2] [] hM hml hl.1 hW hc rfl (by decide) (c_X8_fail l G fu _ a v _ hc hr2) (cwV 1 hM.2.2.2.1 (gV mk_RX8_102 im_X8_fail se_X8_fail it_RX8 cd_X8_fail) rfl rfl rfl (by decide +kernel) ⟨Nat.le_of_ble_eq_true rfl, Nat.le_of_ble_eq_true rfl⟩) rfl rfl (Nat.le_of_ble_eq_true rfl) ⟨Nat.zero_le _, Nat.zero_le _⟩ dX8_stepOrFail_13 (fun H locs hW hk => ?_)
    have hc := keep_at hc hk
    cases hf
    exact W.vret hx hb hr (b_ret0 hW (keep_s2 hc0 hc) _) hW.2.2.2 dX8_stepOrFail_16 hlk
  · have hf := if_f c1 hf
    refine lv_aload_n hx hb dX8_stepOrFail_4 rfl (lv_at hl 0 rfl) ?_
    obtain ⟨v5, hr4, hf⟩ := bd_elim hf
    refine b_callVv [] [] hM hml hl.1 hW hc rfl (by decide) (c_X8_step l G fu _ a v hc hr4) (cwV 0 hM.2.2.2.1 (gV mk_RX8_99 im_X8_step se_X8_step it_RX8 cd_X8_step) rfl rfl rfl (by decide +kernel) ⟨Nat.le_of_ble_eq_true rfl, Nat.le_of_ble_eq_true rfl⟩) rfl rfl (Nat.le_of_ble_eq_true rfl) ⟨Nat.zero_le _, Nat.zero_le _⟩ dX8_stepOrFail_5 (fun H locs hW hk => ?_)
    have hc := keep_at hc hk
    refine lv_goto (tgt := 16) hx hb dX8_stepOrFail_8 (by decide) ?_
    cases hf
    exact W.vret hx hb hr (b_ret0 hW (keep_s2 hc0 hc) _) hW.2.2.2 dX8_stepOrFail_16 hlk
noncomputable def f_X8_stepOrFail (fu : Nat) (v : GV) (x1 : Int32) (x2 : Int32) : Option (GV) := f_X8_stepOrFail_0 fu v x1 x2
set_option maxHeartbeats 4000000 in
set_option maxRecDepth 100000 in
theorem c_X8_stepOrFail (l : Launch) (G : GG) (fu : Nat) (S : ST) (a : Nat) (v : GV) (x1 : Int32) (x2 : Int32) {z : GV} (hc : gC v = 8) (hf : f_X8_stepOrFail fu v x1 x2 = some z) : Ct l yX8_stepOrFail w_X8_stepOrFail RM_X8_stepOrFail G (st S a v) [.ref a, .int x1, .int x2] none (st S a z) 0 0 := by
  refine Met.ofW (cc := cX8_stepOrFail) (maxL := 3) (ret := none) (by decide) rfl ?_
  intro p e s m args below meth c s₁ B hml hv
  obtain ⟨rfl, hB, hK, hz⟩ := hv
  have hM : MC G p s m _ c cX8_stepOrFail w_X8_stepOrFail RX8 := ⟨B.exec, B.bytes, findClass_of_methodNamed B.named, atoms_spec (ws := w_X8_stepOrFail) B.pre, hK, hz⟩
  have hW : WB G (st S a v) s s.heap [] := ⟨hB, va_S.rf⟩
  have hl := lv_entry ([.ref a, .int x1, .int x2]) (n := 3) (Nat.le_of_ble_eq_true rfl)
  rw [lg_entry_eq]
  generalize (lg_sl ([.ref a, .int x1, .int x2]) ++ List.replicate (3 - (lg_sl ([.ref a, .int x1, .int x2])).length) Slot.unset).toArray = ls at hl ⊢
  have hl : lv_has ls 3 [(0, .ref a), (1, .int x1), (2, .int x2)] := hl
  exact t_X8_stepOrFail_0 (fu := fu) hM hml B.returns B.notSynchronized hc hf hc _ _ hW _ (lv_sub hl [0, 1, 2] rfl)
