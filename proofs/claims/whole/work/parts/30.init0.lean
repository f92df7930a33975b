abbrev RM_X8_init : Room := { frames := 1, cells := 4, slots := 4003, locals := 40 }
abbrev w_X8_init : List Cond := Cond.code yX8_init cX8_init 1 none :: wsL_law0
noncomputable def f_X8_init_g1 (fu : Nat) (G : GG) (S : ST) (a : Nat) : Option ST :=
  ck (decide (gC (S a) = 20)) <|
  nm (st S a (sI (S a) 5 (0 : Int32))) fun S15 =>
  ck (decide (gC (S15 a) = 20)) <|
  nm (st S15 a (sI (S15 a) 6 (0 : Int32))) fun S17 =>
  ck (decide (gC (S17 a) = 20)) <|
  nm (st S17 a (sI (S17 a) 7 (0 : Int32))) fun S19 =>
  ck (frB G S19 a 7 28) <|
  nm (frm S19 a 7 28) fun S22 =>
  some S22
set_option maxHeartbeats 40000000 in
set_option maxRecDepth 100000 in
theorem t_X8_init_g1 {G : GG} {p : Program} {l : Launch} {e : Env} {s : State} {m : MethodId} {args : Array Value} {below : List Frame} {meth : Method} {c : Code} {S : ST} {fu a : Nat} {z : ST} (hM : MC G p s m args c cX8_init w_X8_init RX8) (hml : c.maxLocals = 1) (hr : meth.sig.returnType = none) (hlk : meth.locks = false) (hin2 : meth.name = "<init>") (hs0 : s.heap.size = a + 1) (hf : f_X8_init_g1 fu G S a = some z) : ∀ (H : Heap) (locs : List Loc), WB G S s H locs → H.size = a + 5 → ∀ (ls : Array Slot), lv_has ls 1 [(0, .ref a)] → W p l e RM_X8_init s m args below meth c H locs 4 4003 (QN G below args s none z (a + 5) 4 4003) (F0 m 45 ls []) := by
  intro H locs hW hz ls hl
  have hx := hM.1
  have hb := hM.2.1
  unfold f_X8_init_g1 at hf
  refine lv_aload_n hx hb dX8_init_45 rfl (lv_at hl 0 rfl) ?_
  refine lv_iconst (v := (0 : Int32)) hx hb dX8_init_46 (by decide) ?_
  obtain ⟨h16, hf⟩ := ck_elim hf
  have h16 := of_decide_eq_true h16
  refine n_putI hM  hW 19 5 h16 rfl rfl (by decide) wi_X8 tyX8 tyX8_ok nmX8 (wgm fk_RX8_30) rfl rfl rfl dX8_init_47 (fun S15 eS15 H locs hz9 hW => ?_)
  have hf := nm_at eS15 hf
  have hz : H.size = a + 5 := hz9.trans hz
  refine lv_aload_n hx hb dX8_init_50 rfl (lv_at hl 0 rfl) ?_
  refine lv_iconst (v := (0 : Int32)) hx hb dX8_init_51 (by decide) ?_
  obtain ⟨h18, hf⟩ := ck_elim hf
  have h18 := of_decide_eq_true h18
  refine n_putI hM  hW 19 6 h18 rfl rfl (by decide) wi_X8 tyX8 tyX8_ok nmX8 (wgm fk_RX8_33) rfl rfl rfl dX8_init_52 (fun S17 eS17 H locs hz9 hW => ?_)
  have hf := nm_at eS17 hf
  have hz : H.size = a + 5 := hz9.trans hz
  refine lv_aload_n hx hb dX8_init_55 rfl (lv_at hl 0 rfl) ?_
  refine lv_iconst (v := (0 : Int32)) hx hb dX8_init_56 (by decide) ?_
  obtain ⟨h20, hf⟩ := ck_elim hf
  have h20 := of_decide_eq_true h20
  refine n_putI hM  hW 19 7 h20 rfl rfl (by decide) wi_X8 tyX8 tyX8_ok nmX8 (wgm fk_RX8_36) rfl rfl rfl dX8_init_57 (fun S19 eS19 H locs hz9 hW => ?_)
  have hf := nm_at eS19 hf
  have hz : H.size = a + 5 := hz9.trans hz
  obtain ⟨h21, hf⟩ := ck_elim hf
  have hW := hW.form (frB_ok h21 (by decide) (by decide))
  obtain ⟨S22, eS22⟩ : ∃ y : ST, y = frm S19 a 7 28 := ⟨_, rfl⟩
  rw [← eS22] at hW
  have hf := nm_at eS22 hf
  cases hf
  exact W.vret hx hb hr (n_ret hW hz _) hW.2.2.2 dX8_init_60 hlk
noncomputable def f_X8_init (fu : Nat) (G : GG) (S : ST) (a : Nat) : Option ST :=
  nm (st S (a + 1) (barr 3 1000)) fun S1 =>
  ck (decide (gC (S1 a) = 20)) <|
  nm (st S1 a (sR (S1 a) 0 (some (a + 1)))) fun S2 =>
  nm (st S2 (a + 2) (barr 1 1001)) fun S4 =>
  ck (decide (gC (S4 a) = 20)) <|
  nm (st S4 a (sR (S4 a) 1 (some (a + 2)))) fun S5 =>
  nm (st S5 (a + 3) (barr 1 1001)) fun S7 =>
  ck (decide (gC (S7 a) = 20)) <|
  nm (st S7 a (sR (S7 a) 2 (some (a + 3)))) fun S8 =>
  nm (st S8 (a + 4) (barr 2 1001)) fun S10 =>
  ck (decide (gC (S10 a) = 20)) <|
  nm (st S10 a (sR (S10 a) 3 (some (a + 4)))) fun S11 =>
  ck (decide (gC (S11 a) = 20)) <|
  nm (st S11 a (sI (S11 a) 4 (0 : Int32))) fun S13 =>
  f_X8_init_g1 fu G S13 a
set_option maxHeartbeats 40000000 in
set_option maxRecDepth 100000 in
theorem c_X8_init (l : Launch) (G : GG) (fu : Nat) (S : ST) (a : Nat) {z : ST} (hf : f_X8_init fu G S a = some z) : Cn l yX8_init w_X8_init RM_X8_init G S (a + 1) [.ref a] none z (a + 5) 4 4003 := by
  refine Met.ofW (cc := cX8_init) (maxL := 1) (ret := none) (by decide) rfl ?_
  intro p e s m args below meth c s₁ B hml hv
  obtain ⟨rfl, hB, hK, hzw, hz⟩ := hv
  have hM : MC G p s m _ c cX8_init w_X8_init RX8 := ⟨B.exec, B.bytes, findClass_of_methodNamed B.named, atoms_spec (ws := w_X8_init) B.pre, hK, hzw⟩
  have hW : WB G S s s.heap [] := ⟨hB, va_S.rf⟩
  have hin2 : meth.name = "<init>" := (name_of_methodNamed B.named B.method).1
  have hr := B.returns
  have hlk := B.notSynchronized
  have hx := hM.1
  have hb := hM.2.1
  have hs0 := hz
  have hl := lv_entry ([.ref a]) (n := 1) (Nat.le_of_ble_eq_true rfl)
  rw [lg_entry_eq]
  generalize (lg_sl ([.ref a]) ++ List.replicate (1 - (lg_sl ([.ref a])).length) Slot.unset).toArray = ls at hl ⊢
  have hl : lv_has ls 1 [(0, .ref a)] := hl
  unfold f_X8_init at hf
  refine lv_aload_n hx hb dX8_init_0 rfl (lv_at hl 0 rfl) ?_
  refine n_obj hM hml hl.1 mk_RX8_3 (Nat.le_of_ble_eq_true rfl) (Nat.le_of_ble_eq_true rfl) dX8_init_1 ?_
  refine lv_aload_n hx hb dX8_init_4 rfl (lv_at hl 0 rfl) ?_
  refine lv_sipush (v := (1000 : Int32)) hx hb dX8_init_5 (by decide) ?_
  refine m_newa hM hW hz 3 (by decide) rfl (wgm wd_ac) 1000 (by decide) (by decide) (by decide) (Nat.le_of_ble_eq_true rfl) (Nat.le_of_ble_eq_true rfl) dX8_init_8 (fun S1 eS1 hk hg9 H hz hW => ?_)
  have hf := nm_at eS1 hf
  have hz : H.size = a + 2 := hz
  obtain ⟨h3, hf⟩ := ck_elim hf
  have h3 := of_decide_eq_true h3
  refine m_putFR hM hin2 hW 19 0 h3 rfl rfl (by decide) wi_X8 tyX8 tyX8_ok nmX8 (wgm fk_RX8_9) rfl rfl rfl (Or.inr ⟨_, rfl⟩) (a + 1) dX8_init_10 (fun S2 eS2 H locs hz9 hW => ?_)
  have hf := nm_at eS2 hf
  have hz : H.size = a + 2 := hz9.trans hz
  refine lv_aload_n hx hb dX8_init_13 rfl (lv_at hl 0 rfl) ?_
  refine lv_sipush (v := (1001 : Int32)) hx hb dX8_init_14 (by decide) ?_
  refine m_newa hM hW hz 1 (by decide) rfl (wgm wd_ai) 1001 (by decide) (by decide) (by decide) (Nat.le_of_ble_eq_true rfl) (Nat.le_of_ble_eq_true rfl) dX8_init_17 (fun S4 eS4 hk hg9 H hz hW => ?_)
  have hf := nm_at eS4 hf
  have hz : H.size = a + 3 := hz
  obtain ⟨h6, hf⟩ := ck_elim hf
  have h6 := of_decide_eq_true h6
  refine m_putFR hM hin2 hW 19 1 h6 rfl rfl (by decide) wi_X8 tyX8 tyX8_ok nmX8 (wgm fk_RX8_15) rfl rfl rfl (Or.inr ⟨_, rfl⟩) (a + 2) dX8_init_19 (fun S5 eS5 H locs hz9 hW => ?_)
  have hf := nm_at eS5 hf
  have hz : H.size = a + 3 := hz9.trans hz
  refine lv_aload_n hx hb dX8_init_22 rfl (lv_at hl 0 rfl) ?_
  refine lv_sipush (v := (1001 : Int32)) hx hb dX8_init_23 (by decide) ?_
  refine m_newa hM hW hz 1 (by decide) rfl (wgm wd_ai) 1001 (by decide) (by decide) (by decide) (Nat.le_of_ble_eq_true rfl) (Nat.le_of_ble_eq_true rfl) dX8_init_26 (fun S7 eS7 hk hg9 H hz hW => ?_)
  have hf := nm_at eS7 hf
  have hz : H.size = a + 4 := hz
  obtain ⟨h9, hf⟩ := ck_elim hf
  have h9 := of_decide_eq_true h9
  refine m_putFR hM hin2 hW 19 2 h9 rfl rfl (by decide) wi_X8 tyX8 tyX8_ok nmX8 (wgm fk_RX8_19) rfl rfl rfl (Or.inr ⟨_, rfl⟩) (a + 3) dX8_init_28 (fun S8 eS8 H locs hz9 hW => ?_)
  have hf := nm_at eS8 hf
  have hz : H.size = a + 4 := hz9.trans hz
  refine lv_aload_n hx hb dX8_init_31 rfl (lv_at hl 0 rfl) ?_
  refine lv_sipush (v := (1001 : Int32)) hx hb dX8_init_32 (by decide) ?_
  refine m_newa hM hW hz 2 (by decide) rfl (wgm wd_al) 1001 (by decide) (by decide) (by decide) (Nat.le_of_ble_eq_true rfl) (Nat.le_of_ble_eq_true rfl) dX8_init_35 (fun S10 eS10 hk hg9 H hz hW => ?_)
  have hf := nm_at eS10 hf
  have hz : H.size = a + 5 := hz
  obtain ⟨h12, hf⟩ := ck_elim hf
  have h12 := of_decide_eq_true h12
  refine m_putFR hM hin2 hW 19 3 h12 rfl rfl (by decide) wi_X8 tyX8 tyX8_ok nmX8 (wgm fk_RX8_22) rfl rfl rfl (Or.inr ⟨_, rfl⟩) (a + 4) dX8_init_37 (fun S11 eS11 H locs hz9 hW => ?_)
  have hf := nm_at eS11 hf
  have hz : H.size = a + 5 := hz9.trans hz
  refine lv_aload_n hx hb dX8_init_40 rfl (lv_at hl 0 rfl) ?_
  refine lv_iconst (v := (0 : Int32)) hx hb dX8_init_41 (by decide) ?_
  obtain ⟨h14, hf⟩ := ck_elim hf
  have h14 := of_decide_eq_true h14
  refine n_putI hM  hW 19 4 h14 rfl rfl (by decide) wi_X8 tyX8 tyX8_ok nmX8 (wgm fk_RX8_26) rfl rfl rfl dX8_init_42 (fun S13 eS13 H locs hz9 hW => ?_)
  have hf := nm_at eS13 hf
  have hz : H.size = a + 5 := hz9.trans hz
  exact t_X8_init_g1 hM hml hr hlk hin2 hs0 hf _ _ hW hz _ (lv_sub hl [0] rfl)
abbrev RM_X3_init : Room := { frames := 2, cells := 6, slots := 45, locals := 43 }
abbrev w_X3_init : List Cond := Cond.code yX3_init cX3_init 1 none :: wsL_law0
noncomputable def f_X3_init_g2 (fu : Nat) (G : GG) (S : ST) (a : Nat) : Option ST :=
  ck (decide (gC (S a) = 15)) <|
  nm (st S a (sI (S a) 12 (0 : Int32))) fun S31 =>
  ck (frB G S31 a 2 28) <|
  nm (frm S31 a 2 28) fun S34 =>
  ck (decide (gC (S34 a) = 3)) <|
  bd (f_X3_clear fu S34 a ) fun S36 =>
  ck (decide (gC (S36 a) = 3)) <|
  some S36
set_option maxHeartbeats 40000000 in
set_option maxRecDepth 100000 in
theorem t_X3_init_g2 {G : GG} {p : Program} {l : Launch} {e : Env} {s : State} {m : MethodId} {args : Array Value} {below : List Frame} {meth : Method} {c : Code} {S : ST} {fu a : Nat} {z : ST} (hM : MC G p s m args c cX3_init w_X3_init RX3) (hml : c.maxLocals = 1) (hr : meth.sig.returnType = none) (hlk : meth.locks = false) (hin2 : meth.name = "<init>") (hs0 : s.heap.size = a + 1) (hf : f_X3_init_g2 fu G S a = some z) : ∀ (H : Heap) (locs : List Loc), WB G S s H locs → H.size = a + 7 → ∀ (ls : Array Slot), lv_has ls 1 [(0, .ref a)] → W p l e RM_X3_init s m args below meth c H locs 6 45 (QN G below args s none z (a + 7) 6 45) (F0 m 81 ls []) := by
  intro H locs hW hz ls hl
  have hx := hM.1
  have hb := hM.2.1
  unfold f_X3_init_g2 at hf
  refine lv_aload_n hx hb dX3_init_81 rfl (lv_at hl 0 rfl) ?_
  refine lv_iconst (v := (0 : Int32)) hx hb dX3_init_82 (by decide) ?_
  obtain ⟨h32, hf⟩ := ck_elim hf
  have h32 := of_decide_eq_true h32
  refine n_putI hM  hW 14 12 h32 rfl rfl (by decide) wi_X3 tyX3 tyX3_ok nmX3 (wgm fk_RX3_49) rfl rfl rfl dX3_init_83 (fun S31 eS31 H locs hz9 hW => ?_)
  have hf := nm_at eS31 hf
  have hz : H.size = a + 7 := hz9.trans hz
  refine lv_aload_n hx hb dX3_init_86 rfl (lv_at hl 0 rfl) ?_
  obtain ⟨h33, hf⟩ := ck_elim hf
  have hW := hW.form (frB_ok h33 (by decide) (by decide))
  obtain ⟨S34, eS34⟩ : ∃ y : ST, y = frm S31 a 2 28 := ⟨_, rfl⟩
  rw [← eS34] at hW
  have hf := nm_at eS34 hf
  obtain ⟨h35, hf⟩ := ck_elim hf
  have h35 := of_decide_eq_true h35
  obtain ⟨S36, hS36, hf⟩ := bd_elim hf
  refine s_callVv [] [] hM hml hl.1 hW h35 rfl (by decide) (c_X3_clear l G fu _ a  h35 hS36) (cwV 0 hM.2.2.2.1 (gV mk_RX3_52 im_X3_clear se_X3_clear it_RX3 cd_X3_clear) rfl rfl rfl (by decide +kernel) ⟨Nat.le_of_ble_eq_true rfl, Nat.le_of_ble_eq_true rfl⟩) rfl rfl (Nat.le_of_ble_eq_true rfl) ⟨Nat.le_of_ble_eq_true rfl, Nat.le_of_ble_eq_true rfl⟩ dX3_init_87 (fun H locs hW hk => ?_)
  obtain ⟨h37, hf⟩ := ck_elim hf
  have h37 := of_decide_eq_true h37
  refine W.size (fun hz9 => ?_)
  have hz : H.size = a + 7 := by
    have h1 := hW.1.lt (b := a) h37 (x := 6) (Or.inr ⟨5, by decide, rfl, rfl⟩)
    omega
  cases hf
  exact W.vret hx hb hr (n_ret hW hz _) hW.2.2.2 dX3_init_90 hlk
noncomputable def f_X3_init_g1 (fu : Nat) (G : GG) (S : ST) (a : Nat) : Option ST :=
  nm (st S (a + 6) (barr 1 5)) fun S16 =>
  ck (decide (gC (S16 a) = 15)) <|
  nm (st S16 a (sR (S16 a) 5 (some (a + 6)))) fun S17 =>
  ck (decide (gC (S17 a) = 15)) <|
  nm (st S17 a (sI (S17 a) 6 (0 : Int32))) fun S19 =>
  ck (decide (gC (S19 a) = 15)) <|
  nm (st S19 a (sI (S19 a) 7 (1 : Int32))) fun S21 =>
  ck (decide (gC (S21 a) = 15)) <|
  nm (st S21 a (sI (S21 a) 8 (0 : Int32))) fun S23 =>
  ck (decide (gC (S23 a) = 15)) <|
  nm (st S23 a (sI (S23 a) 9 (0 : Int32))) fun S25 =>
  ck (decide (gC (S25 a) = 15)) <|
  nm (st S25 a (sI (S25 a) 10 (0 : Int32))) fun S27 =>
  ck (decide (gC (S27 a) = 15)) <|
  nm (st S27 a (sI (S27 a) 11 (0 : Int32))) fun S29 =>
  f_X3_init_g2 fu G S29 a
set_option maxHeartbeats 40000000 in
set_option maxRecDepth 100000 in
theorem t_X3_init_g1 {G : GG} {p : Program} {l : Launch} {e : Env} {s : State} {m : MethodId} {args : Array Value} {below : List Frame} {meth : Method} {c : Code} {S : ST} {fu a : Nat} {z : ST} (hM : MC G p s m args c cX3_init w_X3_init RX3) (hml : c.maxLocals = 1) (hr : meth.sig.returnType = none) (hlk : meth.locks = false) (hin2 : meth.name = "<init>") (hs0 : s.heap.size = a + 1) (hf : f_X3_init_g1 fu G S a = some z) : ∀ (H : Heap) (locs : List Loc), WB G S s H locs → H.size = a + 6 → ∀ (ls : Array Slot), lv_has ls 1 [(0, .ref a)] → W p l e RM_X3_init s m args below meth c H locs 5 40 (QN G below args s none z (a + 7) 6 45) (F0 m 44 ls []) := by
  intro H locs hW hz ls hl
  have hx := hM.1
  have hb := hM.2.1
  unfold f_X3_init_g1 at hf
  refine lv_aload_n hx hb dX3_init_44 rfl (lv_at hl 0 rfl) ?_
  refine lv_iconst (v := (5 : Int32)) hx hb dX3_init_45 (by decide) ?_
  refine m_newa hM hW hz 1 (by decide) rfl (wgm wd_ai) 5 (by decide) (by decide) (by decide) (Nat.le_of_ble_eq_true rfl) (Nat.le_of_ble_eq_true rfl) dX3_init_46 (fun S16 eS16 hk hg9 H hz hW => ?_)
  have hf := nm_at eS16 hf
  have hz : H.size = a + 7 := hz
  obtain ⟨h18, hf⟩ := ck_elim hf
  have h18 := of_decide_eq_true h18
  refine m_putFR hM hin2 hW 14 5 h18 rfl rfl (by decide) wi_X3 tyX3 tyX3_ok nmX3 (wgm fk_RX3_27) rfl rfl rfl (Or.inr ⟨_, rfl⟩) (a + 6) dX3_init_48 (fun S17 eS17 H locs hz9 hW => ?_)
  have hf := nm_at eS17 hf
  have hz : H.size = a + 7 := hz9.trans hz
  refine lv_aload_n hx hb dX3_init_51 rfl (lv_at hl 0 rfl) ?_
  refine lv_iconst (v := (0 : Int32)) hx hb dX3_init_52 (by decide) ?_
  obtain ⟨h20, hf⟩ := ck_elim hf
  have h20 := of_decide_eq_true h20
  refine n_putI hM  hW 14 6 h20 rfl rfl (by decide) wi_X3 tyX3 tyX3_ok nmX3 (wgm fk_RX3_30) rfl rfl rfl dX3_init_53 (fun S19 eS19 H locs hz9 hW => ?_)
  have hf := nm_at eS19 hf
  have hz : H.size = a + 7 := hz9.trans hz
  refine lv_aload_n hx hb dX3_init_56 rfl (lv_at hl 0 rfl) ?_
  refine lv_iconst (v := (1 : Int32)) hx hb dX3_init_57 (by decide) ?_
  obtain ⟨h22, hf⟩ := ck_elim hf
  have h22 := of_decide_eq_true h22
  refine n_putI hM  hW 14 7 h22 rfl rfl (by decide) wi_X3 tyX3 tyX3_ok nmX3 (wgm fk_RX3_34) rfl rfl rfl dX3_init_58 (fun S21 eS21 H locs hz9 hW => ?_)
  have hf := nm_at eS21 hf
  have hz : H.size = a + 7 := hz9.trans hz
  refine lv_aload_n hx hb dX3_init_61 rfl (lv_at hl 0 rfl) ?_
  refine lv_iconst (v := (0 : Int32)) hx hb dX3_init_62 (by decide) ?_
  obtain ⟨h24, hf⟩ := ck_elim hf
  have h24 := of_decide_eq_true h24
  refine n_putI hM  hW 14 8 h24 rfl rfl (by decide) wi_X3 tyX3 tyX3_ok nmX3 (wgm fk_RX3_37) rfl rfl rfl dX3_init_63 (fun S23 eS23 H locs hz9 hW => ?_)
  have hf := nm_at eS23 hf
  have hz : H.size = a + 7 := hz9.trans hz
  refine lv_aload_n hx hb dX3_init_66 rfl (lv_at hl 0 rfl) ?_
  refine lv_iconst (v := (0 : Int32)) hx hb dX3_init_67 (by decide) ?_
  obtain ⟨h26, hf⟩ := ck_elim hf
  have h26 := of_decide_eq_true h26
  refine n_putI hM  hW 14 9 h26 rfl rfl (by decide) wi_X3 tyX3 tyX3_ok nmX3 (wgm fk_RX3_40) rfl rfl rfl dX3_init_68 (fun S25 eS25 H locs hz9 hW => ?_)
  have hf := nm_at eS25 hf
  have hz : H.size = a + 7 := hz9.trans hz
  refine lv_aload_n hx hb dX3_init_71 rfl (lv_at hl 0 rfl) ?_
  refine lv_iconst (v := (0 : Int32)) hx hb dX3_init_72 (by decide) ?_
  obtain ⟨h28, hf⟩ := ck_elim hf
  have h28 := of_decide_eq_true h28
  refine n_putI hM  hW 14 10 h28 rfl rfl (by decide) wi_X3 tyX3 tyX3_ok nmX3 (wgm fk_RX3_43) rfl rfl rfl dX3_init_73 (fun S27 eS27 H locs hz9 hW => ?_)
  have hf := nm_at eS27 hf
  have hz : H.size = a + 7 := hz9.trans hz
  refine lv_aload_n hx hb dX3_init_76 rfl (lv_at hl 0 rfl) ?_
  refine lv_iconst (v := (0 : Int32)) hx hb dX3_init_77 (by decide) ?_
  obtain ⟨h30, hf⟩ := ck_elim hf
  have h30 := of_decide_eq_true h30
  refine n_putI hM  hW 14 11 h30 rfl rfl (by decide) wi_X3 tyX3 tyX3_ok nmX3 (wgm fk_RX3_46) rfl rfl rfl dX3_init_78 (fun S29 eS29 H locs hz9 hW => ?_)
  have hf := nm_at eS29 hf
  have hz : H.size = a + 7 := hz9.trans hz
  exact t_X3_init_g2 hM hml hr hlk hin2 hs0 hf _ _ hW hz _ (lv_sub hl [0] rfl)
noncomputable def f_X3_init (fu : Nat) (G : GG) (S : ST) (a : Nat) : Option ST :=
  nm (st S (a + 1) (barr 1 8)) fun S1 =>
  ck (decide (gC (S1 a) = 15)) <|
  nm (st S1 a (sR (S1 a) 0 (some (a + 1)))) fun S2 =>
  nm (st S2 (a + 2) (barr 1 8)) fun S4 =>
  ck (decide (gC (S4 a) = 15)) <|
  nm (st S4 a (sR (S4 a) 1 (some (a + 2)))) fun S5 =>
  nm (st S5 (a + 3) (barr 1 8)) fun S7 =>
  ck (decide (gC (S7 a) = 15)) <|
  nm (st S7 a (sR (S7 a) 2 (some (a + 3)))) fun S8 =>
  nm (st S8 (a + 4) (barr 1 8)) fun S10 =>
  ck (decide (gC (S10 a) = 15)) <|
  nm (st S10 a (sR (S10 a) 3 (some (a + 4)))) fun S11 =>
  nm (st S11 (a + 5) (barr 1 8)) fun S13 =>
  ck (decide (gC (S13 a) = 15)) <|
  nm (st S13 a (sR (S13 a) 4 (some (a + 5)))) fun S14 =>
  f_X3_init_g1 fu G S14 a
set_option maxHeartbeats 40000000 in
set_option maxRecDepth 100000 in
theorem c_X3_init (l : Launch) (G : GG) (fu : Nat) (S : ST) (a : Nat) {z : ST} (hf : f_X3_init fu G S a = some z) : Cn l yX3_init w_X3_init RM_X3_init G S (a + 1) [.ref a] none z (a + 7) 6 45 := by
  refine Met.ofW (cc := cX3_init) (maxL := 1) (ret := none) (by decide) rfl ?_
  intro p e s m args below meth c s₁ B hml hv
  obtain ⟨rfl, hB, hK, hzw, hz⟩ := hv
  have hM : MC G p s m _ c cX3_init w_X3_init RX3 := ⟨B.exec, B.bytes, findClass_of_methodNamed B.named, atoms_spec (ws := w_X3_init) B.pre, hK, hzw⟩
  have hW : WB G S s s.heap [] := ⟨hB, va_S.rf⟩
  have hin2 : meth.name = "<init>" := (name_of_methodNamed B.named B.method).1
  have hr := B.returns
  have hlk := B.notSynchronized
  have hx := hM.1
  have hb := hM.2.1
  have hs0 := hz
  have hl := lv_entry ([.ref a]) (n := 1) (Nat.le_of_ble_eq_true rfl)
  rw [lg_entry_eq]
  generalize (lg_sl ([.ref a]) ++ List.replicate (1 - (lg_sl ([.ref a])).length) Slot.unset).toArray = ls at hl ⊢
  have hl : lv_has ls 1 [(0, .ref a)] := hl
  unfold f_X3_init at hf
  refine lv_aload_n hx hb dX3_init_0 rfl (lv_at hl 0 rfl) ?_
  refine n_obj hM hml hl.1 mk_RX3_3 (Nat.le_of_ble_eq_true rfl) (Nat.le_of_ble_eq_true rfl) dX3_init_1 ?_
  refine lv_aload_n hx hb dX3_init_4 rfl (lv_at hl 0 rfl) ?_
  refine lv_bipush (v := (8 : Int32)) hx hb dX3_init_5 (by decide) ?_
  refine m_newa hM hW hz 1 (by decide) rfl (wgm wd_ai) 8 (by decide) (by decide) (by decide) (Nat.le_of_ble_eq_true rfl) (Nat.le_of_ble_eq_true rfl) dX3_init_7 (fun S1 eS1 hk hg9 H hz hW => ?_)
  have hf := nm_at eS1 hf
  have hz : H.size = a + 2 := hz
  obtain ⟨h3, hf⟩ := ck_elim hf
  have h3 := of_decide_eq_true h3
  refine m_putFR hM hin2 hW 14 0 h3 rfl rfl (by decide) wi_X3 tyX3 tyX3_ok nmX3 (wgm fk_RX3_9) rfl rfl rfl (Or.inr ⟨_, rfl⟩) (a + 1) dX3_init_9 (fun S2 eS2 H locs hz9 hW => ?_)
  have hf := nm_at eS2 hf
  have hz : H.size = a + 2 := hz9.trans hz
  refine lv_aload_n hx hb dX3_init_12 rfl (lv_at hl 0 rfl) ?_
  refine lv_bipush (v := (8 : Int32)) hx hb dX3_init_13 (by decide) ?_
  refine m_newa hM hW hz 1 (by decide) rfl (wgm wd_ai) 8 (by decide) (by decide) (by decide) (Nat.le_of_ble_eq_true rfl) (Nat.le_of_ble_eq_true rfl) dX3_init_15 (fun S4 eS4 hk hg9 H hz hW => ?_)
  have hf := nm_at eS4 hf
  have hz : H.size = a + 3 := hz
  obtain ⟨h6, hf⟩ := ck_elim hf
  have h6 := of_decide_eq_true h6
  refine m_putFR hM hin2 hW 14 1 h6 rfl rfl (by decide) wi_X3 tyX3 tyX3_ok nmX3 (wgm fk_RX3_15) rfl rfl rfl (Or.inr ⟨_, rfl⟩) (a + 2) dX3_init_17 (fun S5 eS5 H locs hz9 hW => ?_)
  have hf := nm_at eS5 hf
  have hz : H.size = a + 3 := hz9.trans hz
  refine lv_aload_n hx hb dX3_init_20 rfl (lv_at hl 0 rfl) ?_
  refine lv_bipush (v := (8 : Int32)) hx hb dX3_init_21 (by decide) ?_
  refine m_newa hM hW hz 1 (by decide) rfl (wgm wd_ai) 8 (by decide) (by decide) (by decide) (Nat.le_of_ble_eq_true rfl) (Nat.le_of_ble_eq_true rfl) dX3_init_23 (fun S7 eS7 hk hg9 H hz hW => ?_)
  have hf := nm_at eS7 hf
  have hz : H.size = a + 4 := hz
  obtain ⟨h9, hf⟩ := ck_elim hf
  have h9 := of_decide_eq_true h9
  refine m_putFR hM hin2 hW 14 2 h9 rfl rfl (by decide) wi_X3 tyX3 tyX3_ok nmX3 (wgm fk_RX3_18) rfl rfl rfl (Or.inr ⟨_, rfl⟩) (a + 3) dX3_init_25 (fun S8 eS8 H locs hz9 hW => ?_)
  have hf := nm_at eS8 hf
  have hz : H.size = a + 4 := hz9.trans hz
  refine lv_aload_n hx hb dX3_init_28 rfl (lv_at hl 0 rfl) ?_
  refine lv_bipush (v := (8 : Int32)) hx hb dX3_init_29 (by decide) ?_
  refine m_newa hM hW hz 1 (by decide) rfl (wgm wd_ai) 8 (by decide) (by decide) (by decide) (Nat.le_of_ble_eq_true rfl) (Nat.le_of_ble_eq_true rfl) dX3_init_31 (fun S10 eS10 hk hg9 H hz hW => ?_)
  have hf := nm_at eS10 hf
  have hz : H.size = a + 5 := hz
  obtain ⟨h12, hf⟩ := ck_elim hf
  have h12 := of_decide_eq_true h12
  refine m_putFR hM hin2 hW 14 3 h12 rfl rfl (by decide) wi_X3 tyX3 tyX3_ok nmX3 (wgm fk_RX3_21) rfl rfl rfl (Or.inr ⟨_, rfl⟩) (a + 4) dX3_init_33 (fun S11 eS11 H locs hz9 hW => ?_)
  have hf := nm_at eS11 hf
  have hz : H.size = a + 5 := hz9.trans hz
  refine lv_aload_n hx hb dX3_init_36 rfl (lv_at hl 0 rfl) ?_
  refine lv_bipush (v := (8 : Int32)) hx hb dX3_init_37 (by decide) ?_
  refine m_newa hM hW hz 1 (by decide) rfl (wgm wd_ai) 8 (by decide) (by decide) (by decide) (Nat.le_of_ble_eq_true rfl) (Nat.le_of_ble_eq_true rfl) dX3_init_39 (fun S13 eS13 hk hg9 H hz hW => ?_)
  have hf := nm_at eS13 hf
  have hz : H.size = a + 6 := hz
  obtain ⟨h15, hf⟩ := ck_elim hf
  have h15 := of_decide_eq_true h15
  refine m_putFR hM hin2 hW 14 4 h15 rfl rfl (by decide) wi_X3 tyX3 tyX3_ok nmX3 (wgm fk_RX3_24) rfl rfl rfl (Or.inr ⟨_, rfl⟩) (a + 5) dX3_init_41 (fun S14 eS14 H locs hz9 hW => ?_)
  have hf := nm_at eS14 hf
  have hz : H.size = a + 6 := hz9.trans hz
  exact t_X3_init_g1 hM hml hr hlk hin2 hs0 hf _ _ hW hz _ (lv_sub hl [0] rfl)
abbrev RM_X4_init : Room := { frames := 1, cells := 1, slots := 32, locals := 40 }
abbrev w_X4_init : List Cond := Cond.code yX4_init cX4_init 2 none :: wsL_law0
noncomputable def f_X4_init (fu : Nat) (G : GG) (S : ST) (a : Nat) (g1 : Nat) : Option ST :=
  nm (st S (a + 2) (barr 1 32)) fun S1 =>
  ck (decide (gC (S1 a) = 16)) <|
  nm (st S1 a (sR (S1 a) 1 (some (a + 2)))) fun S2 =>
  ck (decide (gC (S2 a) = 16)) <|
  nm (st S2 a (sR (S2 a) 0 (some g1))) fun S4 =>
  ck (frB G S4 a 3 28) <|
  nm (frm S4 a 3 28) fun S7 =>
  some S7
set_option maxHeartbeats 40000000 in
set_option maxRecDepth 100000 in
theorem c_X4_init (l : Launch) (G : GG) (fu : Nat) (S : ST) (a : Nat) (g1 : Nat) {z : ST} (hf : f_X4_init fu G S a g1 = some z) : Cn l yX4_init w_X4_init RM_X4_init G S (a + 2) [.ref a, .ref g1] none z (a + 3) 1 32 := by
  refine Met.ofW (cc := cX4_init) (maxL := 2) (ret := none) (by decide) rfl ?_
  intro p e s m args below meth c s₁ B hml hv
  obtain ⟨rfl, hB, hK, hzw, hz⟩ := hv
  have hM : MC G p s m _ c cX4_init w_X4_init RX4 := ⟨B.exec, B.bytes, findClass_of_methodNamed B.named, atoms_spec (ws := w_X4_init) B.pre, hK, hzw⟩
  have hW : WB G S s s.heap [] := ⟨hB, va_S.rf⟩
  have hin2 : meth.name = "<init>" := (name_of_methodNamed B.named B.method).1
  have hr := B.returns
  have hlk := B.notSynchronized
  have hx := hM.1
  have hb := hM.2.1
  have hs0 := hz
  have hl := lv_entry ([.ref a, .ref g1]) (n := 2) (Nat.le_of_ble_eq_true rfl)
  rw [lg_entry_eq]
  generalize (lg_sl ([.ref a, .ref g1]) ++ List.replicate (2 - (lg_sl ([.ref a, .ref g1])).length) Slot.unset).toArray = ls at hl ⊢
  have hl : lv_has ls 2 [(0, .ref a), (1, .ref g1)] := hl
  unfold f_X4_init at hf
  refine lv_aload_n hx hb dX4_init_0 rfl (lv_at hl 0 rfl) ?_
  refine n_obj hM hml hl.1 mk_RX4_1 (Nat.le_of_ble_eq_true rfl) (Nat.le_of_ble_eq_true rfl) dX4_init_1 ?_
  refine lv_aload_n hx hb dX4_init_4 rfl (lv_at hl 0 rfl) ?_
  refine lv_bipush (v := (32 : Int32)) hx hb dX4_init_5 (by decide) ?_
  refine m_newa hM hW hz 1 (by decide) rfl (wgm wd_ai) 32 (by decide) (by decide) (by decide) (Nat.le_of_ble_eq_true rfl) (Nat.le_of_ble_eq_true rfl) dX4_init_7 (fun S1 eS1 hk hg9 H hz hW => ?_)
  have hf := nm_at eS1 hf
  have hz : H.size = a + 3 := hz
  obtain ⟨h3, hf⟩ := ck_elim hf
  have h3 := of_decide_eq_true h3
  refine m_putFR hM hin2 hW 15 1 h3 rfl rfl (by decide) wi_X4 tyX4 tyX4_ok nmX4 (wgm fk_RX4_9) rfl rfl rfl (Or.inr ⟨_, rfl⟩) (a + 2) dX4_init_9 (fun S2 eS2 H locs hz9 hW => ?_)
  have hf := nm_at eS2 hf
  have hz : H.size = a + 3 := hz9.trans hz
  refine lv_aload_n hx hb dX4_init_12 rfl (lv_at hl 0 rfl) ?_
  refine lv_aload_n hx hb dX4_init_13 rfl (lv_at hl 1 rfl) ?_
  obtain ⟨h5, hf⟩ := ck_elim hf
  have h5 := of_decide_eq_true h5
  refine m_putFR hM hin2 hW 15 0 h5 rfl rfl (by decide) wi_X4 tyX4 tyX4_ok nmX4 (wgm fk_RX4_13) rfl rfl rfl (Or.inr ⟨_, rfl⟩) g1 dX4_init_14 (fun S4 eS4 H locs hz9 hW => ?_)
  have hf := nm_at eS4 hf
  have hz : H.size = a + 3 := hz9.trans hz
  obtain ⟨h6, hf⟩ := ck_elim hf
  have hW := hW.form (frB_ok h6 (by decide) (by decide))
  obtain ⟨S7, eS7⟩ : ∃ y : ST, y = frm S4 a 3 28 := ⟨_, rfl⟩
  rw [← eS7] at hW
  have hf := nm_at eS7 hf
  cases hf
  exact W.vret hx hb hr (n_ret hW hz _) hW.2.2.2 dX4_init_17 hlk
abbrev RM_X5_init : Room := { frames := 1, cells := 1, slots := 1000, locals := 40 }
abbrev w_X5_init : List Cond := Cond.code yX5_init cX5_init 2 none :: wsL_law0
noncomputable def f_X5_init (fu : Nat) (G : GG) (S : ST) (a : Nat) (g1 : Nat) : Option ST :=
  nm (st S (a + 1) (barr 1 1000)) fun S1 =>
  ck (decide (gC (S1 a) = 17)) <|
  nm (st S1 a (sR (S1 a) 1 (some (a + 1)))) fun S2 =>
  ck (decide (gC (S2 a) = 17)) <|
  nm (st S2 a (sI (S2 a) 2 (0 : Int32))) fun S4 =>
  ck (decide (gC (S4 a) = 17)) <|
  nm (st S4 a (sR (S4 a) 3 (some (kAd G 28)))) fun S6 =>
  ck (decide (gC (S6 a) = 17)) <|
  nm (st S6 a (sR (S6 a) 0 (some g1))) fun S8 =>
  ck (frB G S8 a 4 28) <|
  nm (frm S8 a 4 28) fun S11 =>
  some S11
set_option maxHeartbeats 40000000 in
set_option maxRecDepth 100000 in
theorem c_X5_init (l : Launch) (G : GG) (fu : Nat) (S : ST) (a : Nat) (g1 : Nat) {z : ST} (hf : f_X5_init fu G S a g1 = some z) : Cn l yX5_init w_X5_init RM_X5_init G S (a + 1) [.ref a, .ref g1] none z (a + 2) 1 1000 := by
  refine Met.ofW (cc := cX5_init) (maxL := 2) (ret := none) (by decide) rfl ?_
  intro p e s m args below meth c s₁ B hml hv
  obtain ⟨rfl, hB, hK, hzw, hz⟩ := hv
  have hM : MC G p s m _ c cX5_init w_X5_init RX5 := ⟨B.exec, B.bytes, findClass_of_methodNamed B.named, atoms_spec (ws := w_X5_init) B.pre, hK, hzw⟩
  have hW : WB G S s s.heap [] := ⟨hB, va_S.rf⟩
  have hin2 : meth.name = "<init>" := (name_of_methodNamed B.named B.method).1
  have hr := B.returns
  have hlk := B.notSynchronized
  have hx := hM.1
  have hb := hM.2.1
  have hs0 := hz
  have hl := lv_entry ([.ref a, .ref g1]) (n := 2) (Nat.le_of_ble_eq_true rfl)
  rw [lg_entry_eq]
  generalize (lg_sl ([.ref a, .ref g1]) ++ List.replicate (2 - (lg_sl ([.ref a, .ref g1])).length) Slot.unset).toArray = ls at hl ⊢
  have hl : lv_has ls 2 [(0, .ref a), (1, .ref g1)] := hl
  unfold f_X5_init at hf
  refine lv_aload_n hx hb dX5_init_0 rfl (lv_at hl 0 rfl) ?_
  refine n_obj hM hml hl.1 mk_RX5_3 (Nat.le_of_ble_eq_true rfl) (Nat.le_of_ble_eq_true rfl) dX5_init_1 ?_
  refine lv_aload_n hx hb dX5_init_4 rfl (lv_at hl 0 rfl) ?_
  refine lv_sipush (v := (1000 : Int32)) hx hb dX5_init_5 (by decide) ?_
  refine m_newa hM hW hz 1 (by decide) rfl (wgm wd_ai) 1000 (by decide) (by decide) (by decide) (Nat.le_of_ble_eq_true rfl) (Nat.le_of_ble_eq_true rfl) dX5_init_8 (fun S1 eS1 hk hg9 H hz hW => ?_)
  have hf := nm_at eS1 hf
  have hz : H.size = a + 2 := hz
  obtain ⟨h3, hf⟩ := ck_elim hf
  have h3 := of_decide_eq_true h3
  refine m_putFR hM hin2 hW 16 1 h3 rfl rfl (by decide) wi_X5 tyX5 tyX5_ok nmX5 (wgm fk_RX5_9) rfl rfl rfl (Or.inr ⟨_, rfl⟩) (a + 1) dX5_init_10 (fun S2 eS2 H locs hz9 hW => ?_)
  have hf := nm_at eS2 hf
  have hz : H.size = a + 2 := hz9.trans hz
  refine lv_aload_n hx hb dX5_init_13 rfl (lv_at hl 0 rfl) ?_
  refine lv_iconst (v := (0 : Int32)) hx hb dX5_init_14 (by decide) ?_
  obtain ⟨h5, hf⟩ := ck_elim hf
  have h5 := of_decide_eq_true h5
  refine n_putI hM  hW 16 2 h5 rfl rfl (by decide) wi_X5 tyX5 tyX5_ok nmX5 (wgm fk_RX5_15) rfl rfl rfl dX5_init_15 (fun S4 eS4 H locs hz9 hW => ?_)
  have hf := nm_at eS4 hf
  have hz : H.size = a + 2 := hz9.trans hz
  refine lv_aload_n hx hb dX5_init_18 rfl (lv_at hl 0 rfl) ?_
  refine k_word hM hW 28 (by decide) (wgm fk_RX5_19) dX5_init_19 ?_
  obtain ⟨h7, hf⟩ := ck_elim hf
  have h7 := of_decide_eq_true h7
  refine n_putR hM  hW 16 3 h7 rfl rfl (by decide) wi_X5 tyX5 tyX5_ok nmX5 (wgm fk_RX5_25) rfl rfl (Or.inl ⟨_, rfl⟩) (some (kAd G 28)) rfl dX5_init_22 (fun S6 eS6 H locs hz9 hW => ?_)
  have hf := nm_at eS6 hf
  have hz : H.size = a + 2 := hz9.trans hz
  refine lv_aload_n hx hb dX5_init_25 rfl (lv_at hl 0 rfl) ?_
  refine lv_aload_n hx hb dX5_init_26 rfl (lv_at hl 1 rfl) ?_
  obtain ⟨h9, hf⟩ := ck_elim hf
  have h9 := of_decide_eq_true h9
  refine m_putFR hM hin2 hW 16 0 h9 rfl rfl (by decide) wi_X5 tyX5 tyX5_ok nmX5 (wgm fk_RX5_28) rfl rfl rfl (Or.inl ⟨_, rfl⟩) g1 dX5_init_27 (fun S8 eS8 H locs hz9 hW => ?_)
  have hf := nm_at eS8 hf
  have hz : H.size = a + 2 := hz9.trans hz
  obtain ⟨h10, hf⟩ := ck_elim hf
  have hW := hW.form (frB_ok h10 (by decide) (by decide))
  obtain ⟨S11, eS11⟩ : ∃ y : ST, y = frm S8 a 4 28 := ⟨_, rfl⟩
  rw [← eS11] at hW
  have hf := nm_at eS11 hf
  cases hf
  exact W.vret hx hb hr (n_ret hW hz _) hW.2.2.2 dX5_init_30 hlk
abbrev RM_X2_init : Room := { frames := 2, cells := 2, slots := 1004, locals := 61 }
abbrev w_X2_init : List Cond := Cond.code yX2_init cX2_init 2 none :: wsL_law0
noncomputable def f_X2_init (fu : Nat) (G : GG) (S : ST) (a : Nat) (g1 : Nat) : Option ST :=
  ck (decide (gC (S a) = 14)) <|
  nm (st S a (sR (S a) 0 (some g1))) fun S1 =>
  nm (st S1 (a + 1) (rawo 4)) fun S3 =>
  bd (f_X5_init fu G S3 (a + 1) g1) fun S4 =>
  ck (decide (gC (S4 a) = 14)) <|
  nm (st S4 a (sR (S4 a) 1 (some (a + 1)))) fun S5 =>
  ck (frB G S5 a 1 28) <|
  nm (frm S5 a 1 28) fun S8 =>
  some S8
set_option maxHeartbeats 40000000 in
set_option maxRecDepth 100000 in
theorem c_X2_init (l : Launch) (G : GG) (fu : Nat) (S : ST) (a : Nat) (g1 : Nat) {z : ST} (hf : f_X2_init fu G S a g1 = some z) : Cn l yX2_init w_X2_init RM_X2_init G S (a + 1) [.ref a, .ref g1] none z (a + 3) 2 1004 := by
  refine Met.ofW (cc := cX2_init) (maxL := 2) (ret := none) (by decide) rfl ?_
  intro p e s m args below meth c s₁ B hml hv
  obtain ⟨rfl, hB, hK, hzw, hz⟩ := hv
  have hM : MC G p s m _ c cX2_init w_X2_init RX2 := ⟨B.exec, B.bytes, findClass_of_methodNamed B.named, atoms_spec (ws := w_X2_init) B.pre, hK, hzw⟩
  have hW : WB G S s s.heap [] := ⟨hB, va_S.rf⟩
  have hin2 : meth.name = "<init>" := (name_of_methodNamed B.named B.method).1
  have hr := B.returns
  have hlk := B.notSynchronized
  have hx := hM.1
  have hb := hM.2.1
  have hs0 := hz
  have hl := lv_entry ([.ref a, .ref g1]) (n := 2) (Nat.le_of_ble_eq_true rfl)
  rw [lg_entry_eq]
  generalize (lg_sl ([.ref a, .ref g1]) ++ List.replicate (2 - (lg_sl ([.ref a, .ref g1])).length) Slot.unset).toArray = ls at hl ⊢
  have hl : lv_has ls 2 [(0, .ref a), (1, .ref g1)] := hl
  unfold f_X2_init at hf
  refine lv_aload_n hx hb dX2_init_0 rfl (lv_at hl 0 rfl) ?_
  refine n_obj hM hml hl.1 mk_RX2_3 (Nat.le_of_ble_eq_true rfl) (Nat.le_of_ble_eq_true rfl) dX2_init_1 ?_
  refine lv_aload_n hx hb dX2_init_4 rfl (lv_at hl 0 rfl) ?_
  refine lv_aload_n hx hb dX2_init_5 rfl (lv_at hl 1 rfl) ?_
  obtain ⟨h2, hf⟩ := ck_elim hf
  have h2 := of_decide_eq_true h2
  refine m_putFR hM hin2 hW 13 0 h2 rfl rfl (by decide) wi_X2 tyX2 tyX2_ok nmX2 (wgm fk_RX2_9) rfl rfl rfl (Or.inl ⟨_, rfl⟩) g1 dX2_init_6 (fun S1 eS1 H locs hz9 hW => ?_)
  have hf := nm_at eS1 hf
  have hz : H.size = a + 1 := hz9.trans hz
  refine lv_aload_n hx hb dX2_init_9 rfl (lv_at hl 0 rfl) ?_
  refine m_new hM hW hz 4 (by decide) rfl rfl wi_X5 tyX5 tyX5_ok (by decide +kernel) (wgm kc_RX2_15) (wgm is_RX5) (wgm it_RX5) (Nat.le_of_ble_eq_true rfl) (Nat.le_of_ble_eq_true rfl) dX2_init_10 (fun S3 eS3 hk hg9 H hz hW => ?_)
  have hf := nm_at eS3 hf
  have hz : H.size = a + 2 := hz
  refine lv_dup hx hb dX2_init_13 rfl ?_
  refine lv_aload_n hx hb dX2_init_14 rfl (lv_at hl 1 rfl) ?_
  obtain ⟨S4, hS4, hf⟩ := bd_elim hf
  refine n_init (np := 1) [.ref g1] [.ref (a + 1), .ref a] hM hml hl.1 hW hz (c_X5_init l G fu _ (a + 1) g1 hS4) rfl cd_X5_init it_RX5 mk_RX2_17 im_X5_init rfl rfl rfl (by decide +kernel) ⟨Nat.le_of_ble_eq_true rfl, Nat.le_of_ble_eq_true rfl⟩ rfl rfl (Nat.le_of_ble_eq_true rfl) ⟨Nat.le_of_ble_eq_true rfl, Nat.le_of_ble_eq_true rfl⟩ dX2_init_15 (fun H locs hz hW => ?_)
  have hz : H.size = a + 3 := hz
  obtain ⟨h6, hf⟩ := ck_elim hf
  have h6 := of_decide_eq_true h6
  refine m_putFR hM hin2 hW 13 1 h6 rfl rfl (by decide) wi_X2 tyX2 tyX2_ok nmX2 (wgm fk_RX2_20) rfl rfl rfl (Or.inl ⟨_, rfl⟩) (a + 1) dX2_init_18 (fun S5 eS5 H locs hz9 hW => ?_)
  have hf := nm_at eS5 hf
  have hz : H.size = a + 3 := hz9.trans hz
  obtain ⟨h7, hf⟩ := ck_elim hf
  have hW := hW.form (frB_ok h7 (by decide) (by decide))
  obtain ⟨S8, eS8⟩ : ∃ y : ST, y = frm S5 a 1 28 := ⟨_, rfl⟩
  rw [← eS8] at hW
  have hf := nm_at eS8 hf
  cases hf
  exact W.vret hx hb hr (n_ret hW hz _) hW.2.2.2 dX2_init_21 hlk
abbrev RM_X1_init : Room := { frames := 3, cells := 14, slots := 94, locals := 63 }
abbrev w_X1_init : List Cond := Cond.code yX1_init cX1_init 1 none :: wsL_law0
noncomputable def f_X1_init_g2 (fu : Nat) (G : GG) (S : ST) (a : Nat) : Option ST :=
  ck (decide (gC (S a) = 13)) <|
  nm (st S a (sI (S a) 10 (0 : Int32))) fun S30 =>
  ck (decide (gC (S30 a) = 13)) <|
  nm (st S30 a (sR (S30 a) 11 none)) fun S32 =>
  ck (decide (gC (S32 a) = 13)) <|
  nm (st S32 a (sR (S32 a) 12 none)) fun S34 =>
  ck (frB G S34 a 0 28) <|
  nm (frm S34 a 0 28) fun S37 =>
  some S37
set_option maxHeartbeats 40000000 in
set_option maxRecDepth 100000 in
theorem t_X1_init_g2 {G : GG} {p : Program} {l : Launch} {e : Env} {s : State} {m : MethodId} {args : Array Value} {below : List Frame} {meth : Method} {c : Code} {S : ST} {fu a : Nat} {z : ST} (hM : MC G p s m args c cX1_init w_X1_init RX1) (hml : c.maxLocals = 1) (hr : meth.sig.returnType = none) (hlk : meth.locks = false) (hin2 : meth.name = "<init>") (hs0 : s.heap.size = a + 1) (hf : f_X1_init_g2 fu G S a = some z) : ∀ (H : Heap) (locs : List Loc), WB G S s H locs → H.size = a + 15 → ∀ (ls : Array Slot), lv_has ls 1 [(0, .ref a)] → W p l e RM_X1_init s m args below meth c H locs 14 94 (QN G below args s none z (a + 15) 14 94) (F0 m 75 ls []) := by
  intro H locs hW hz ls hl
  have hx := hM.1
  have hb := hM.2.1
  unfold f_X1_init_g2 at hf
  refine lv_aload_n hx hb dX1_init_75 rfl (lv_at hl 0 rfl) ?_
  refine lv_iconst (v := (0 : Int32)) hx hb dX1_init_76 (by decide) ?_
  obtain ⟨h31, hf⟩ := ck_elim hf
  have h31 := of_decide_eq_true h31
  refine n_putI hM  hW 12 10 h31 rfl rfl (by decide) wi_X1 tyX1 tyX1_ok nmX1 (wgm fk_RX1_48) rfl rfl rfl dX1_init_77 (fun S30 eS30 H locs hz9 hW => ?_)
  have hf := nm_at eS30 hf
  have hz : H.size = a + 15 := hz9.trans hz
  refine lv_aload_n hx hb dX1_init_80 rfl (lv_at hl 0 rfl) ?_
  refine lv_null hx hb dX1_init_81 ?_
  obtain ⟨h33, hf⟩ := ck_elim hf
  have h33 := of_decide_eq_true h33
  refine n_putR hM  hW 12 11 h33 rfl rfl (by decide) wi_X1 tyX1 tyX1_ok nmX1 (wgm fk_RX1_51) rfl rfl (Or.inl ⟨_, rfl⟩) none rfl dX1_init_82 (fun S32 eS32 H locs hz9 hW => ?_)
  have hf := nm_at eS32 hf
  have hz : H.size = a + 15 := hz9.trans hz
  refine lv_aload_n hx hb dX1_init_85 rfl (lv_at hl 0 rfl) ?_
  refine lv_null hx hb dX1_init_86 ?_
  obtain ⟨h35, hf⟩ := ck_elim hf
  have h35 := of_decide_eq_true h35
  refine n_putR hM  hW 12 12 h35 rfl rfl (by decide) wi_X1 tyX1 tyX1_ok nmX1 (wgm fk_RX1_55) rfl rfl (Or.inl ⟨_, rfl⟩) none rfl dX1_init_87 (fun S34 eS34 H locs hz9 hW => ?_)
  have hf := nm_at eS34 hf
  have hz : H.size = a + 15 := hz9.trans hz
  obtain ⟨h36, hf⟩ := ck_elim hf
  have hW := hW.form (frB_ok h36 (by decide) (by decide))
  obtain ⟨S37, eS37⟩ : ∃ y : ST, y = frm S34 a 0 28 := ⟨_, rfl⟩
  rw [← eS37] at hW
  have hf := nm_at eS37 hf
  cases hf
  exact W.vret hx hb hr (n_ret hW hz _) hW.2.2.2 dX1_init_90 hlk
noncomputable def f_X1_init_g1 (fu : Nat) (G : GG) (S : ST) (a : Nat) : Option ST :=
  nm (st S (a + 6) (barr 1 5)) fun S16 =>
  ck (decide (gC (S16 a) = 13)) <|
  nm (st S16 a (sR (S16 a) 5 (some (a + 6)))) fun S17 =>
  nm (st S17 (a + 7) (barr 1 4)) fun S19 =>
  ck (decide (gC (S19 a) = 13)) <|
  nm (st S19 a (sR (S19 a) 6 (some (a + 7)))) fun S20 =>
  nm (st S20 (a + 8) (rawo 2)) fun S22 =>
  bd (f_X3_init fu G S22 (a + 8)) fun S23 =>
  ck (decide (gC (S23 a) = 13)) <|
  nm (st S23 a (sR (S23 a) 7 (some (a + 8)))) fun S24 =>
  ck (decide (gC (S24 a) = 13)) <|
  nm (st S24 a (sI (S24 a) 8 (0 : Int32))) fun S26 =>
  ck (decide (gC (S26 a) = 13)) <|
  nm (st S26 a (sI (S26 a) 9 (0 : Int32))) fun S28 =>
  f_X1_init_g2 fu G S28 a
set_option maxHeartbeats 40000000 in
set_option maxRecDepth 100000 in
theorem t_X1_init_g1 {G : GG} {p : Program} {l : Launch} {e : Env} {s : State} {m : MethodId} {args : Array Value} {below : List Frame} {meth : Method} {c : Code} {S : ST} {fu a : Nat} {z : ST} (hM : MC G p s m args c cX1_init w_X1_init RX1) (hml : c.maxLocals = 1) (hr : meth.sig.returnType = none) (hlk : meth.locks = false) (hin2 : meth.name = "<init>") (hs0 : s.heap.size = a + 1) (hf : f_X1_init_g1 fu G S a = some z) : ∀ (H : Heap) (locs : List Loc), WB G S s H locs → H.size = a + 6 → ∀ (ls : Array Slot), lv_has ls 1 [(0, .ref a)] → W p l e RM_X1_init s m args below meth c H locs 5 27 (QN G below args s none z (a + 15) 14 94) (F0 m 40 ls []) := by
  intro H locs hW hz ls hl
  have hx := hM.1
  have hb := hM.2.1
  unfold f_X1_init_g1 at hf
  refine lv_aload_n hx hb dX1_init_40 rfl (lv_at hl 0 rfl) ?_
  refine lv_iconst (v := (5 : Int32)) hx hb dX1_init_41 (by decide) ?_
  refine m_newa hM hW hz 1 (by decide) rfl (wgm wd_ai) 5 (by decide) (by decide) (by decide) (Nat.le_of_ble_eq_true rfl) (Nat.le_of_ble_eq_true rfl) dX1_init_42 (fun S16 eS16 hk hg9 H hz hW => ?_)
  have hf := nm_at eS16 hf
  have hz : H.size = a + 7 := hz
  obtain ⟨h18, hf⟩ := ck_elim hf
  have h18 := of_decide_eq_true h18
  refine m_putFR hM hin2 hW 12 5 h18 rfl rfl (by decide) wi_X1 tyX1 tyX1_ok nmX1 (wgm fk_RX1_28) rfl rfl rfl (Or.inr ⟨_, rfl⟩) (a + 6) dX1_init_44 (fun S17 eS17 H locs hz9 hW => ?_)
  have hf := nm_at eS17 hf
  have hz : H.size = a + 7 := hz9.trans hz
  refine lv_aload_n hx hb dX1_init_47 rfl (lv_at hl 0 rfl) ?_
  refine lv_iconst (v := (4 : Int32)) hx hb dX1_init_48 (by decide) ?_
  refine m_newa hM hW hz 1 (by decide) rfl (wgm wd_ai) 4 (by decide) (by decide) (by decide) (Nat.le_of_ble_eq_true rfl) (Nat.le_of_ble_eq_true rfl) dX1_init_49 (fun S19 eS19 hk hg9 H hz hW => ?_)
  have hf := nm_at eS19 hf
  have hz : H.size = a + 8 := hz
  obtain ⟨h21, hf⟩ := ck_elim hf
  have h21 := of_decide_eq_true h21
  refine m_putFR hM hin2 hW 12 6 h21 rfl rfl (by decide) wi_X1 tyX1 tyX1_ok nmX1 (wgm fk_RX1_31) rfl rfl rfl (Or.inr ⟨_, rfl⟩) (a + 7) dX1_init_51 (fun S20 eS20 H locs hz9 hW => ?_)
  have hf := nm_at eS20 hf
  have hz : H.size = a + 8 := hz9.trans hz
  refine lv_aload_n hx hb dX1_init_54 rfl (lv_at hl 0 rfl) ?_
  refine m_new hM hW hz 2 (by decide) rfl rfl wi_X3 tyX3 tyX3_ok (by decide +kernel) (wgm kc_RX1_34) (wgm is_RX3) (wgm it_RX3) (Nat.le_of_ble_eq_true rfl) (Nat.le_of_ble_eq_true rfl) dX1_init_55 (fun S22 eS22 hk hg9 H hz hW => ?_)
  have hf := nm_at eS22 hf
  have hz : H.size = a + 9 := hz
  refine lv_dup hx hb dX1_init_58 rfl ?_
  obtain ⟨S23, hS23, hf⟩ := bd_elim hf
  refine n_init (np := 0) [] [.ref (a + 8), .ref a] hM hml hl.1 hW hz (c_X3_init l G fu _ (a + 8) hS23) rfl cd_X3_init it_RX3 mk_RX1_36 im_X3_init rfl rfl rfl (by decide +kernel) ⟨Nat.le_of_ble_eq_true rfl, Nat.le_of_ble_eq_true rfl⟩ rfl rfl (Nat.le_of_ble_eq_true rfl) ⟨Nat.le_of_ble_eq_true rfl, Nat.le_of_ble_eq_true rfl⟩ dX1_init_59 (fun H locs hz hW => ?_)
  have hz : H.size = a + 15 := hz
  obtain ⟨h25, hf⟩ := ck_elim hf
  have h25 := of_decide_eq_true h25
  refine m_putFR hM hin2 hW 12 7 h25 rfl rfl (by decide) wi_X1 tyX1 tyX1_ok nmX1 (wgm fk_RX1_37) rfl rfl rfl (Or.inl ⟨_, rfl⟩) (a + 8) dX1_init_62 (fun S24 eS24 H locs hz9 hW => ?_)
  have hf := nm_at eS24 hf
  have hz : H.size = a + 15 := hz9.trans hz
  refine lv_aload_n hx hb dX1_init_65 rfl (lv_at hl 0 rfl) ?_
  refine lv_iconst (v := (0 : Int32)) hx hb dX1_init_66 (by decide) ?_
  obtain ⟨h27, hf⟩ := ck_elim hf
  have h27 := of_decide_eq_true h27
  refine n_putI hM  hW 12 8 h27 rfl rfl (by decide) wi_X1 tyX1 tyX1_ok nmX1 (wgm fk_RX1_41) rfl rfl rfl dX1_init_67 (fun S26 eS26 H locs hz9 hW => ?_)
  have hf := nm_at eS26 hf
  have hz : H.size = a + 15 := hz9.trans hz
  refine lv_aload_n hx hb dX1_init_70 rfl (lv_at hl 0 rfl) ?_
  refine lv_iconst (v := (0 : Int32)) hx hb dX1_init_71 (by decide) ?_
  obtain ⟨h29, hf⟩ := ck_elim hf
  have h29 := of_decide_eq_true h29
  refine n_putI hM  hW 12 9 h29 rfl rfl (by decide) wi_X1 tyX1 tyX1_ok nmX1 (wgm fk_RX1_45) rfl rfl rfl dX1_init_72 (fun S28 eS28 H locs hz9 hW => ?_)
  have hf := nm_at eS28 hf
  have hz : H.size = a + 15 := hz9.trans hz
  exact t_X1_init_g2 hM hml hr hlk hin2 hs0 hf _ _ hW hz _ (lv_sub hl [0] rfl)
noncomputable def f_X1_init (fu : Nat) (G : GG) (S : ST) (a : Nat) : Option ST :=
  nm (st S (a + 1) (barr 2 8)) fun S1 =>
  ck (decide (gC (S1 a) = 13)) <|
  nm (st S1 a (sR (S1 a) 0 (some (a + 1)))) fun S2 =>
  nm (st S2 (a + 2) (barr 2 5)) fun S4 =>
  ck (decide (gC (S4 a) = 13)) <|
  nm (st S4 a (sR (S4 a) 1 (some (a + 2)))) fun S5 =>
  nm (st S5 (a + 3) (barr 2 4)) fun S7 =>
  ck (decide (gC (S7 a) = 13)) <|
  nm (st S7 a (sR (S7 a) 2 (some (a + 3)))) fun S8 =>
  nm (st S8 (a + 4) (barr 1 5)) fun S10 =>
  ck (decide (gC (S10 a) = 13)) <|
  nm (st S10 a (sR (S10 a) 3 (some (a + 4)))) fun S11 =>
  nm (st S11 (a + 5) (barr 1 5)) fun S13 =>
  ck (decide (gC (S13 a) = 13)) <|
  nm (st S13 a (sR (S13 a) 4 (some (a + 5)))) fun S14 =>
  f_X1_init_g1 fu G S14 a
set_option maxHeartbeats 40000000 in
set_option maxRecDepth 100000 in
theorem c_X1_init (l : Launch) (G : GG) (fu : Nat) (S : ST) (a : Nat) {z : ST} (hf : f_X1_init fu G S a = some z) : Cn l yX1_init w_X1_init RM_X1_init G S (a + 1) [.ref a] none z (a + 15) 14 94 := by
  refine Met.ofW (cc := cX1_init) (maxL := 1) (ret := none) (by decide) rfl ?_
  intro p e s m args below meth c s₁ B hml hv
  obtain ⟨rfl, hB, hK, hzw, hz⟩ := hv
  have hM : MC G p s m _ c cX1_init w_X1_init RX1 := ⟨B.exec, B.bytes, findClass_of_methodNamed B.named, atoms_spec (ws := w_X1_init) B.pre, hK, hzw⟩
  have hW : WB G S s s.heap [] := ⟨hB, va_S.rf⟩
  have hin2 : meth.name = "<init>" := (name_of_methodNamed B.named B.method).1
  have hr := B.returns
  have hlk := B.notSynchronized
  have hx := hM.1
  have hb := hM.2.1
  have hs0 := hz
  have hl := lv_entry ([.ref a]) (n := 1) (Nat.le_of_ble_eq_true rfl)
  rw [lg_entry_eq]
  generalize (lg_sl ([.ref a]) ++ List.replicate (1 - (lg_sl ([.ref a])).length) Slot.unset).toArray = ls at hl ⊢
  have hl : lv_has ls 1 [(0, .ref a)] := hl
  unfold f_X1_init at hf
  refine lv_aload_n hx hb dX1_init_0 rfl (lv_at hl 0 rfl) ?_
  refine n_obj hM hml hl.1 mk_RX1_3 (Nat.le_of_ble_eq_true rfl) (Nat.le_of_ble_eq_true rfl) dX1_init_1 ?_
  refine lv_aload_n hx hb dX1_init_4 rfl (lv_at hl 0 rfl) ?_
  refine lv_bipush (v := (8 : Int32)) hx hb dX1_init_5 (by decide) ?_
  refine m_newa hM hW hz 2 (by decide) rfl (wgm wd_al) 8 (by decide) (by decide) (by decide) (Nat.le_of_ble_eq_true rfl) (Nat.le_of_ble_eq_true rfl) dX1_init_7 (fun S1 eS1 hk hg9 H hz hW => ?_)
  have hf := nm_at eS1 hf
  have hz : H.size = a + 2 := hz
  obtain ⟨h3, hf⟩ := ck_elim hf
  have h3 := of_decide_eq_true h3
  refine m_putFR hM hin2 hW 12 0 h3 rfl rfl (by decide) wi_X1 tyX1 tyX1_ok nmX1 (wgm fk_RX1_9) rfl rfl rfl (Or.inr ⟨_, rfl⟩) (a + 1) dX1_init_9 (fun S2 eS2 H locs hz9 hW => ?_)
  have hf := nm_at eS2 hf
  have hz : H.size = a + 2 := hz9.trans hz
  refine lv_aload_n hx hb dX1_init_12 rfl (lv_at hl 0 rfl) ?_
  refine lv_iconst (v := (5 : Int32)) hx hb dX1_init_13 (by decide) ?_
  refine m_newa hM hW hz 2 (by decide) rfl (wgm wd_al) 5 (by decide) (by decide) (by decide) (Nat.le_of_ble_eq_true rfl) (Nat.le_of_ble_eq_true rfl) dX1_init_14 (fun S4 eS4 hk hg9 H hz hW => ?_)
  have hf := nm_at eS4 hf
  have hz : H.size = a + 3 := hz
  obtain ⟨h6, hf⟩ := ck_elim hf
  have h6 := of_decide_eq_true h6
  refine m_putFR hM hin2 hW 12 1 h6 rfl rfl (by decide) wi_X1 tyX1 tyX1_ok nmX1 (wgm fk_RX1_15) rfl rfl rfl (Or.inr ⟨_, rfl⟩) (a + 2) dX1_init_16 (fun S5 eS5 H locs hz9 hW => ?_)
  have hf := nm_at eS5 hf
  have hz : H.size = a + 3 := hz9.trans hz
  refine lv_aload_n hx hb dX1_init_19 rfl (lv_at hl 0 rfl) ?_
  refine lv_iconst (v := (4 : Int32)) hx hb dX1_init_20 (by decide) ?_
  refine m_newa hM hW hz 2 (by decide) rfl (wgm wd_al) 4 (by decide) (by decide) (by decide) (Nat.le_of_ble_eq_true rfl) (Nat.le_of_ble_eq_true rfl) dX1_init_21 (fun S7 eS7 hk hg9 H hz hW => ?_)
  have hf := nm_at eS7 hf
  have hz : H.size = a + 4 := hz
  obtain ⟨h9, hf⟩ := ck_elim hf
  have h9 := of_decide_eq_true h9
  refine m_putFR hM hin2 hW 12 2 h9 rfl rfl (by decide) wi_X1 tyX1 tyX1_ok nmX1 (wgm fk_RX1_18) rfl rfl rfl (Or.inr ⟨_, rfl⟩) (a + 3) dX1_init_23 (fun S8 eS8 H locs hz9 hW => ?_)
  have hf := nm_at eS8 hf
  have hz : H.size = a + 4 := hz9.trans hz
  refine lv_aload_n hx hb dX1_init_26 rfl (lv_at hl 0 rfl) ?_
  refine lv_iconst (v := (5 : Int32)) hx hb dX1_init_27 (by decide) ?_
  refine m_newa hM hW hz 1 (by decide) rfl (wgm wd_ai) 5 (by decide) (by decide) (by decide) (Nat.le_of_ble_eq_true rfl) (Nat.le_of_ble_eq_true rfl) dX1_init_28 (fun S10 eS10 hk hg9 H hz hW => ?_)
  have hf := nm_at eS10 hf
  have hz : H.size = a + 5 := hz
  obtain ⟨h12, hf⟩ := ck_elim hf
  have h12 := of_decide_eq_true h12
  refine m_putFR hM hin2 hW 12 3 h12 rfl rfl (by decide) wi_X1 tyX1 tyX1_ok nmX1 (wgm fk_RX1_21) rfl rfl rfl (Or.inr ⟨_, rfl⟩) (a + 4) dX1_init_30 (fun S11 eS11 H locs hz9 hW => ?_)
  have hf := nm_at eS11 hf
  have hz : H.size = a + 5 := hz9.trans hz
  refine lv_aload_n hx hb dX1_init_33 rfl (lv_at hl 0 rfl) ?_
  refine lv_iconst (v := (5 : Int32)) hx hb dX1_init_34 (by decide) ?_
  refine m_newa hM hW hz 1 (by decide) rfl (wgm wd_ai) 5 (by decide) (by decide) (by decide) (Nat.le_of_ble_eq_true rfl) (Nat.le_of_ble_eq_true rfl) dX1_init_35 (fun S13 eS13 hk hg9 H hz hW => ?_)
  have hf := nm_at eS13 hf
  have hz : H.size = a + 6 := hz
  obtain ⟨h15, hf⟩ := ck_elim hf
  have h15 := of_decide_eq_true h15
  refine m_putFR hM hin2 hW 12 4 h15 rfl rfl (by decide) wi_X1 tyX1 tyX1_ok nmX1 (wgm fk_RX1_25) rfl rfl rfl (Or.inr ⟨_, rfl⟩) (a + 5) dX1_init_37 (fun S14 eS14 H locs hz9 hW => ?_)
  have hf := nm_at eS14 hf
  have hz : H.size = a + 6 := hz9.trans hz
  exact t_X1_init_g1 hM hml hr hlk hin2 hs0 hf _ _ hW hz _ (lv_sub hl [0] rfl)
abbrev RM_X6_init : Room := { frames := 1, cells := 4, slots := 120, locals := 40 }
abbrev w_X6_init : List Cond := Cond.code yX6_init cX6_init 1 none :: wsL_law0
noncomputable def f_X6_init (fu : Nat) (G : GG) (S : ST) (a : Nat) : Option ST :=
  nm (st S (a + 1) (barr 1 30)) fun S1 =>
  ck (decide (gC (S1 a) = 18)) <|
  nm (st S1 a (sR (S1 a) 0 (some (a + 1)))) fun S2 =>
  nm (st S2 (a + 2) (barr 1 30)) fun S4 =>
  ck (decide (gC (S4 a) = 18)) <|
  nm (st S4 a (sR (S4 a) 1 (some (a + 2)))) fun S5 =>
  nm (st S5 (a + 3) (barr 1 30)) fun S7 =>
  ck (decide (gC (S7 a) = 18)) <|
  nm (st S7 a (sR (S7 a) 2 (some (a + 3)))) fun S8 =>
  nm (st S8 (a + 4) (barr 1 30)) fun S10 =>
  ck (decide (gC (S10 a) = 18)) <|
  nm (st S10 a (sR (S10 a) 3 (some (a + 4)))) fun S11 =>
  ck (decide (gC (S11 a) = 18)) <|
  nm (st S11 a (sI (S11 a) 4 (0 : Int32))) fun S13 =>
  ck (frB G S13 a 5 28) <|
  nm (frm S13 a 5 28) fun S16 =>
  some S16
set_option maxHeartbeats 40000000 in
set_option maxRecDepth 100000 in
theorem c_X6_init (l : Launch) (G : GG) (fu : Nat) (S : ST) (a : Nat) {z : ST} (hf : f_X6_init fu G S a = some z) : Cn l yX6_init w_X6_init RM_X6_init G S (a + 1) [.ref a] none z (a + 5) 4 120 := by
  refine Met.ofW (cc := cX6_init) (maxL := 1) (ret := none) (by decide) rfl ?_
  intro p e s m args below meth c s₁ B hml hv
  obtain ⟨rfl, hB, hK, hzw, hz⟩ := hv
  have hM : MC G p s m _ c cX6_init w_X6_init RX6 := ⟨B.exec, B.bytes, findClass_of_methodNamed B.named, atoms_spec (ws := w_X6_init) B.pre, hK, hzw⟩
  have hW : WB G S s s.heap [] := ⟨hB, va_S.rf⟩
  have hin2 : meth.name = "<init>" := (name_of_methodNamed B.named B.method).1
  have hr := B.returns
  have hlk := B.notSynchronized
  have hx := hM.1
  have hb := hM.2.1
  have hs0 := hz
  have hl := lv_entry ([.ref a]) (n := 1) (Nat.le_of_ble_eq_true rfl)
  rw [lg_entry_eq]
  generalize (lg_sl ([.ref a]) ++ List.replicate (1 - (lg_sl ([.ref a])).length) Slot.unset).toArray = ls at hl ⊢
  have hl : lv_has ls 1 [(0, .ref a)] := hl
  unfold f_X6_init at hf
  refine lv_aload_n hx hb dX6_init_0 rfl (lv_at hl 0 rfl) ?_
  refine n_obj hM hml hl.1 mk_RX6_3 (Nat.le_of_ble_eq_true rfl) (Nat.le_of_ble_eq_true rfl) dX6_init_1 ?_
  refine lv_aload_n hx hb dX6_init_4 rfl (lv_at hl 0 rfl) ?_
  refine lv_bipush (v := (30 : Int32)) hx hb dX6_init_5 (by decide) ?_
  refine m_newa hM hW hz 1 (by decide) rfl (wgm wd_ai) 30 (by decide) (by decide) (by decide) (Nat.le_of_ble_eq_true rfl) (Nat.le_of_ble_eq_true rfl) dX6_init_7 (fun S1 eS1 hk hg9 H hz hW => ?_)
  have hf := nm_at eS1 hf
  have hz : H.size = a + 2 := hz
  obtain ⟨h3, hf⟩ := ck_elim hf
  have h3 := of_decide_eq_true h3
  refine m_putFR hM hin2 hW 17 0 h3 rfl rfl (by decide) wi_X6 tyX6 tyX6_ok nmX6 (wgm fk_RX6_9) rfl rfl rfl (Or.inr ⟨_, rfl⟩) (a + 1) dX6_init_9 (fun S2 eS2 H locs hz9 hW => ?_)
  have hf := nm_at eS2 hf
  have hz : H.size = a + 2 := hz9.trans hz
  refine lv_aload_n hx hb dX6_init_12 rfl (lv_at hl 0 rfl) ?_
  refine lv_bipush (v := (30 : Int32)) hx hb dX6_init_13 (by decide) ?_
  refine m_newa hM hW hz 1 (by decide) rfl (wgm wd_ai) 30 (by decide) (by decide) (by decide) (Nat.le_of_ble_eq_true rfl) (Nat.le_of_ble_eq_true rfl) dX6_init_15 (fun S4 eS4 hk hg9 H hz hW => ?_)
  have hf := nm_at eS4 hf
  have hz : H.size = a + 3 := hz
  obtain ⟨h6, hf⟩ := ck_elim hf
  have h6 := of_decide_eq_true h6
  refine m_putFR hM hin2 hW 17 1 h6 rfl rfl (by decide) wi_X6 tyX6 tyX6_ok nmX6 (wgm fk_RX6_15) rfl rfl rfl (Or.inr ⟨_, rfl⟩) (a + 2) dX6_init_17 (fun S5 eS5 H locs hz9 hW => ?_)
  have hf := nm_at eS5 hf
  have hz : H.size = a + 3 := hz9.trans hz
  refine lv_aload_n hx hb dX6_init_20 rfl (lv_at hl 0 rfl) ?_
  refine lv_bipush (v := (30 : Int32)) hx hb dX6_init_21 (by decide) ?_
  refine m_newa hM hW hz 1 (by decide) rfl (wgm wd_ai) 30 (by decide) (by decide) (by decide) (Nat.le_of_ble_eq_true rfl) (Nat.le_of_ble_eq_true rfl) dX6_init_23 (fun S7 eS7 hk hg9 H hz hW => ?_)
  have hf := nm_at eS7 hf
  have hz : H.size = a + 4 := hz
  obtain ⟨h9, hf⟩ := ck_elim hf
  have h9 := of_decide_eq_true h9
  refine m_putFR hM hin2 hW 17 2 h9 rfl rfl (by decide) wi_X6 tyX6 tyX6_ok nmX6 (wgm fk_RX6_18) rfl rfl rfl (Or.inr ⟨_, rfl⟩) (a + 3) dX6_init_25 (fun S8 eS8 H locs hz9 hW => ?_)
  have hf := nm_at eS8 hf
  have hz : H.size = a + 4 := hz9.trans hz
  refine lv_aload_n hx hb dX6_init_28 rfl (lv_at hl 0 rfl) ?_
  refine lv_bipush (v := (30 : Int32)) hx hb dX6_init_29 (by decide) ?_
  refine m_newa hM hW hz 1 (by decide) rfl (wgm wd_ai) 30 (by decide) (by decide) (by decide) (Nat.le_of_ble_eq_true rfl) (Nat.le_of_ble_eq_true rfl) dX6_init_31 (fun S10 eS10 hk hg9 H hz hW => ?_)
  have hf := nm_at eS10 hf
  have hz : H.size = a + 5 := hz
  obtain ⟨h12, hf⟩ := ck_elim hf
  have h12 := of_decide_eq_true h12
  refine m_putFR hM hin2 hW 17 3 h12 rfl rfl (by decide) wi_X6 tyX6 tyX6_ok nmX6 (wgm fk_RX6_21) rfl rfl rfl (Or.inr ⟨_, rfl⟩) (a + 4) dX6_init_33 (fun S11 eS11 H locs hz9 hW => ?_)
  have hf := nm_at eS11 hf
  have hz : H.size = a + 5 := hz9.trans hz
  refine lv_aload_n hx hb dX6_init_36 rfl (lv_at hl 0 rfl) ?_
  refine lv_iconst (v := (0 : Int32)) hx hb dX6_init_37 (by decide) ?_
  obtain ⟨h14, hf⟩ := ck_elim hf
  have h14 := of_decide_eq_true h14
  refine n_putI hM  hW 17 4 h14 rfl rfl (by decide) wi_X6 tyX6 tyX6_ok nmX6 (wgm fk_RX6_24) rfl rfl rfl dX6_init_38 (fun S13 eS13 H locs hz9 hW => ?_)
  have hf := nm_at eS13 hf
  have hz : H.size = a + 5 := hz9.trans hz
  obtain ⟨h15, hf⟩ := ck_elim hf
  have hW := hW.form (frB_ok h15 (by decide) (by decide))
  obtain ⟨S16, eS16⟩ : ∃ y : ST, y = frm S13 a 5 28 := ⟨_, rfl⟩
  rw [← eS16] at hW
  have hf := nm_at eS16 hf
  cases hf
  exact W.vret hx hb hr (n_ret hW hz _) hW.2.2.2 dX6_init_41 hlk
abbrev RM_X7_init : Room := { frames := 1, cells := 2, slots := 251, locals := 40 }
abbrev w_X7_init : List Cond := Cond.code yX7_init cX7_init 1 none :: wsL_law0
noncomputable def f_X7_init (fu : Nat) (G : GG) (S : ST) (a : Nat) : Option ST :=
  nm (st S (a + 1) (barr 1 8)) fun S1 =>
  ck (decide (gC (S1 a) = 19)) <|
  nm (st S1 a (sR (S1 a) 0 (some (a + 1)))) fun S2 =>
  nm (st S2 (a + 2) (barr 1 243)) fun S4 =>
  ck (decide (gC (S4 a) = 19)) <|
  nm (st S4 a (sR (S4 a) 1 (some (a + 2)))) fun S5 =>
  ck (decide (gC (S5 a) = 19)) <|
  nm (st S5 a (sI (S5 a) 2 (1 : Int32))) fun S7 =>
  ck (frB G S7 a 6 28) <|
  nm (frm S7 a 6 28) fun S10 =>
  some S10
set_option maxHeartbeats 40000000 in
set_option maxRecDepth 100000 in
theorem c_X7_init (l : Launch) (G : GG) (fu : Nat) (S : ST) (a : Nat) {z : ST} (hf : f_X7_init fu G S a = some z) : Cn l yX7_init w_X7_init RM_X7_init G S (a + 1) [.ref a] none z (a + 3) 2 251 := by
  refine Met.ofW (cc := cX7_init) (maxL := 1) (ret := none) (by decide) rfl ?_
  intro p e s m args below meth c s₁ B hml hv
  obtain ⟨rfl, hB, hK, hzw, hz⟩ := hv
  have hM : MC G p s m _ c cX7_init w_X7_init RX7 := ⟨B.exec, B.bytes, findClass_of_methodNamed B.named, atoms_spec (ws := w_X7_init) B.pre, hK, hzw⟩
  have hW : WB G S s s.heap [] := ⟨hB, va_S.rf⟩
  have hin2 : meth.name = "<init>" := (name_of_methodNamed B.named B.method).1
  have hr := B.returns
  have hlk := B.notSynchronized
  have hx := hM.1
  have hb := hM.2.1
  have hs0 := hz
  have hl := lv_entry ([.ref a]) (n := 1) (Nat.le_of_ble_eq_true rfl)
  rw [lg_entry_eq]
  generalize (lg_sl ([.ref a]) ++ List.replicate (1 - (lg_sl ([.ref a])).length) Slot.unset).toArray = ls at hl ⊢
  have hl : lv_has ls 1 [(0, .ref a)] := hl
  unfold f_X7_init at hf
  refine lv_aload_n hx hb dX7_init_0 rfl (lv_at hl 0 rfl) ?_
  refine n_obj hM hml hl.1 mk_RX7_3 (Nat.le_of_ble_eq_true rfl) (Nat.le_of_ble_eq_true rfl) dX7_init_1 ?_
  refine lv_aload_n hx hb dX7_init_4 rfl (lv_at hl 0 rfl) ?_
  refine lv_bipush (v := (8 : Int32)) hx hb dX7_init_5 (by decide) ?_
  refine m_newa hM hW hz 1 (by decide) rfl (wgm wd_ai) 8 (by decide) (by decide) (by decide) (Nat.le_of_ble_eq_true rfl) (Nat.le_of_ble_eq_true rfl) dX7_init_7 (fun S1 eS1 hk hg9 H hz hW => ?_)
  have hf := nm_at eS1 hf
  have hz : H.size = a + 2 := hz
  obtain ⟨h3, hf⟩ := ck_elim hf
  have h3 := of_decide_eq_true h3
  refine m_putFR hM hin2 hW 18 0 h3 rfl rfl (by decide) wi_X7 tyX7 tyX7_ok nmX7 (wgm fk_RX7_9) rfl rfl rfl (Or.inr ⟨_, rfl⟩) (a + 1) dX7_init_9 (fun S2 eS2 H locs hz9 hW => ?_)
  have hf := nm_at eS2 hf
  have hz : H.size = a + 2 := hz9.trans hz
  refine lv_aload_n hx hb dX7_init_12 rfl (lv_at hl 0 rfl) ?_
  refine lv_sipush (v := (243 : Int32)) hx hb dX7_init_13 (by decide) ?_
  refine m_newa hM hW hz 1 (by decide) rfl (wgm wd_ai) 243 (by decide) (by decide) (by decide) (Nat.le_of_ble_eq_true rfl) (Nat.le_of_ble_eq_true rfl) dX7_init_16 (fun S4 eS4 hk hg9 H hz hW => ?_)
  have hf := nm_at eS4 hf
  have hz : H.size = a + 3 := hz
  obtain ⟨h6, hf⟩ := ck_elim hf
  have h6 := of_decide_eq_true h6
  refine m_putFR hM hin2 hW 18 1 h6 rfl rfl (by decide) wi_X7 tyX7 tyX7_ok nmX7 (wgm fk_RX7_15) rfl rfl rfl (Or.inr ⟨_, rfl⟩) (a + 2) dX7_init_18 (fun S5 eS5 H locs hz9 hW => ?_)
  have hf := nm_at eS5 hf
  have hz : H.size = a + 3 := hz9.trans hz
  refine lv_aload_n hx hb dX7_init_21 rfl (lv_at hl 0 rfl) ?_
  refine lv_iconst (v := (1 : Int32)) hx hb dX7_init_22 (by decide) ?_
  obtain ⟨h8, hf⟩ := ck_elim hf
  have h8 := of_decide_eq_true h8
  refine n_putI hM  hW 18 2 h8 rfl rfl (by decide) wi_X7 tyX7 tyX7_ok nmX7 (wgm fk_RX7_18) rfl rfl rfl dX7_init_23 (fun S7 eS7 H locs hz9 hW => ?_)
  have hf := nm_at eS7 hf
  have hz : H.size = a + 3 := hz9.trans hz
  obtain ⟨h9, hf⟩ := ck_elim hf
  have hW := hW.form (frB_ok h9 (by decide) (by decide))
  obtain ⟨S10, eS10⟩ : ∃ y : ST, y = frm S7 a 6 28 := ⟨_, rfl⟩
  rw [← eS10] at hW
  have hf := nm_at eS10 hf
  cases hf
  exact W.vret hx hb hr (n_ret hW hz _) hW.2.2.2 dX7_init_26 hlk
abbrev RM_X9_init : Room := { frames := 1, cells := 3, slots := 18, locals := 40 }
abbrev w_X9_init : List Cond := Cond.code yX9_init cX9_init 1 none :: wsL_law0
noncomputable def f_X9_init (fu : Nat) (G : GG) (S : ST) (a : Nat) : Option ST :=
  nm (st S (a + 1) (barr 1 6)) fun S1 =>
  ck (decide (gC (S1 a) = 21)) <|
  nm (st S1 a (sR (S1 a) 0 (some (a + 1)))) fun S2 =>
  nm (st S2 (a + 2) (barr 1 6)) fun S4 =>
  ck (decide (gC (S4 a) = 21)) <|
  nm (st S4 a (sR (S4 a) 1 (some (a + 2)))) fun S5 =>
  nm (st S5 (a + 3) (barr 1 6)) fun S7 =>
  ck (decide (gC (S7 a) = 21)) <|
  nm (st S7 a (sR (S7 a) 2 (some (a + 3)))) fun S8 =>
  ck (decide (gC (S8 a) = 21)) <|
  nm (st S8 a (sI (S8 a) 3 (0 : Int32))) fun S10 =>
  ck (decide (gC (S10 a) = 21)) <|
  nm (st S10 a (sI (S10 a) 4 (0 : Int32))) fun S12 =>
  ck (decide (gC (S12 a) = 21)) <|
  nm (st S12 a (sI (S12 a) 5 (0 : Int32))) fun S14 =>
  ck (frB G S14 a 8 28) <|
  nm (frm S14 a 8 28) fun S17 =>
  some S17
set_option maxHeartbeats 40000000 in
set_option maxRecDepth 100000 in
theorem c_X9_init (l : Launch) (G : GG) (fu : Nat) (S : ST) (a : Nat) {z : ST} (hf : f_X9_init fu G S a = some z) : Cn l yX9_init w_X9_init RM_X9_init G S (a + 1) [.ref a] none z (a + 4) 3 18 := by
  refine Met.ofW (cc := cX9_init) (maxL := 1) (ret := none) (by decide) rfl ?_
  intro p e s m args below meth c s₁ B hml hv
  obtain ⟨rfl, hB, hK, hzw, hz⟩ := hv
  have hM : MC G p s m _ c cX9_init w_X9_init RX9 := ⟨B.exec, B.bytes, findClass_of_methodNamed B.named, atoms_spec (ws := w_X9_init) B.pre, hK, hzw⟩
  have hW : WB G S s s.heap [] := ⟨hB, va_S.rf⟩
  have hin2 : meth.name = "<init>" := (name_of_methodNamed B.named B.method).1
  have hr := B.returns
  have hlk := B.notSynchronized
  have hx := hM.1
  have hb := hM.2.1
  have hs0 := hz
  have hl := lv_entry ([.ref a]) (n := 1) (Nat.le_of_ble_eq_true rfl)
  rw [lg_entry_eq]
  generalize (lg_sl ([.ref a]) ++ List.replicate (1 - (lg_sl ([.ref a])).length) Slot.unset).toArray = ls at hl ⊢
  have hl : lv_has ls 1 [(0, .ref a)] := hl
  unfold f_X9_init at hf
  refine lv_aload_n hx hb dX9_init_0 rfl (lv_at hl 0 rfl) ?_
  refine n_obj hM hml hl.1 mk_RX9_3 (Nat.le_of_ble_eq_true rfl) (Nat.le_of_ble_eq_true rfl) dX9_init_1 ?_
  refine lv_aload_n hx hb dX9_init_4 rfl (lv_at hl 0 rfl) ?_
  refine lv_bipush (v := (6 : Int32)) hx hb dX9_init_5 (by decide) ?_
  refine m_newa hM hW hz 1 (by decide) rfl (wgm wd_ai) 6 (by decide) (by decide) (by decide) (Nat.le_of_ble_eq_true rfl) (Nat.le_of_ble_eq_true rfl) dX9_init_7 (fun S1 eS1 hk hg9 H hz hW => ?_)
  have hf := nm_at eS1 hf
  have hz : H.size = a + 2 := hz
  obtain ⟨h3, hf⟩ := ck_elim hf
  have h3 := of_decide_eq_true h3
  refine m_putFR hM hin2 hW 20 0 h3 rfl rfl (by decide) wi_X9 tyX9 tyX9_ok nmX9 (wgm fk_RX9_11) rfl rfl rfl (Or.inr ⟨_, rfl⟩) (a + 1) dX9_init_9 (fun S2 eS2 H locs hz9 hW => ?_)
  have hf := nm_at eS2 hf
  have hz : H.size = a + 2 := hz9.trans hz
  refine lv_aload_n hx hb dX9_init_12 rfl (lv_at hl 0 rfl) ?_
  refine lv_bipush (v := (6 : Int32)) hx hb dX9_init_13 (by decide) ?_
  refine m_newa hM hW hz 1 (by decide) rfl (wgm wd_ai) 6 (by decide) (by decide) (by decide) (Nat.le_of_ble_eq_true rfl) (Nat.le_of_ble_eq_true rfl) dX9_init_15 (fun S4 eS4 hk hg9 H hz hW => ?_)
  have hf := nm_at eS4 hf
  have hz : H.size = a + 3 := hz
  obtain ⟨h6, hf⟩ := ck_elim hf
  have h6 := of_decide_eq_true h6
  refine m_putFR hM hin2 hW 20 1 h6 rfl rfl (by decide) wi_X9 tyX9 tyX9_ok nmX9 (wgm fk_RX9_15) rfl rfl rfl (Or.inr ⟨_, rfl⟩) (a + 2) dX9_init_17 (fun S5 eS5 H locs hz9 hW => ?_)
  have hf := nm_at eS5 hf
  have hz : H.size = a + 3 := hz9.trans hz
  refine lv_aload_n hx hb dX9_init_20 rfl (lv_at hl 0 rfl) ?_
  refine lv_bipush (v := (6 : Int32)) hx hb dX9_init_21 (by decide) ?_
  refine m_newa hM hW hz 1 (by decide) rfl (wgm wd_ai) 6 (by decide) (by decide) (by decide) (Nat.le_of_ble_eq_true rfl) (Nat.le_of_ble_eq_true rfl) dX9_init_23 (fun S7 eS7 hk hg9 H hz hW => ?_)
  have hf := nm_at eS7 hf
  have hz : H.size = a + 4 := hz
  obtain ⟨h9, hf⟩ := ck_elim hf
  have h9 := of_decide_eq_true h9
  refine m_putFR hM hin2 hW 20 2 h9 rfl rfl (by decide) wi_X9 tyX9 tyX9_ok nmX9 (wgm fk_RX9_18) rfl rfl rfl (Or.inr ⟨_, rfl⟩) (a + 3) dX9_init_25 (fun S8 eS8 H locs hz9 hW => ?_)
  have hf := nm_at eS8 hf
  have hz : H.size = a + 4 := hz9.trans hz
  refine lv_aload_n hx hb dX9_init_28 rfl (lv_at hl 0 rfl) ?_
  refine lv_iconst (v := (0 : Int32)) hx hb dX9_init_29 (by decide) ?_
  obtain ⟨h11, hf⟩ := ck_elim hf
  have h11 := of_decide_eq_true h11
  refine n_putI hM  hW 20 3 h11 rfl rfl (by decide) wi_X9 tyX9 tyX9_ok nmX9 (wgm fk_RX9_21) rfl rfl rfl dX9_init_30 (fun S10 eS10 H locs hz9 hW => ?_)
  have hf := nm_at eS10 hf
  have hz : H.size = a + 4 := hz9.trans hz
  refine lv_aload_n hx hb dX9_init_33 rfl (lv_at hl 0 rfl) ?_
  refine lv_iconst (v := (0 : Int32)) hx hb dX9_init_34 (by decide) ?_
  obtain ⟨h13, hf⟩ := ck_elim hf
  have h13 := of_decide_eq_true h13
  refine n_putI hM  hW 20 4 h13 rfl rfl (by decide) wi_X9 tyX9 tyX9_ok nmX9 (wgm fk_RX9_25) rfl rfl rfl dX9_init_35 (fun S12 eS12 H locs hz9 hW => ?_)
  have hf := nm_at eS12 hf
  have hz : H.size = a + 4 := hz9.trans hz
  refine lv_aload_n hx hb dX9_init_38 rfl (lv_at hl 0 rfl) ?_
  refine lv_iconst (v := (0 : Int32)) hx hb dX9_init_39 (by decide) ?_
  obtain ⟨h15, hf⟩ := ck_elim hf
  have h15 := of_decide_eq_true h15
  refine n_putI hM  hW 20 5 h15 rfl rfl (by decide) wi_X9 tyX9 tyX9_ok nmX9 (wgm fk_RX9_28) rfl rfl rfl dX9_init_40 (fun S14 eS14 H locs hz9 hW => ?_)
  have hf := nm_at eS14 hf
  have hz : H.size = a + 4 := hz9.trans hz
  obtain ⟨h16, hf⟩ := ck_elim hf
  have hW := hW.form (frB_ok h16 (by decide) (by decide))
  obtain ⟨S17, eS17⟩ : ∃ y : ST, y = frm S14 a 8 28 := ⟨_, rfl⟩
  rw [← eS17] at hW
  have hf := nm_at eS17 hf
  cases hf
  exact W.vret hx hb hr (n_ret hW hz _) hW.2.2.2 dX9_init_43 hlk
abbrev RM_X11_init : Room := { frames := 3, cells := 7, slots := 58, locals := 63 }
abbrev w_X11_init : List Cond := Cond.code yX11_init cX11_init 1 none :: wsL_law0
noncomputable def f_X11_init (fu : Nat) (G : GG) (S : ST) (a : Nat) : Option ST :=
  nm (st S (a + 1) (rawo 2)) fun S1 =>
  bd (f_X3_init fu G S1 (a + 1)) fun S2 =>
  ck (decide (gC (S2 a) = 22)) <|
  nm (st S2 a (sR (S2 a) 0 (some (a + 1)))) fun S3 =>
  ck (decide (gC (S3 a) = 22)) <|
  nm (st S3 a (sJ (S3 a) 1 (0 : Int64))) fun S5 =>
  ck (decide (gC (S5 a) = 22)) <|
  nm (st S5 a (sI (S5 a) 2 (0 : Int32))) fun S7 =>
  ck (frB G S7 a 9 28) <|
  nm (frm S7 a 9 28) fun S10 =>
  some S10
set_option maxHeartbeats 40000000 in
set_option maxRecDepth 100000 in
theorem c_X11_init (l : Launch) (G : GG) (fu : Nat) (S : ST) (a : Nat) {z : ST} (hf : f_X11_init fu G S a = some z) : Cn l yX11_init w_X11_init RM_X11_init G S (a + 1) [.ref a] none z (a + 8) 7 58 := by
  refine Met.ofW (cc := cX11_init) (maxL := 1) (ret := none) (by decide) rfl ?_
  intro p e s m args below meth c s₁ B hml hv
  obtain ⟨rfl, hB, hK, hzw, hz⟩ := hv
  have hM : MC G p s m _ c cX11_init w_X11_init RX11 := ⟨B.exec, B.bytes, findClass_of_methodNamed B.named, atoms_spec (ws := w_X11_init) B.pre, hK, hzw⟩
  have hW : WB G S s s.heap [] := ⟨hB, va_S.rf⟩
  have hin2 : meth.name = "<init>" := (name_of_methodNamed B.named B.method).1
  have hr := B.returns
  have hlk := B.notSynchronized
  have hx := hM.1
  have hb := hM.2.1
  have hs0 := hz
  have hl := lv_entry ([.ref a]) (n := 1) (Nat.le_of_ble_eq_true rfl)
  rw [lg_entry_eq]
  generalize (lg_sl ([.ref a]) ++ List.replicate (1 - (lg_sl ([.ref a])).length) Slot.unset).toArray = ls at hl ⊢
  have hl : lv_has ls 1 [(0, .ref a)] := hl
  unfold f_X11_init at hf
  refine lv_aload_n hx hb dX11_init_0 rfl (lv_at hl 0 rfl) ?_
  refine n_obj hM hml hl.1 mk_RX11_3 (Nat.le_of_ble_eq_true rfl) (Nat.le_of_ble_eq_true rfl) dX11_init_1 ?_
  refine lv_aload_n hx hb dX11_init_4 rfl (lv_at hl 0 rfl) ?_
  refine m_new hM hW hz 2 (by decide) rfl rfl wi_X3 tyX3 tyX3_ok (by decide +kernel) (wgm kc_RX11_9) (wgm is_RX3) (wgm it_RX3) (Nat.le_of_ble_eq_true rfl) (Nat.le_of_ble_eq_true rfl) dX11_init_5 (fun S1 eS1 hk hg9 H hz hW => ?_)
  have hf := nm_at eS1 hf
  have hz : H.size = a + 2 := hz
  refine lv_dup hx hb dX11_init_8 rfl ?_
  obtain ⟨S2, hS2, hf⟩ := bd_elim hf
  refine n_init (np := 0) [] [.ref (a + 1), .ref a] hM hml hl.1 hW hz (c_X3_init l G fu _ (a + 1) hS2) rfl cd_X3_init it_RX3 mk_RX11_11 im_X3_init rfl rfl rfl (by decide +kernel) ⟨Nat.le_of_ble_eq_true rfl, Nat.le_of_ble_eq_true rfl⟩ rfl rfl (Nat.le_of_ble_eq_true rfl) ⟨Nat.le_of_ble_eq_true rfl, Nat.le_of_ble_eq_true rfl⟩ dX11_init_9 (fun H locs hz hW => ?_)
  have hz : H.size = a + 8 := hz
  obtain ⟨h4, hf⟩ := ck_elim hf
  have h4 := of_decide_eq_true h4
  refine m_putFR hM hin2 hW 21 0 h4 rfl rfl (by decide) wi_X11 tyX11 tyX11_ok nmX11 (wgm fk_RX11_12) rfl rfl rfl (Or.inl ⟨_, rfl⟩) (a + 1) dX11_init_12 (fun S3 eS3 H locs hz9 hW => ?_)
  have hf := nm_at eS3 hf
  have hz : H.size = a + 8 := hz9.trans hz
  refine lv_aload_n hx hb dX11_init_15 rfl (lv_at hl 0 rfl) ?_
  refine lv_lconst (v := (0 : Int64)) hx hb dX11_init_16 (by decide) ?_
  obtain ⟨h6, hf⟩ := ck_elim hf
  have h6 := of_decide_eq_true h6
  refine n_putJ hM  hW 21 1 h6 rfl rfl (by decide) wi_X11 tyX11 tyX11_ok nmX11 (wgm fk_RX11_18) rfl rfl rfl dX11_init_17 (fun S5 eS5 H locs hz9 hW => ?_)
  have hf := nm_at eS5 hf
  have hz : H.size = a + 8 := hz9.trans hz
  refine lv_aload_n hx hb dX11_init_20 rfl (lv_at hl 0 rfl) ?_
  refine lv_iconst (v := (0 : Int32)) hx hb dX11_init_21 (by decide) ?_
  obtain ⟨h8, hf⟩ := ck_elim hf
  have h8 := of_decide_eq_true h8
  refine n_putI hM  hW 21 2 h8 rfl rfl (by decide) wi_X11 tyX11 tyX11_ok nmX11 (wgm fk_RX11_22) rfl rfl rfl dX11_init_22 (fun S7 eS7 H locs hz9 hW => ?_)
  have hf := nm_at eS7 hf
  have hz : H.size = a + 8 := hz9.trans hz
  obtain ⟨h9, hf⟩ := ck_elim hf
  have hW := hW.form (frB_ok h9 (by decide) (by decide))
  obtain ⟨S10, eS10⟩ : ∃ y : ST, y = frm S7 a 9 28 := ⟨_, rfl⟩
  rw [← eS10] at hW
  have hf := nm_at eS10 hf
  cases hf
  exact W.vret hx hb hr (n_ret hW hz _) hW.2.2.2 dX11_init_25 hlk
