abbrev RM_X13_init : Room := { frames := 3, cells := 26, slots := 11590, locals := 66 }
abbrev w_X13_init : List Cond := Cond.code yX13_init cX13_init 1 none :: wsL_law0
noncomputable def f_X13_init_g5 (fu : Nat) (G : GG) (S : ST) (a : Nat) : Option ST :=
  nm (st S (a + 26) (barr 1 10)) fun S163 =>
  ck (decide (gC (S163 a) = 24)) <|
  nm (st S163 a (sR (S163 a) 39 (some (a + 26)))) fun S164 =>
  ck (frB G S164 a 11 28) <|
  nm (frm S164 a 11 28) fun S167 =>
  ck (decide (gC (S167 a) = 12)) <|
  bd (f_X13_standsAsAlways fu (S167 a) (0 : Int32)) fun v170 =>
  nm (st S167 a v170) fun S169 =>
  ck (decide (gC (S169 a) = 12)) <|
  bd (f_X13_begins fu (S169 a) ) fun v173 =>
  nm (st S169 a v173) fun S172 =>
  ck (decide (gC (S172 a) = 12)) <|
  some S172
set_option maxHeartbeats 40000000 in
set_option maxRecDepth 100000 in
theorem t_X13_init_g5 {G : GG} {p : Program} {l : Launch} {e : Env} {s : State} {m : MethodId} {args : Array Value} {below : List Frame} {meth : Method} {c : Code} {S : ST} {fu a : Nat} {z : ST} (hM : MC G p s m args c cX13_init w_X13_init RX13) (hml : c.maxLocals = 1) (hr : meth.sig.returnType = none) (hlk : meth.locks = false) (hin2 : meth.name = "<init>") (hs0 : s.heap.size = a + 1) (hf : f_X13_init_g5 fu G S a = some z) : ∀ (H : Heap) (locs : List Loc), WB G S s H locs → H.size = a + 26 → ∀ (ls : Array Slot), lv_has ls 1 [(0, .ref a)] → W p l e RM_X13_init s m args below meth c H locs 25 11580 (QN G below args s none z (a + 27) 26 11590) (F0 m 408 ls []) := by
  intro H locs hW hz ls hl
  have hx := hM.1
  have hb := hM.2.1
  unfold f_X13_init_g5 at hf
  refine lv_aload_n hx hb dX13_init_408 rfl (lv_at hl 0 rfl) ?_
  refine lv_bipush (v := (10 : Int32)) hx hb dX13_init_409 (by decide) ?_
  refine m_newa hM hW hz 1 (by decide) rfl (wgm wd_ai) 10 (by decide) (by decide) (by decide) (Nat.le_of_ble_eq_true rfl) (Nat.le_of_ble_eq_true rfl) dX13_init_411 (fun S163 eS163 hk hg9 H hz hW => ?_)
  have hf := nm_at eS163 hf
  have hz : H.size = a + 27 := hz
  obtain ⟨h165, hf⟩ := ck_elim hf
  have h165 := of_decide_eq_true h165
  refine m_putFR hM hin2 hW 23 39 h165 rfl rfl (by decide) wi_X13 tyX13 tyX13_ok nmX13 (wgm fk_RX13_156) rfl rfl rfl (Or.inr ⟨_, rfl⟩) (a + 26) dX13_init_413 (fun S164 eS164 H locs hz9 hW => ?_)
  have hf := nm_at eS164 hf
  have hz : H.size = a + 27 := hz9.trans hz
  refine lv_aload_n hx hb dX13_init_416 rfl (lv_at hl 0 rfl) ?_
  refine lv_iconst (v := (0 : Int32)) hx hb dX13_init_417 (by decide) ?_
  obtain ⟨h166, hf⟩ := ck_elim hf
  have hW := hW.form (frB_ok h166 (by decide) (by decide))
  obtain ⟨S167, eS167⟩ : ∃ y : ST, y = frm S164 a 11 28 := ⟨_, rfl⟩
  rw [← eS167] at hW
  have hf := nm_at eS167 hf
  obtain ⟨h168, hf⟩ := ck_elim hf
  have h168 := of_decide_eq_true h168
  obtain ⟨v170, hS169, hf⟩ := bd_elim hf
  refine s_callNv [.int (0 : Int32)] [] hM hml hl.1 hW h168 rfl (by decide) (Ct_self (c_X13_standsAsAlways l G fu _ a _ _ h168 hS169)) (cwV 1 hM.2.2.2.1 (gV mk_RX13_159 im_X13_standsAsAlways se_X13_standsAsAlways it_RX13 cd_X13_standsAsAlways) rfl rfl rfl (by decide +kernel) ⟨Nat.le_of_ble_eq_true rfl, Nat.le_of_ble_eq_true rfl⟩) rfl rfl (Nat.le_of_ble_eq_true rfl) ⟨Nat.le_of_ble_eq_true rfl, Nat.le_of_ble_eq_true rfl⟩ dX13_init_418 (fun S169 eS169 hk H locs hW => ?_)
  have hf := nm_at eS169 hf
  refine lv_aload_n hx hb dX13_init_421 rfl (lv_at hl 0 rfl) ?_
  obtain ⟨h171, hf⟩ := ck_elim hf
  have h171 := of_decide_eq_true h171
  obtain ⟨v173, hS172, hf⟩ := bd_elim hf
  refine s_callNv [] [] hM hml hl.1 hW h171 rfl (by decide) (Ct_self (c_X13_begins l G fu _ a _  h171 hS172)) (cwV 0 hM.2.2.2.1 (gV mk_RX13_163 im_X13_begins se_X13_begins it_RX13 cd_X13_begins) rfl rfl rfl (by decide +kernel) ⟨Nat.le_of_ble_eq_true rfl, Nat.le_of_ble_eq_true rfl⟩) rfl rfl (Nat.le_of_ble_eq_true rfl) ⟨Nat.le_of_ble_eq_true rfl, Nat.le_of_ble_eq_true rfl⟩ dX13_init_422 (fun S172 eS172 hk H locs hW => ?_)
  have hf := nm_at eS172 hf
  obtain ⟨h174, hf⟩ := ck_elim hf
  have h174 := of_decide_eq_true h174
  refine W.size (fun hz9 => ?_)
  have hz : H.size = a + 27 := by
    have h1 := hW.1.lt (b := a) h174 (x := 26) (Or.inr ⟨39, by decide, rfl, rfl⟩)
    omega
  cases hf
  exact W.vret hx hb hr (n_ret hW hz _) hW.2.2.2 dX13_init_425 hlk
noncomputable def f_X13_init_g4 (fu : Nat) (G : GG) (S : ST) (a : Nat) : Option ST :=
  nm (st S (a + 21) (barr 1 5)) fun S148 =>
  ck (decide (gC (S148 a) = 24)) <|
  nm (st S148 a (sR (S148 a) 32 (some (a + 21)))) fun S149 =>
  nm (st S149 (a + 22) (barr 1 8)) fun S151 =>
  ck (decide (gC (S151 a) = 24)) <|
  nm (st S151 a (sR (S151 a) 33 (some (a + 22)))) fun S152 =>
  nm (st S152 (a + 23) (barr 1 8)) fun S154 =>
  ck (decide (gC (S154 a) = 24)) <|
  nm (st S154 a (sR (S154 a) 34 (some (a + 23)))) fun S155 =>
  nm (st S155 (a + 24) (barr 1 8)) fun S157 =>
  ck (decide (gC (S157 a) = 24)) <|
  nm (st S157 a (sR (S157 a) 35 (some (a + 24)))) fun S158 =>
  nm (st S158 (a + 25) (barr 1 10)) fun S160 =>
  ck (decide (gC (S160 a) = 24)) <|
  nm (st S160 a (sR (S160 a) 38 (some (a + 25)))) fun S161 =>
  f_X13_init_g5 fu G S161 a
set_option maxHeartbeats 40000000 in
set_option maxRecDepth 100000 in
theorem t_X13_init_g4 {G : GG} {p : Program} {l : Launch} {e : Env} {s : State} {m : MethodId} {args : Array Value} {below : List Frame} {meth : Method} {c : Code} {S : ST} {fu a : Nat} {z : ST} (hM : MC G p s m args c cX13_init w_X13_init RX13) (hml : c.maxLocals = 1) (hr : meth.sig.returnType = none) (hlk : meth.locks = false) (hin2 : meth.name = "<init>") (hs0 : s.heap.size = a + 1) (hf : f_X13_init_g4 fu G S a = some z) : ∀ (H : Heap) (locs : List Loc), WB G S s H locs → H.size = a + 21 → ∀ (ls : Array Slot), lv_has ls 1 [(0, .ref a)] → W p l e RM_X13_init s m args below meth c H locs 20 11541 (QN G below args s none z (a + 27) 26 11590) (F0 m 369 ls []) := by
  intro H locs hW hz ls hl
  have hx := hM.1
  have hb := hM.2.1
  unfold f_X13_init_g4 at hf
  refine lv_aload_n hx hb dX13_init_369 rfl (lv_at hl 0 rfl) ?_
  refine lv_iconst (v := (5 : Int32)) hx hb dX13_init_370 (by decide) ?_
  refine m_newa hM hW hz 1 (by decide) rfl (wgm wd_ai) 5 (by decide) (by decide) (by decide) (Nat.le_of_ble_eq_true rfl) (Nat.le_of_ble_eq_true rfl) dX13_init_371 (fun S148 eS148 hk hg9 H hz hW => ?_)
  have hf := nm_at eS148 hf
  have hz : H.size = a + 22 := hz
  obtain ⟨h150, hf⟩ := ck_elim hf
  have h150 := of_decide_eq_true h150
  refine m_putFR hM hin2 hW 23 32 h150 rfl rfl (by decide) wi_X13 tyX13 tyX13_ok nmX13 (wgm fk_RX13_141) rfl rfl rfl (Or.inr ⟨_, rfl⟩) (a + 21) dX13_init_373 (fun S149 eS149 H locs hz9 hW => ?_)
  have hf := nm_at eS149 hf
  have hz : H.size = a + 22 := hz9.trans hz
  refine lv_aload_n hx hb dX13_init_376 rfl (lv_at hl 0 rfl) ?_
  refine lv_bipush (v := (8 : Int32)) hx hb dX13_init_377 (by decide) ?_
  refine m_newa hM hW hz 1 (by decide) rfl (wgm wd_ai) 8 (by decide) (by decide) (by decide) (Nat.le_of_ble_eq_true rfl) (Nat.le_of_ble_eq_true rfl) dX13_init_379 (fun S151 eS151 hk hg9 H hz hW => ?_)
  have hf := nm_at eS151 hf
  have hz : H.size = a + 23 := hz
  obtain ⟨h153, hf⟩ := ck_elim hf
  have h153 := of_decide_eq_true h153
  refine m_putFR hM hin2 hW 23 33 h153 rfl rfl (by decide) wi_X13 tyX13 tyX13_ok nmX13 (wgm fk_RX13_144) rfl rfl rfl (Or.inr ⟨_, rfl⟩) (a + 22) dX13_init_381 (fun S152 eS152 H locs hz9 hW => ?_)
  have hf := nm_at eS152 hf
  have hz : H.size = a + 23 := hz9.trans hz
  refine lv_aload_n hx hb dX13_init_384 rfl (lv_at hl 0 rfl) ?_
  refine lv_bipush (v := (8 : Int32)) hx hb dX13_init_385 (by decide) ?_
  refine m_newa hM hW hz 1 (by decide) rfl (wgm wd_ai) 8 (by decide) (by decide) (by decide) (Nat.le_of_ble_eq_true rfl) (Nat.le_of_ble_eq_true rfl) dX13_init_387 (fun S154 eS154 hk hg9 H hz hW => ?_)
  have hf := nm_at eS154 hf
  have hz : H.size = a + 24 := hz
  obtain ⟨h156, hf⟩ := ck_elim hf
  have h156 := of_decide_eq_true h156
  refine m_putFR hM hin2 hW 23 34 h156 rfl rfl (by decide) wi_X13 tyX13 tyX13_ok nmX13 (wgm fk_RX13_147) rfl rfl rfl (Or.inr ⟨_, rfl⟩) (a + 23) dX13_init_389 (fun S155 eS155 H locs hz9 hW => ?_)
  have hf := nm_at eS155 hf
  have hz : H.size = a + 24 := hz9.trans hz
  refine lv_aload_n hx hb dX13_init_392 rfl (lv_at hl 0 rfl) ?_
  refine lv_bipush (v := (8 : Int32)) hx hb dX13_init_393 (by decide) ?_
  refine m_newa hM hW hz 1 (by decide) rfl (wgm wd_ai) 8 (by decide) (by decide) (by decide) (Nat.le_of_ble_eq_true rfl) (Nat.le_of_ble_eq_true rfl) dX13_init_395 (fun S157 eS157 hk hg9 H hz hW => ?_)
  have hf := nm_at eS157 hf
  have hz : H.size = a + 25 := hz
  obtain ⟨h159, hf⟩ := ck_elim hf
  have h159 := of_decide_eq_true h159
  refine m_putFR hM hin2 hW 23 35 h159 rfl rfl (by decide) wi_X13 tyX13 tyX13_ok nmX13 (wgm fk_RX13_150) rfl rfl rfl (Or.inr ⟨_, rfl⟩) (a + 24) dX13_init_397 (fun S158 eS158 H locs hz9 hW => ?_)
  have hf := nm_at eS158 hf
  have hz : H.size = a + 25 := hz9.trans hz
  refine lv_aload_n hx hb dX13_init_400 rfl (lv_at hl 0 rfl) ?_
  refine lv_bipush (v := (10 : Int32)) hx hb dX13_init_401 (by decide) ?_
  refine m_newa hM hW hz 1 (by decide) rfl (wgm wd_ai) 10 (by decide) (by decide) (by decide) (Nat.le_of_ble_eq_true rfl) (Nat.le_of_ble_eq_true rfl) dX13_init_403 (fun S160 eS160 hk hg9 H hz hW => ?_)
  have hf := nm_at eS160 hf
  have hz : H.size = a + 26 := hz
  obtain ⟨h162, hf⟩ := ck_elim hf
  have h162 := of_decide_eq_true h162
  refine m_putFR hM hin2 hW 23 38 h162 rfl rfl (by decide) wi_X13 tyX13 tyX13_ok nmX13 (wgm fk_RX13_153) rfl rfl rfl (Or.inr ⟨_, rfl⟩) (a + 25) dX13_init_405 (fun S161 eS161 H locs hz9 hW => ?_)
  have hf := nm_at eS161 hf
  have hz : H.size = a + 26 := hz9.trans hz
  exact t_X13_init_g5 hM hml hr hlk hin2 hs0 hf _ _ hW hz _ (lv_sub hl [0] rfl)
noncomputable def f_X13_init_g3 (fu : Nat) (G : GG) (S : ST) (a : Nat) : Option ST :=
  nm (st S (a + 16) (barr 1 1518)) fun S133 =>
  ck (decide (gC (S133 a) = 24)) <|
  nm (st S133 a (sR (S133 a) 24 (some (a + 16)))) fun S134 =>
  nm (st S134 (a + 17) (barr 4 4)) fun S136 =>
  ck (decide (gC (S136 a) = 24)) <|
  nm (st S136 a (sR (S136 a) 26 (some (a + 17)))) fun S137 =>
  nm (st S137 (a + 18) (barr 1 6)) fun S139 =>
  ck (decide (gC (S139 a) = 24)) <|
  nm (st S139 a (sR (S139 a) 27 (some (a + 18)))) fun S140 =>
  nm (st S140 (a + 19) (barr 1 6)) fun S142 =>
  ck (decide (gC (S142 a) = 24)) <|
  nm (st S142 a (sR (S142 a) 28 (some (a + 19)))) fun S143 =>
  nm (st S143 (a + 20) (barr 1 6)) fun S145 =>
  ck (decide (gC (S145 a) = 24)) <|
  nm (st S145 a (sR (S145 a) 29 (some (a + 20)))) fun S146 =>
  f_X13_init_g4 fu G S146 a
set_option maxHeartbeats 40000000 in
set_option maxRecDepth 100000 in
theorem t_X13_init_g3 {G : GG} {p : Program} {l : Launch} {e : Env} {s : State} {m : MethodId} {args : Array Value} {below : List Frame} {meth : Method} {c : Code} {S : ST} {fu a : Nat} {z : ST} (hM : MC G p s m args c cX13_init w_X13_init RX13) (hml : c.maxLocals = 1) (hr : meth.sig.returnType = none) (hlk : meth.locks = false) (hin2 : meth.name = "<init>") (hs0 : s.heap.size = a + 1) (hf : f_X13_init_g3 fu G S a = some z) : ∀ (H : Heap) (locs : List Loc), WB G S s H locs → H.size = a + 16 → ∀ (ls : Array Slot), lv_has ls 1 [(0, .ref a)] → W p l e RM_X13_init s m args below meth c H locs 15 10001 (QN G below args s none z (a + 27) 26 11590) (F0 m 329 ls []) := by
  intro H locs hW hz ls hl
  have hx := hM.1
  have hb := hM.2.1
  unfold f_X13_init_g3 at hf
  refine lv_aload_n hx hb dX13_init_329 rfl (lv_at hl 0 rfl) ?_
  refine lv_sipush (v := (1518 : Int32)) hx hb dX13_init_330 (by decide) ?_
  refine m_newa hM hW hz 1 (by decide) rfl (wgm wd_ai) 1518 (by decide) (by decide) (by decide) (Nat.le_of_ble_eq_true rfl) (Nat.le_of_ble_eq_true rfl) dX13_init_333 (fun S133 eS133 hk hg9 H hz hW => ?_)
  have hf := nm_at eS133 hf
  have hz : H.size = a + 17 := hz
  obtain ⟨h135, hf⟩ := ck_elim hf
  have h135 := of_decide_eq_true h135
  refine m_putFR hM hin2 hW 23 24 h135 rfl rfl (by decide) wi_X13 tyX13 tyX13_ok nmX13 (wgm fk_RX13_125) rfl rfl rfl (Or.inr ⟨_, rfl⟩) (a + 16) dX13_init_335 (fun S134 eS134 H locs hz9 hW => ?_)
  have hf := nm_at eS134 hf
  have hz : H.size = a + 17 := hz9.trans hz
  refine lv_aload_n hx hb dX13_init_338 rfl (lv_at hl 0 rfl) ?_
  refine lv_iconst (v := (4 : Int32)) hx hb dX13_init_339 (by decide) ?_
  refine m_newa hM hW hz 4 (by decide) rfl (wgm wd_ab) 4 (by decide) (by decide) (by decide) (Nat.le_of_ble_eq_true rfl) (Nat.le_of_ble_eq_true rfl) dX13_init_340 (fun S136 eS136 hk hg9 H hz hW => ?_)
  have hf := nm_at eS136 hf
  have hz : H.size = a + 18 := hz
  obtain ⟨h138, hf⟩ := ck_elim hf
  have h138 := of_decide_eq_true h138
  refine m_putFR hM hin2 hW 23 26 h138 rfl rfl (by decide) wi_X13 tyX13 tyX13_ok nmX13 (wgm fk_RX13_128) rfl rfl rfl (Or.inr ⟨_, rfl⟩) (a + 17) dX13_init_342 (fun S137 eS137 H locs hz9 hW => ?_)
  have hf := nm_at eS137 hf
  have hz : H.size = a + 18 := hz9.trans hz
  refine lv_aload_n hx hb dX13_init_345 rfl (lv_at hl 0 rfl) ?_
  refine lv_bipush (v := (6 : Int32)) hx hb dX13_init_346 (by decide) ?_
  refine m_newa hM hW hz 1 (by decide) rfl (wgm wd_ai) 6 (by decide) (by decide) (by decide) (Nat.le_of_ble_eq_true rfl) (Nat.le_of_ble_eq_true rfl) dX13_init_348 (fun S139 eS139 hk hg9 H hz hW => ?_)
  have hf := nm_at eS139 hf
  have hz : H.size = a + 19 := hz
  obtain ⟨h141, hf⟩ := ck_elim hf
  have h141 := of_decide_eq_true h141
  refine m_putFR hM hin2 hW 23 27 h141 rfl rfl (by decide) wi_X13 tyX13 tyX13_ok nmX13 (wgm fk_RX13_132) rfl rfl rfl (Or.inr ⟨_, rfl⟩) (a + 18) dX13_init_350 (fun S140 eS140 H locs hz9 hW => ?_)
  have hf := nm_at eS140 hf
  have hz : H.size = a + 19 := hz9.trans hz
  refine lv_aload_n hx hb dX13_init_353 rfl (lv_at hl 0 rfl) ?_
  refine lv_bipush (v := (6 : Int32)) hx hb dX13_init_354 (by decide) ?_
  refine m_newa hM hW hz 1 (by decide) rfl (wgm wd_ai) 6 (by decide) (by decide) (by decide) (Nat.le_of_ble_eq_true rfl) (Nat.le_of_ble_eq_true rfl) dX13_init_356 (fun S142 eS142 hk hg9 H hz hW => ?_)
  have hf := nm_at eS142 hf
  have hz : H.size = a + 20 := hz
  obtain ⟨h144, hf⟩ := ck_elim hf
  have h144 := of_decide_eq_true h144
  refine m_putFR hM hin2 hW 23 28 h144 rfl rfl (by decide) wi_X13 tyX13 tyX13_ok nmX13 (wgm fk_RX13_135) rfl rfl rfl (Or.inr ⟨_, rfl⟩) (a + 19) dX13_init_358 (fun S143 eS143 H locs hz9 hW => ?_)
  have hf := nm_at eS143 hf
  have hz : H.size = a + 20 := hz9.trans hz
  refine lv_aload_n hx hb dX13_init_361 rfl (lv_at hl 0 rfl) ?_
  refine lv_bipush (v := (6 : Int32)) hx hb dX13_init_362 (by decide) ?_
  refine m_newa hM hW hz 1 (by decide) rfl (wgm wd_ai) 6 (by decide) (by decide) (by decide) (Nat.le_of_ble_eq_true rfl) (Nat.le_of_ble_eq_true rfl) dX13_init_364 (fun S145 eS145 hk hg9 H hz hW => ?_)
  have hf := nm_at eS145 hf
  have hz : H.size = a + 21 := hz
  obtain ⟨h147, hf⟩ := ck_elim hf
  have h147 := of_decide_eq_true h147
  refine m_putFR hM hin2 hW 23 29 h147 rfl rfl (by decide) wi_X13 tyX13 tyX13_ok nmX13 (wgm fk_RX13_138) rfl rfl rfl (Or.inr ⟨_, rfl⟩) (a + 20) dX13_init_366 (fun S146 eS146 H locs hz9 hW => ?_)
  have hf := nm_at eS146 hf
  have hz : H.size = a + 21 := hz9.trans hz
  exact t_X13_init_g4 hM hml hr hlk hin2 hs0 hf _ _ hW hz _ (lv_sub hl [0] rfl)
noncomputable def f_X13_init_g2 (fu : Nat) (G : GG) (S : ST) (a : Nat) : Option ST :=
  nm (st S (a + 11) (barr 1 18)) fun S118 =>
  ck (decide (gC (S118 a) = 24)) <|
  nm (st S118 a (sR (S118 a) 16 (some (a + 11)))) fun S119 =>
  nm (st S119 (a + 12) (barr 1 18)) fun S121 =>
  ck (decide (gC (S121 a) = 24)) <|
  nm (st S121 a (sR (S121 a) 17 (some (a + 12)))) fun S122 =>
  nm (st S122 (a + 13) (barr 1 250)) fun S124 =>
  ck (decide (gC (S124 a) = 24)) <|
  nm (st S124 a (sR (S124 a) 21 (some (a + 13)))) fun S125 =>
  nm (st S125 (a + 14) (barr 1 4)) fun S127 =>
  ck (decide (gC (S127 a) = 24)) <|
  nm (st S127 a (sR (S127 a) 22 (some (a + 14)))) fun S128 =>
  nm (st S128 (a + 15) (barr 1 1100)) fun S130 =>
  ck (decide (gC (S130 a) = 24)) <|
  nm (st S130 a (sR (S130 a) 23 (some (a + 15)))) fun S131 =>
  f_X13_init_g3 fu G S131 a
set_option maxHeartbeats 40000000 in
set_option maxRecDepth 100000 in
theorem t_X13_init_g2 {G : GG} {p : Program} {l : Launch} {e : Env} {s : State} {m : MethodId} {args : Array Value} {below : List Frame} {meth : Method} {c : Code} {S : ST} {fu a : Nat} {z : ST} (hM : MC G p s m args c cX13_init w_X13_init RX13) (hml : c.maxLocals = 1) (hr : meth.sig.returnType = none) (hlk : meth.locks = false) (hin2 : meth.name = "<init>") (hs0 : s.heap.size = a + 1) (hf : f_X13_init_g2 fu G S a = some z) : ∀ (H : Heap) (locs : List Loc), WB G S s H locs → H.size = a + 11 → ∀ (ls : Array Slot), lv_has ls 1 [(0, .ref a)] → W p l e RM_X13_init s m args below meth c H locs 10 8611 (QN G below args s none z (a + 27) 26 11590) (F0 m 288 ls []) := by
  intro H locs hW hz ls hl
  have hx := hM.1
  have hb := hM.2.1
  unfold f_X13_init_g2 at hf
  refine lv_aload_n hx hb dX13_init_288 rfl (lv_at hl 0 rfl) ?_
  refine lv_bipush (v := (18 : Int32)) hx hb dX13_init_289 (by decide) ?_
  refine m_newa hM hW hz 1 (by decide) rfl (wgm wd_ai) 18 (by decide) (by decide) (by decide) (Nat.le_of_ble_eq_true rfl) (Nat.le_of_ble_eq_true rfl) dX13_init_291 (fun S118 eS118 hk hg9 H hz hW => ?_)
  have hf := nm_at eS118 hf
  have hz : H.size = a + 12 := hz
  obtain ⟨h120, hf⟩ := ck_elim hf
  have h120 := of_decide_eq_true h120
  refine m_putFR hM hin2 hW 23 16 h120 rfl rfl (by decide) wi_X13 tyX13 tyX13_ok nmX13 (wgm fk_RX13_110) rfl rfl rfl (Or.inr ⟨_, rfl⟩) (a + 11) dX13_init_293 (fun S119 eS119 H locs hz9 hW => ?_)
  have hf := nm_at eS119 hf
  have hz : H.size = a + 12 := hz9.trans hz
  refine lv_aload_n hx hb dX13_init_296 rfl (lv_at hl 0 rfl) ?_
  refine lv_bipush (v := (18 : Int32)) hx hb dX13_init_297 (by decide) ?_
  refine m_newa hM hW hz 1 (by decide) rfl (wgm wd_ai) 18 (by decide) (by decide) (by decide) (Nat.le_of_ble_eq_true rfl) (Nat.le_of_ble_eq_true rfl) dX13_init_299 (fun S121 eS121 hk hg9 H hz hW => ?_)
  have hf := nm_at eS121 hf
  have hz : H.size = a + 13 := hz
  obtain ⟨h123, hf⟩ := ck_elim hf
  have h123 := of_decide_eq_true h123
  refine m_putFR hM hin2 hW 23 17 h123 rfl rfl (by decide) wi_X13 tyX13 tyX13_ok nmX13 (wgm fk_RX13_113) rfl rfl rfl (Or.inr ⟨_, rfl⟩) (a + 12) dX13_init_301 (fun S122 eS122 H locs hz9 hW => ?_)
  have hf := nm_at eS122 hf
  have hz : H.size = a + 13 := hz9.trans hz
  refine lv_aload_n hx hb dX13_init_304 rfl (lv_at hl 0 rfl) ?_
  refine lv_sipush (v := (250 : Int32)) hx hb dX13_init_305 (by decide) ?_
  refine m_newa hM hW hz 1 (by decide) rfl (wgm wd_ai) 250 (by decide) (by decide) (by decide) (Nat.le_of_ble_eq_true rfl) (Nat.le_of_ble_eq_true rfl) dX13_init_308 (fun S124 eS124 hk hg9 H hz hW => ?_)
  have hf := nm_at eS124 hf
  have hz : H.size = a + 14 := hz
  obtain ⟨h126, hf⟩ := ck_elim hf
  have h126 := of_decide_eq_true h126
  refine m_putFR hM hin2 hW 23 21 h126 rfl rfl (by decide) wi_X13 tyX13 tyX13_ok nmX13 (wgm fk_RX13_116) rfl rfl rfl (Or.inr ⟨_, rfl⟩) (a + 13) dX13_init_310 (fun S125 eS125 H locs hz9 hW => ?_)
  have hf := nm_at eS125 hf
  have hz : H.size = a + 14 := hz9.trans hz
  refine lv_aload_n hx hb dX13_init_313 rfl (lv_at hl 0 rfl) ?_
  refine lv_iconst (v := (4 : Int32)) hx hb dX13_init_314 (by decide) ?_
  refine m_newa hM hW hz 1 (by decide) rfl (wgm wd_ai) 4 (by decide) (by decide) (by decide) (Nat.le_of_ble_eq_true rfl) (Nat.le_of_ble_eq_true rfl) dX13_init_315 (fun S127 eS127 hk hg9 H hz hW => ?_)
  have hf := nm_at eS127 hf
  have hz : H.size = a + 15 := hz
  obtain ⟨h129, hf⟩ := ck_elim hf
  have h129 := of_decide_eq_true h129
  refine m_putFR hM hin2 hW 23 22 h129 rfl rfl (by decide) wi_X13 tyX13 tyX13_ok nmX13 (wgm fk_RX13_119) rfl rfl rfl (Or.inr ⟨_, rfl⟩) (a + 14) dX13_init_317 (fun S128 eS128 H locs hz9 hW => ?_)
  have hf := nm_at eS128 hf
  have hz : H.size = a + 15 := hz9.trans hz
  refine lv_aload_n hx hb dX13_init_320 rfl (lv_at hl 0 rfl) ?_
  refine lv_sipush (v := (1100 : Int32)) hx hb dX13_init_321 (by decide) ?_
  refine m_newa hM hW hz 1 (by decide) rfl (wgm wd_ai) 1100 (by decide) (by decide) (by decide) (Nat.le_of_ble_eq_true rfl) (Nat.le_of_ble_eq_true rfl) dX13_init_324 (fun S130 eS130 hk hg9 H hz hW => ?_)
  have hf := nm_at eS130 hf
  have hz : H.size = a + 16 := hz
  obtain ⟨h132, hf⟩ := ck_elim hf
  have h132 := of_decide_eq_true h132
  refine m_putFR hM hin2 hW 23 23 h132 rfl rfl (by decide) wi_X13 tyX13 tyX13_ok nmX13 (wgm fk_RX13_122) rfl rfl rfl (Or.inr ⟨_, rfl⟩) (a + 15) dX13_init_326 (fun S131 eS131 H locs hz9 hW => ?_)
  have hf := nm_at eS131 hf
  have hz : H.size = a + 16 := hz9.trans hz
  exact t_X13_init_g3 hM hml hr hlk hin2 hs0 hf _ _ hW hz _ (lv_sub hl [0] rfl)
noncomputable def f_X13_init_g1 (fu : Nat) (G : GG) (S : ST) (a : Nat) : Option ST :=
  nm (st S (a + 6) (barr 1 140)) fun S103 =>
  ck (decide (gC (S103 a) = 24)) <|
  nm (st S103 a (sR (S103 a) 10 (some (a + 6)))) fun S104 =>
  nm (st S104 (a + 7) (barr 1 2200)) fun S106 =>
  ck (decide (gC (S106 a) = 24)) <|
  nm (st S106 a (sR (S106 a) 11 (some (a + 7)))) fun S107 =>
  nm (st S107 (a + 8) (barr 1 2200)) fun S109 =>
  ck (decide (gC (S109 a) = 24)) <|
  nm (st S109 a (sR (S109 a) 12 (some (a + 8)))) fun S110 =>
  nm (st S110 (a + 9) (barr 2 18)) fun S112 =>
  ck (decide (gC (S112 a) = 24)) <|
  nm (st S112 a (sR (S112 a) 14 (some (a + 9)))) fun S113 =>
  nm (st S113 (a + 10) (barr 2 18)) fun S115 =>
  ck (decide (gC (S115 a) = 24)) <|
  nm (st S115 a (sR (S115 a) 15 (some (a + 10)))) fun S116 =>
  f_X13_init_g2 fu G S116 a
set_option maxHeartbeats 40000000 in
set_option maxRecDepth 100000 in
theorem t_X13_init_g1 {G : GG} {p : Program} {l : Launch} {e : Env} {s : State} {m : MethodId} {args : Array Value} {below : List Frame} {meth : Method} {c : Code} {S : ST} {fu a : Nat} {z : ST} (hM : MC G p s m args c cX13_init w_X13_init RX13) (hml : c.maxLocals = 1) (hr : meth.sig.returnType = none) (hlk : meth.locks = false) (hin2 : meth.name = "<init>") (hs0 : s.heap.size = a + 1) (hf : f_X13_init_g1 fu G S a = some z) : ∀ (H : Heap) (locs : List Loc), WB G S s H locs → H.size = a + 6 → ∀ (ls : Array Slot), lv_has ls 1 [(0, .ref a)] → W p l e RM_X13_init s m args below meth c H locs 5 4035 (QN G below args s none z (a + 27) 26 11590) (F0 m 245 ls []) := by
  intro H locs hW hz ls hl
  have hx := hM.1
  have hb := hM.2.1
  unfold f_X13_init_g1 at hf
  refine lv_aload_n hx hb dX13_init_245 rfl (lv_at hl 0 rfl) ?_
  refine lv_sipush (v := (140 : Int32)) hx hb dX13_init_246 (by decide) ?_
  refine m_newa hM hW hz 1 (by decide) rfl (wgm wd_ai) 140 (by decide) (by decide) (by decide) (Nat.le_of_ble_eq_true rfl) (Nat.le_of_ble_eq_true rfl) dX13_init_249 (fun S103 eS103 hk hg9 H hz hW => ?_)
  have hf := nm_at eS103 hf
  have hz : H.size = a + 7 := hz
  obtain ⟨h105, hf⟩ := ck_elim hf
  have h105 := of_decide_eq_true h105
  refine m_putFR hM hin2 hW 23 10 h105 rfl rfl (by decide) wi_X13 tyX13 tyX13_ok nmX13 (wgm fk_RX13_95) rfl rfl rfl (Or.inr ⟨_, rfl⟩) (a + 6) dX13_init_251 (fun S104 eS104 H locs hz9 hW => ?_)
  have hf := nm_at eS104 hf
  have hz : H.size = a + 7 := hz9.trans hz
  refine lv_aload_n hx hb dX13_init_254 rfl (lv_at hl 0 rfl) ?_
  refine lv_sipush (v := (2200 : Int32)) hx hb dX13_init_255 (by decide) ?_
  refine m_newa hM hW hz 1 (by decide) rfl (wgm wd_ai) 2200 (by decide) (by decide) (by decide) (Nat.le_of_ble_eq_true rfl) (Nat.le_of_ble_eq_true rfl) dX13_init_258 (fun S106 eS106 hk hg9 H hz hW => ?_)
  have hf := nm_at eS106 hf
  have hz : H.size = a + 8 := hz
  obtain ⟨h108, hf⟩ := ck_elim hf
  have h108 := of_decide_eq_true h108
  refine m_putFR hM hin2 hW 23 11 h108 rfl rfl (by decide) wi_X13 tyX13 tyX13_ok nmX13 (wgm fk_RX13_98) rfl rfl rfl (Or.inr ⟨_, rfl⟩) (a + 7) dX13_init_260 (fun S107 eS107 H locs hz9 hW => ?_)
  have hf := nm_at eS107 hf
  have hz : H.size = a + 8 := hz9.trans hz
  refine lv_aload_n hx hb dX13_init_263 rfl (lv_at hl 0 rfl) ?_
  refine lv_sipush (v := (2200 : Int32)) hx hb dX13_init_264 (by decide) ?_
  refine m_newa hM hW hz 1 (by decide) rfl (wgm wd_ai) 2200 (by decide) (by decide) (by decide) (Nat.le_of_ble_eq_true rfl) (Nat.le_of_ble_eq_true rfl) dX13_init_267 (fun S109 eS109 hk hg9 H hz hW => ?_)
  have hf := nm_at eS109 hf
  have hz : H.size = a + 9 := hz
  obtain ⟨h111, hf⟩ := ck_elim hf
  have h111 := of_decide_eq_true h111
  refine m_putFR hM hin2 hW 23 12 h111 rfl rfl (by decide) wi_X13 tyX13 tyX13_ok nmX13 (wgm fk_RX13_101) rfl rfl rfl (Or.inr ⟨_, rfl⟩) (a + 8) dX13_init_269 (fun S110 eS110 H locs hz9 hW => ?_)
  have hf := nm_at eS110 hf
  have hz : H.size = a + 9 := hz9.trans hz
  refine lv_aload_n hx hb dX13_init_272 rfl (lv_at hl 0 rfl) ?_
  refine lv_bipush (v := (18 : Int32)) hx hb dX13_init_273 (by decide) ?_
  refine m_newa hM hW hz 2 (by decide) rfl (wgm wd_al) 18 (by decide) (by decide) (by decide) (Nat.le_of_ble_eq_true rfl) (Nat.le_of_ble_eq_true rfl) dX13_init_275 (fun S112 eS112 hk hg9 H hz hW => ?_)
  have hf := nm_at eS112 hf
  have hz : H.size = a + 10 := hz
  obtain ⟨h114, hf⟩ := ck_elim hf
  have h114 := of_decide_eq_true h114
  refine m_putFR hM hin2 hW 23 14 h114 rfl rfl (by decide) wi_X13 tyX13 tyX13_ok nmX13 (wgm fk_RX13_104) rfl rfl rfl (Or.inr ⟨_, rfl⟩) (a + 9) dX13_init_277 (fun S113 eS113 H locs hz9 hW => ?_)
  have hf := nm_at eS113 hf
  have hz : H.size = a + 10 := hz9.trans hz
  refine lv_aload_n hx hb dX13_init_280 rfl (lv_at hl 0 rfl) ?_
  refine lv_bipush (v := (18 : Int32)) hx hb dX13_init_281 (by decide) ?_
  refine m_newa hM hW hz 2 (by decide) rfl (wgm wd_al) 18 (by decide) (by decide) (by decide) (Nat.le_of_ble_eq_true rfl) (Nat.le_of_ble_eq_true rfl) dX13_init_283 (fun S115 eS115 hk hg9 H hz hW => ?_)
  have hf := nm_at eS115 hf
  have hz : H.size = a + 11 := hz
  obtain ⟨h117, hf⟩ := ck_elim hf
  have h117 := of_decide_eq_true h117
  refine m_putFR hM hin2 hW 23 15 h117 rfl rfl (by decide) wi_X13 tyX13 tyX13_ok nmX13 (wgm fk_RX13_107) rfl rfl rfl (Or.inr ⟨_, rfl⟩) (a + 10) dX13_init_285 (fun S116 eS116 H locs hz9 hW => ?_)
  have hf := nm_at eS116 hf
  have hz : H.size = a + 11 := hz9.trans hz
  exact t_X13_init_g2 hM hml hr hlk hin2 hs0 hf _ _ hW hz _ (lv_sub hl [0] rfl)
noncomputable def f_X13_init (fu : Nat) (G : GG) (S : ST) (a : Nat) : Option ST :=
  nm (st S (a + 1) (barr 1 1000)) fun S1 =>
  ck (decide (gC (S1 a) = 24)) <|
  nm (st S1 a (sR (S1 a) 1 (some (a + 1)))) fun S2 =>
  nm (st S2 (a + 2) (barr 1 1002)) fun S4 =>
  ck (decide (gC (S4 a) = 24)) <|
  nm (st S4 a (sR (S4 a) 4 (some (a + 2)))) fun S5 =>
  nm (st S5 (a + 3) (barr 1 1002)) fun S7 =>
  ck (decide (gC (S7 a) = 24)) <|
  nm (st S7 a (sR (S7 a) 5 (some (a + 3)))) fun S8 =>
  nm (st S8 (a + 4) (barr 2 1002)) fun S10 =>
  ck (decide (gC (S10 a) = 24)) <|
  nm (st S10 a (sR (S10 a) 6 (some (a + 4)))) fun S11 =>
  nm (st S11 (a + 5) (barr 2 29)) fun S13 =>
  ck (decide (gC (S13 (a + 5)) = 26)) <|
  ck (inb (0 : Int32) (gN (S13 (a + 5)) 0)) <|
  nm (st S13 (a + 5) (sL (S13 (a + 5)) 0 (0 : Int32).toNatClampNeg (984886 : Int64))) fun S14 =>
  ck (decide (gC (S14 (a + 5)) = 26)) <|
  ck (inb (1 : Int32) (gN (S14 (a + 5)) 0)) <|
  nm (st S14 (a + 5) (sL (S14 (a + 5)) 0 (1 : Int32).toNatClampNeg (37900956 : Int64))) fun S17 =>
  ck (decide (gC (S17 (a + 5)) = 26)) <|
  ck (inb (2 : Int32) (gN (S17 (a + 5)) 0)) <|
  nm (st S17 (a + 5) (sL (S17 (a + 5)) 0 (2 : Int32).toNatClampNeg (36179019 : Int64))) fun S20 =>
  ck (decide (gC (S20 (a + 5)) = 26)) <|
  ck (inb (3 : Int32) (gN (S20 (a + 5)) 0)) <|
  nm (st S20 (a + 5) (sL (S20 (a + 5)) 0 (3 : Int32).toNatClampNeg (6395136 : Int64))) fun S23 =>
  ck (decide (gC (S23 (a + 5)) = 26)) <|
  ck (inb (4 : Int32) (gN (S23 (a + 5)) 0)) <|
  nm (st S23 (a + 5) (sL (S23 (a + 5)) 0 (4 : Int32).toNatClampNeg (57 : Int64))) fun S26 =>
  ck (decide (gC (S26 (a + 5)) = 26)) <|
  ck (inb (5 : Int32) (gN (S26 (a + 5)) 0)) <|
  nm (st S26 (a + 5) (sL (S26 (a + 5)) 0 (5 : Int32).toNatClampNeg (173111 : Int64))) fun S29 =>
  ck (decide (gC (S29 (a + 5)) = 26)) <|
  ck (inb (6 : Int32) (gN (S29 (a + 5)) 0)) <|
  nm (st S29 (a + 5) (sL (S29 (a + 5)) 0 (6 : Int32).toNatClampNeg (561 : Int64))) fun S32 =>
  ck (decide (gC (S32 (a + 5)) = 26)) <|
  ck (inb (7 : Int32) (gN (S32 (a + 5)) 0)) <|
  nm (st S32 (a + 5) (sL (S32 (a + 5)) 0 (7 : Int32).toNatClampNeg (979184 : Int64))) fun S35 =>
  ck (decide (gC (S35 (a + 5)) = 26)) <|
  ck (inb (8 : Int32) (gN (S35 (a + 5)) 0)) <|
  nm (st S35 (a + 5) (sL (S35 (a + 5)) 0 (8 : Int32).toNatClampNeg (1178088 : Int64))) fun S38 =>
  ck (decide (gC (S38 (a + 5)) = 26)) <|
  ck (inb (9 : Int32) (gN (S38 (a + 5)) 0)) <|
  nm (st S38 (a + 5) (sL (S38 (a + 5)) 0 (9 : Int32).toNatClampNeg (392517628 : Int64))) fun S41 =>
  ck (decide (gC (S41 (a + 5)) = 26)) <|
  ck (inb (10 : Int32) (gN (S41 (a + 5)) 0)) <|
  nm (st S41 (a + 5) (sL (S41 (a + 5)) 0 (10 : Int32).toNatClampNeg (969456 : Int64))) fun S44 =>
  ck (decide (gC (S44 (a + 5)) = 26)) <|
  ck (inb (11 : Int32) (gN (S44 (a + 5)) 0)) <|
  nm (st S44 (a + 5) (sL (S44 (a + 5)) 0 (11 : Int32).toNatClampNeg (43890888 : Int64))) fun S47 =>
  ck (decide (gC (S47 (a + 5)) = 26)) <|
  ck (inb (12 : Int32) (gN (S47 (a + 5)) 0)) <|
  nm (st S47 (a + 5) (sL (S47 (a + 5)) 0 (12 : Int32).toNatClampNeg (407263 : Int64))) fun S50 =>
  ck (decide (gC (S50 (a + 5)) = 26)) <|
  ck (inb (13 : Int32) (gN (S50 (a + 5)) 0)) <|
  nm (st S50 (a + 5) (sL (S50 (a + 5)) 0 (13 : Int32).toNatClampNeg (36629013 : Int64))) fun S53 =>
  ck (decide (gC (S53 (a + 5)) = 26)) <|
  ck (inb (14 : Int32) (gN (S53 (a + 5)) 0)) <|
  nm (st S53 (a + 5) (sL (S53 (a + 5)) 0 (14 : Int32).toNatClampNeg (30050088 : Int64))) fun S56 =>
  ck (decide (gC (S56 (a + 5)) = 26)) <|
  ck (inb (15 : Int32) (gN (S56 (a + 5)) 0)) <|
  nm (st S56 (a + 5) (sL (S56 (a + 5)) 0 (15 : Int32).toNatClampNeg (969708 : Int64))) fun S59 =>
  ck (decide (gC (S59 (a + 5)) = 26)) <|
  ck (inb (16 : Int32) (gN (S59 (a + 5)) 0)) <|
  nm (st S59 (a + 5) (sL (S59 (a + 5)) 0 (16 : Int32).toNatClampNeg (14184879 : Int64))) fun S62 =>
  ck (decide (gC (S62 (a + 5)) = 26)) <|
  ck (inb (17 : Int32) (gN (S62 (a + 5)) 0)) <|
  nm (st S62 (a + 5) (sL (S62 (a + 5)) 0 (17 : Int32).toNatClampNeg (26704030 : Int64))) fun S65 =>
  ck (decide (gC (S65 (a + 5)) = 26)) <|
  ck (inb (18 : Int32) (gN (S65 (a + 5)) 0)) <|
  nm (st S65 (a + 5) (sL (S65 (a + 5)) 0 (18 : Int32).toNatClampNeg (30596128 : Int64))) fun S68 =>
  ck (decide (gC (S68 (a + 5)) = 26)) <|
  ck (inb (19 : Int32) (gN (S68 (a + 5)) 0)) <|
  nm (st S68 (a + 5) (sL (S68 (a + 5)) 0 (19 : Int32).toNatClampNeg (122289 : Int64))) fun S71 =>
  ck (decide (gC (S71 (a + 5)) = 26)) <|
  ck (inb (20 : Int32) (gN (S71 (a + 5)) 0)) <|
  nm (st S71 (a + 5) (sL (S71 (a + 5)) 0 (20 : Int32).toNatClampNeg (1722958223482 : Int64))) fun S74 =>
  ck (decide (gC (S74 (a + 5)) = 26)) <|
  ck (inb (21 : Int32) (gN (S74 (a + 5)) 0)) <|
  nm (st S74 (a + 5) (sL (S74 (a + 5)) 0 (21 : Int32).toNatClampNeg (3318 : Int64))) fun S77 =>
  ck (decide (gC (S77 (a + 5)) = 26)) <|
  ck (inb (22 : Int32) (gN (S77 (a + 5)) 0)) <|
  nm (st S77 (a + 5) (sL (S77 (a + 5)) 0 (22 : Int32).toNatClampNeg (19741 : Int64))) fun S80 =>
  ck (decide (gC (S80 (a + 5)) = 26)) <|
  ck (inb (23 : Int32) (gN (S80 (a + 5)) 0)) <|
  nm (st S80 (a + 5) (sL (S80 (a + 5)) 0 (23 : Int32).toNatClampNeg (1891 : Int64))) fun S83 =>
  ck (decide (gC (S83 (a + 5)) = 26)) <|
  ck (inb (24 : Int32) (gN (S83 (a + 5)) 0)) <|
  nm (st S83 (a + 5) (sL (S83 (a + 5)) 0 (24 : Int32).toNatClampNeg (573 : Int64))) fun S86 =>
  ck (decide (gC (S86 (a + 5)) = 26)) <|
  ck (inb (25 : Int32) (gN (S86 (a + 5)) 0)) <|
  nm (st S86 (a + 5) (sL (S86 (a + 5)) 0 (25 : Int32).toNatClampNeg (36229827 : Int64))) fun S89 =>
  ck (decide (gC (S89 (a + 5)) = 26)) <|
  ck (inb (26 : Int32) (gN (S89 (a + 5)) 0)) <|
  nm (st S89 (a + 5) (sL (S89 (a + 5)) 0 (26 : Int32).toNatClampNeg (1633 : Int64))) fun S92 =>
  ck (decide (gC (S92 (a + 5)) = 26)) <|
  ck (inb (27 : Int32) (gN (S92 (a + 5)) 0)) <|
  nm (st S92 (a + 5) (sL (S92 (a + 5)) 0 (27 : Int32).toNatClampNeg (434498 : Int64))) fun S95 =>
  ck (decide (gC (S95 (a + 5)) = 26)) <|
  ck (inb (28 : Int32) (gN (S95 (a + 5)) 0)) <|
  nm (st S95 (a + 5) (sL (S95 (a + 5)) 0 (28 : Int32).toNatClampNeg (30595897 : Int64))) fun S98 =>
  ck (decide (gC (S98 a) = 24)) <|
  nm (st S98 a (sR (S98 a) 9 (some (a + 5)))) fun S101 =>
  f_X13_init_g1 fu G S101 a
set_option maxHeartbeats 40000000 in
set_option maxRecDepth 100000 in
theorem c_X13_init (l : Launch) (G : GG) (fu : Nat) (S : ST) (a : Nat) {z : ST} (hf : f_X13_init fu G S a = some z) : Cn l yX13_init w_X13_init RM_X13_init G S (a + 1) [.ref a] none z (a + 27) 26 11590 := by
  refine Met.ofW (cc := cX13_init) (maxL := 1) (ret := none) (by decide) rfl ?_
  intro p e s m args below meth c s₁ B hml hv
  obtain ⟨rfl, hB, hK, hzw, hz⟩ := hv
  have hM : MC G p s m _ c cX13_init w_X13_init RX13 := ⟨B.exec, B.bytes, findClass_of_methodNamed B.named, atoms_spec (ws := w_X13_init) B.pre, hK, hzw⟩
  have hW : WB G S s s.heap [] := ⟨hB, va_S.rf⟩
  have hin2 : meth.name = "<init>" := (name_of_methodNamed B.named B.method).1
  have hr := B.returns
  have hlk := B.notSynchronized
  have hx := hM.1
  have hb := hM.2.1
  have hs0 := hz
  have hl := lv_entry ([.ref a]) (n := 1) (Nat.le_of_ble_eq_true rfl)
  rw [lg_entry_eq]
  generalize (lg_sl ([.ref a]) ++ List.replicate (1 - (lg_sl ([.ref a])).length) Slot.unset).toArray = ls at hl ⊢
  have hl : lv_has ls 1 [(0, .ref a)] := hl
  unfold f_X13_init at hf
  refine lv_aload_n hx hb dX13_init_0 rfl (lv_at hl 0 rfl) ?_
  refine n_obj hM hml hl.1 mk_RX13_18 (Nat.le_of_ble_eq_true rfl) (Nat.le_of_ble_eq_true rfl) dX13_init_1 ?_
  refine lv_aload_n hx hb dX13_init_4 rfl (lv_at hl 0 rfl) ?_
  refine lv_sipush (v := (1000 : Int32)) hx hb dX13_init_5 (by decide) ?_
  refine m_newa hM hW hz 1 (by decide) rfl (wgm wd_ai) 1000 (by decide) (by decide) (by decide) (Nat.le_of_ble_eq_true rfl) (Nat.le_of_ble_eq_true rfl) dX13_init_8 (fun S1 eS1 hk hg9 H hz hW => ?_)
  have hf := nm_at eS1 hf
  have hz : H.size = a + 2 := hz
  obtain ⟨h3, hf⟩ := ck_elim hf
  have h3 := of_decide_eq_true h3
  refine m_putFR hM hin2 hW 23 1 h3 rfl rfl (by decide) wi_X13 tyX13 tyX13_ok nmX13 (wgm fk_RX13_14) rfl rfl rfl (Or.inr ⟨_, rfl⟩) (a + 1) dX13_init_10 (fun S2 eS2 H locs hz9 hW => ?_)
  have hf := nm_at eS2 hf
  have hz : H.size = a + 2 := hz9.trans hz
  refine lv_aload_n hx hb dX13_init_13 rfl (lv_at hl 0 rfl) ?_
  refine lv_sipush (v := (1002 : Int32)) hx hb dX13_init_14 (by decide) ?_
  refine m_newa hM hW hz 1 (by decide) rfl (wgm wd_ai) 1002 (by decide) (by decide) (by decide) (Nat.le_of_ble_eq_true rfl) (Nat.le_of_ble_eq_true rfl) dX13_init_17 (fun S4 eS4 hk hg9 H hz hW => ?_)
  have hf := nm_at eS4 hf
  have hz : H.size = a + 3 := hz
  obtain ⟨h6, hf⟩ := ck_elim hf
  have h6 := of_decide_eq_true h6
  refine m_putFR hM hin2 hW 23 4 h6 rfl rfl (by decide) wi_X13 tyX13 tyX13_ok nmX13 (wgm fk_RX13_24) rfl rfl rfl (Or.inr ⟨_, rfl⟩) (a + 2) dX13_init_19 (fun S5 eS5 H locs hz9 hW => ?_)
  have hf := nm_at eS5 hf
  have hz : H.size = a + 3 := hz9.trans hz
  refine lv_aload_n hx hb dX13_init_22 rfl (lv_at hl 0 rfl) ?_
  refine lv_sipush (v := (1002 : Int32)) hx hb dX13_init_23 (by decide) ?_
  refine m_newa hM hW hz 1 (by decide) rfl (wgm wd_ai) 1002 (by decide) (by decide) (by decide) (Nat.le_of_ble_eq_true rfl) (Nat.le_of_ble_eq_true rfl) dX13_init_26 (fun S7 eS7 hk hg9 H hz hW => ?_)
  have hf := nm_at eS7 hf
  have hz : H.size = a + 4 := hz
  obtain ⟨h9, hf⟩ := ck_elim hf
  have h9 := of_decide_eq_true h9
  refine m_putFR hM hin2 hW 23 5 h9 rfl rfl (by decide) wi_X13 tyX13 tyX13_ok nmX13 (wgm fk_RX13_27) rfl rfl rfl (Or.inr ⟨_, rfl⟩) (a + 3) dX13_init_28 (fun S8 eS8 H locs hz9 hW => ?_)
  have hf := nm_at eS8 hf
  have hz : H.size = a + 4 := hz9.trans hz
  refine lv_aload_n hx hb dX13_init_31 rfl (lv_at hl 0 rfl) ?_
  refine lv_sipush (v := (1002 : Int32)) hx hb dX13_init_32 (by decide) ?_
  refine m_newa hM hW hz 2 (by decide) rfl (wgm wd_al) 1002 (by decide) (by decide) (by decide) (Nat.le_of_ble_eq_true rfl) (Nat.le_of_ble_eq_true rfl) dX13_init_35 (fun S10 eS10 hk hg9 H hz hW => ?_)
  have hf := nm_at eS10 hf
  have hz : H.size = a + 5 := hz
  obtain ⟨h12, hf⟩ := ck_elim hf
  have h12 := of_decide_eq_true h12
  refine m_putFR hM hin2 hW 23 6 h12 rfl rfl (by decide) wi_X13 tyX13 tyX13_ok nmX13 (wgm fk_RX13_30) rfl rfl rfl (Or.inr ⟨_, rfl⟩) (a + 4) dX13_init_37 (fun S11 eS11 H locs hz9 hW => ?_)
  have hf := nm_at eS11 hf
  have hz : H.size = a + 5 := hz9.trans hz
  refine lv_aload_n hx hb dX13_init_40 rfl (lv_at hl 0 rfl) ?_
  refine lv_bipush (v := (29 : Int32)) hx hb dX13_init_41 (by decide) ?_
  refine m_newa hM hW hz 2 (by decide) rfl (wgm wd_al) 29 (by decide) (by decide) (by decide) (Nat.le_of_ble_eq_true rfl) (Nat.le_of_ble_eq_true rfl) dX13_init_43 (fun S13 eS13 hk hg9 H hz hW => ?_)
  have hf := nm_at eS13 hf
  have hz : H.size = a + 6 := hz
  refine lv_dup hx hb dX13_init_45 rfl ?_
  refine lv_iconst (v := (0 : Int32)) hx hb dX13_init_46 (by decide) ?_
  refine lv_ldc2 (v := (984886 : Int64)) hx hb hM.2.2.1 (hM.2.2.2.1 _ (wgm kj_RX13_34)) dX13_init_47 ?_
  obtain ⟨h15, hf⟩ := ck_elim hf
  have h15 := of_decide_eq_true h15
  obtain ⟨h16, hf⟩ := ck_elim hf
  refine m_last hM hW h15 h16 dX13_init_50 (fun S14 eS14 H locs hz9 hW => ?_)
  have hf := nm_at eS14 hf
  have hz : H.size = a + 6 := hz9.trans hz
  refine lv_dup hx hb dX13_init_51 rfl ?_
  refine lv_iconst (v := (1 : Int32)) hx hb dX13_init_52 (by decide) ?_
  refine lv_ldc2 (v := (37900956 : Int64)) hx hb hM.2.2.1 (hM.2.2.2.1 _ (wgm kj_RX13_36)) dX13_init_53 ?_
  obtain ⟨h18, hf⟩ := ck_elim hf
  have h18 := of_decide_eq_true h18
  obtain ⟨h19, hf⟩ := ck_elim hf
  refine m_last hM hW h18 h19 dX13_init_56 (fun S17 eS17 H locs hz9 hW => ?_)
  have hf := nm_at eS17 hf
  have hz : H.size = a + 6 := hz9.trans hz
  refine lv_dup hx hb dX13_init_57 rfl ?_
  refine lv_iconst (v := (2 : Int32)) hx hb dX13_init_58 (by decide) ?_
  refine lv_ldc2 (v := (36179019 : Int64)) hx hb hM.2.2.1 (hM.2.2.2.1 _ (wgm kj_RX13_38)) dX13_init_59 ?_
  obtain ⟨h21, hf⟩ := ck_elim hf
  have h21 := of_decide_eq_true h21
  obtain ⟨h22, hf⟩ := ck_elim hf
  refine m_last hM hW h21 h22 dX13_init_62 (fun S20 eS20 H locs hz9 hW => ?_)
  have hf := nm_at eS20 hf
  have hz : H.size = a + 6 := hz9.trans hz
  refine lv_dup hx hb dX13_init_63 rfl ?_
  refine lv_iconst (v := (3 : Int32)) hx hb dX13_init_64 (by decide) ?_
  refine lv_ldc2 (v := (6395136 : Int64)) hx hb hM.2.2.1 (hM.2.2.2.1 _ (wgm kj_RX13_40)) dX13_init_65 ?_
  obtain ⟨h24, hf⟩ := ck_elim hf
  have h24 := of_decide_eq_true h24
  obtain ⟨h25, hf⟩ := ck_elim hf
  refine m_last hM hW h24 h25 dX13_init_68 (fun S23 eS23 H locs hz9 hW => ?_)
  have hf := nm_at eS23 hf
  have hz : H.size = a + 6 := hz9.trans hz
  refine lv_dup hx hb dX13_init_69 rfl ?_
  refine lv_iconst (v := (4 : Int32)) hx hb dX13_init_70 (by decide) ?_
  refine lv_ldc2 (v := (57 : Int64)) hx hb hM.2.2.1 (hM.2.2.2.1 _ (wgm kj_RX13_42)) dX13_init_71 ?_
  obtain ⟨h27, hf⟩ := ck_elim hf
  have h27 := of_decide_eq_true h27
  obtain ⟨h28, hf⟩ := ck_elim hf
  refine m_last hM hW h27 h28 dX13_init_74 (fun S26 eS26 H locs hz9 hW => ?_)
  have hf := nm_at eS26 hf
  have hz : H.size = a + 6 := hz9.trans hz
  refine lv_dup hx hb dX13_init_75 rfl ?_
  refine lv_iconst (v := (5 : Int32)) hx hb dX13_init_76 (by decide) ?_
  refine lv_ldc2 (v := (173111 : Int64)) hx hb hM.2.2.1 (hM.2.2.2.1 _ (wgm kj_RX13_44)) dX13_init_77 ?_
  obtain ⟨h30, hf⟩ := ck_elim hf
  have h30 := of_decide_eq_true h30
  obtain ⟨h31, hf⟩ := ck_elim hf
  refine m_last hM hW h30 h31 dX13_init_80 (fun S29 eS29 H locs hz9 hW => ?_)
  have hf := nm_at eS29 hf
  have hz : H.size = a + 6 := hz9.trans hz
  refine lv_dup hx hb dX13_init_81 rfl ?_
  refine lv_bipush (v := (6 : Int32)) hx hb dX13_init_82 (by decide) ?_
  refine lv_ldc2 (v := (561 : Int64)) hx hb hM.2.2.1 (hM.2.2.2.1 _ (wgm kj_RX13_46)) dX13_init_84 ?_
  obtain ⟨h33, hf⟩ := ck_elim hf
  have h33 := of_decide_eq_true h33
  obtain ⟨h34, hf⟩ := ck_elim hf
  refine m_last hM hW h33 h34 dX13_init_87 (fun S32 eS32 H locs hz9 hW => ?_)
  have hf := nm_at eS32 hf
  have hz : H.size = a + 6 := hz9.trans hz
  refine lv_dup hx hb dX13_init_88 rfl ?_
  refine lv_bipush (v := (7 : Int32)) hx hb dX13_init_89 (by decide) ?_
  refine lv_ldc2 (v := (979184 : Int64)) hx hb hM.2.2.1 (hM.2.2.2.1 _ (wgm kj_RX13_48)) dX13_init_91 ?_
  obtain ⟨h36, hf⟩ := ck_elim hf
  have h36 := of_decide_eq_true h36
  obtain ⟨h37, hf⟩ := ck_elim hf
  refine m_last hM hW h36 h37 dX13_init_94 (fun S35 eS35 H locs hz9 hW => ?_)
  have hf := nm_at eS35 hf
  have hz : H.size = a + 6 := hz9.trans hz
  refine lv_dup hx hb dX13_init_95 rfl ?_
  refine lv_bipush (v := (8 : Int32)) hx hb dX13_init_96 (by decide) ?_
  refine lv_ldc2 (v := (1178088 : Int64)) hx hb hM.2.2.1 (hM.2.2.2.1 _ (wgm kj_RX13_50)) dX13_init_98 ?_
  obtain ⟨h39, hf⟩ := ck_elim hf
  have h39 := of_decide_eq_true h39
  obtain ⟨h40, hf⟩ := ck_elim hf
  refine m_last hM hW h39 h40 dX13_init_101 (fun S38 eS38 H locs hz9 hW => ?_)
  have hf := nm_at eS38 hf
  have hz : H.size = a + 6 := hz9.trans hz
  refine lv_dup hx hb dX13_init_102 rfl ?_
  refine lv_bipush (v := (9 : Int32)) hx hb dX13_init_103 (by decide) ?_
  refine lv_ldc2 (v := (392517628 : Int64)) hx hb hM.2.2.1 (hM.2.2.2.1 _ (wgm kj_RX13_52)) dX13_init_105 ?_
  obtain ⟨h42, hf⟩ := ck_elim hf
  have h42 := of_decide_eq_true h42
  obtain ⟨h43, hf⟩ := ck_elim hf
  refine m_last hM hW h42 h43 dX13_init_108 (fun S41 eS41 H locs hz9 hW => ?_)
  have hf := nm_at eS41 hf
  have hz : H.size = a + 6 := hz9.trans hz
  refine lv_dup hx hb dX13_init_109 rfl ?_
  refine lv_bipush (v := (10 : Int32)) hx hb dX13_init_110 (by decide) ?_
  refine lv_ldc2 (v := (969456 : Int64)) hx hb hM.2.2.1 (hM.2.2.2.1 _ (wgm kj_RX13_54)) dX13_init_112 ?_
  obtain ⟨h45, hf⟩ := ck_elim hf
  have h45 := of_decide_eq_true h45
  obtain ⟨h46, hf⟩ := ck_elim hf
  refine m_last hM hW h45 h46 dX13_init_115 (fun S44 eS44 H locs hz9 hW => ?_)
  have hf := nm_at eS44 hf
  have hz : H.size = a + 6 := hz9.trans hz
  refine lv_dup hx hb dX13_init_116 rfl ?_
  refine lv_bipush (v := (11 : Int32)) hx hb dX13_init_117 (by decide) ?_
  refine lv_ldc2 (v := (43890888 : Int64)) hx hb hM.2.2.1 (hM.2.2.2.1 _ (wgm kj_RX13_56)) dX13_init_119 ?_
  obtain ⟨h48, hf⟩ := ck_elim hf
  have h48 := of_decide_eq_true h48
  obtain ⟨h49, hf⟩ := ck_elim hf
  refine m_last hM hW h48 h49 dX13_init_122 (fun S47 eS47 H locs hz9 hW => ?_)
  have hf := nm_at eS47 hf
  have hz : H.size = a + 6 := hz9.trans hz
  refine lv_dup hx hb dX13_init_123 rfl ?_
  refine lv_bipush (v := (12 : Int32)) hx hb dX13_init_124 (by decide) ?_
  refine lv_ldc2 (v := (407263 : Int64)) hx hb hM.2.2.1 (hM.2.2.2.1 _ (wgm kj_RX13_58)) dX13_init_126 ?_
  obtain ⟨h51, hf⟩ := ck_elim hf
  have h51 := of_decide_eq_true h51
  obtain ⟨h52, hf⟩ := ck_elim hf
  refine m_last hM hW h51 h52 dX13_init_129 (fun S50 eS50 H locs hz9 hW => ?_)
  have hf := nm_at eS50 hf
  have hz : H.size = a + 6 := hz9.trans hz
  refine lv_dup hx hb dX13_init_130 rfl ?_
  refine lv_bipush (v := (13 : Int32)) hx hb dX13_init_131 (by decide) ?_
  refine lv_ldc2 (v := (36629013 : Int64)) hx hb hM.2.2.1 (hM.2.2.2.1 _ (wgm kj_RX13_60)) dX13_init_133 ?_
  obtain ⟨h54, hf⟩ := ck_elim hf
  have h54 := of_decide_eq_true h54
  obtain ⟨h55, hf⟩ := ck_elim hf
  refine m_last hM hW h54 h55 dX13_init_136 (fun S53 eS53 H locs hz9 hW => ?_)
  have hf := nm_at eS53 hf
  have hz : H.size = a + 6 := hz9.trans hz
  refine lv_dup hx hb dX13_init_137 rfl ?_
  refine lv_bipush (v := (14 : Int32)) hx hb dX13_init_138 (by decide) ?_
  refine lv_ldc2 (v := (30050088 : Int64)) hx hb hM.2.2.1 (hM.2.2.2.1 _ (wgm kj_RX13_62)) dX13_init_140 ?_
  obtain ⟨h57, hf⟩ := ck_elim hf
  have h57 := of_decide_eq_true h57
  obtain ⟨h58, hf⟩ := ck_elim hf
  refine m_last hM hW h57 h58 dX13_init_143 (fun S56 eS56 H locs hz9 hW => ?_)
  have hf := nm_at eS56 hf
  have hz : H.size = a + 6 := hz9.trans hz
  refine lv_dup hx hb dX13_init_144 rfl ?_
  refine lv_bipush (v := (15 : Int32)) hx hb dX13_init_145 (by decide) ?_
  refine lv_ldc2 (v := (969708 : Int64)) hx hb hM.2.2.1 (hM.2.2.2.1 _ (wgm kj_RX13_64)) dX13_init_147 ?_
  obtain ⟨h60, hf⟩ := ck_elim hf
  have h60 := of_decide_eq_true h60
  obtain ⟨h61, hf⟩ := ck_elim hf
  refine m_last hM hW h60 h61 dX13_init_150 (fun S59 eS59 H locs hz9 hW => ?_)
  have hf := nm_at eS59 hf
  have hz : H.size = a + 6 := hz9.trans hz
  refine lv_dup hx hb dX13_init_151 rfl ?_
  refine lv_bipush (v := (16 : Int32)) hx hb dX13_init_152 (by decide) ?_
  refine lv_ldc2 (v := (14184879 : Int64)) hx hb hM.2.2.1 (hM.2.2.2.1 _ (wgm kj_RX13_66)) dX13_init_154 ?_
  obtain ⟨h63, hf⟩ := ck_elim hf
  have h63 := of_decide_eq_true h63
  obtain ⟨h64, hf⟩ := ck_elim hf
  refine m_last hM hW h63 h64 dX13_init_157 (fun S62 eS62 H locs hz9 hW => ?_)
  have hf := nm_at eS62 hf
  have hz : H.size = a + 6 := hz9.trans hz
  refine lv_dup hx hb dX13_init_158 rfl ?_
  refine lv_bipush (v := (17 : Int32)) hx hb dX13_init_159 (by decide) ?_
  refine lv_ldc2 (v := (26704030 : Int64)) hx hb hM.2.2.1 (hM.2.2.2.1 _ (wgm kj_RX13_68)) dX13_init_161 ?_
  obtain ⟨h66, hf⟩ := ck_elim hf
  have h66 := of_decide_eq_true h66
  obtain ⟨h67, hf⟩ := ck_elim hf
  refine m_last hM hW h66 h67 dX13_init_164 (fun S65 eS65 H locs hz9 hW => ?_)
  have hf := nm_at eS65 hf
  have hz : H.size = a + 6 := hz9.trans hz
  refine lv_dup hx hb dX13_init_165 rfl ?_
  refine lv_bipush (v := (18 : Int32)) hx hb dX13_init_166 (by decide) ?_
  refine lv_ldc2 (v := (30596128 : Int64)) hx hb hM.2.2.1 (hM.2.2.2.1 _ (wgm kj_RX13_70)) dX13_init_168 ?_
  obtain ⟨h69, hf⟩ := ck_elim hf
  have h69 := of_decide_eq_true h69
  obtain ⟨h70, hf⟩ := ck_elim hf
  refine m_last hM hW h69 h70 dX13_init_171 (fun S68 eS68 H locs hz9 hW => ?_)
  have hf := nm_at eS68 hf
  have hz : H.size = a + 6 := hz9.trans hz
  refine lv_dup hx hb dX13_init_172 rfl ?_
  refine lv_bipush (v := (19 : Int32)) hx hb dX13_init_173 (by decide) ?_
  refine lv_ldc2 (v := (122289 : Int64)) hx hb hM.2.2.1 (hM.2.2.2.1 _ (wgm kj_RX13_72)) dX13_init_175 ?_
  obtain ⟨h72, hf⟩ := ck_elim hf
  have h72 := of_decide_eq_true h72
  obtain ⟨h73, hf⟩ := ck_elim hf
  refine m_last hM hW h72 h73 dX13_init_178 (fun S71 eS71 H locs hz9 hW => ?_)
  have hf := nm_at eS71 hf
  have hz : H.size = a + 6 := hz9.trans hz
  refine lv_dup hx hb dX13_init_179 rfl ?_
  refine lv_bipush (v := (20 : Int32)) hx hb dX13_init_180 (by decide) ?_
  refine lv_ldc2 (v := (1722958223482 : Int64)) hx hb hM.2.2.1 (hM.2.2.2.1 _ (wgm kj_RX13_74)) dX13_init_182 ?_
  obtain ⟨h75, hf⟩ := ck_elim hf
  have h75 := of_decide_eq_true h75
  obtain ⟨h76, hf⟩ := ck_elim hf
  refine m_last hM hW h75 h76 dX13_init_185 (fun S74 eS74 H locs hz9 hW => ?_)
  have hf := nm_at eS74 hf
  have hz : H.size = a + 6 := hz9.trans hz
  refine lv_dup hx hb dX13_init_186 rfl ?_
  refine lv_bipush (v := (21 : Int32)) hx hb dX13_init_187 (by decide) ?_
  refine lv_ldc2 (v := (3318 : Int64)) hx hb hM.2.2.1 (hM.2.2.2.1 _ (wgm kj_RX13_76)) dX13_init_189 ?_
  obtain ⟨h78, hf⟩ := ck_elim hf
  have h78 := of_decide_eq_true h78
  obtain ⟨h79, hf⟩ := ck_elim hf
  refine m_last hM hW h78 h79 dX13_init_192 (fun S77 eS77 H locs hz9 hW => ?_)
  have hf := nm_at eS77 hf
  have hz : H.size = a + 6 := hz9.trans hz
  refine lv_dup hx hb dX13_init_193 rfl ?_
  refine lv_bipush (v := (22 : Int32)) hx hb dX13_init_194 (by decide) ?_
  refine lv_ldc2 (v := (19741 : Int64)) hx hb hM.2.2.1 (hM.2.2.2.1 _ (wgm kj_RX13_78)) dX13_init_196 ?_
  obtain ⟨h81, hf⟩ := ck_elim hf
  have h81 := of_decide_eq_true h81
  obtain ⟨h82, hf⟩ := ck_elim hf
  refine m_last hM hW h81 h82 dX13_init_199 (fun S80 eS80 H locs hz9 hW => ?_)
  have hf := nm_at eS80 hf
  have hz : H.size = a + 6 := hz9.trans hz
  refine lv_dup hx hb dX13_init_200 rfl ?_
  refine lv_bipush (v := (23 : Int32)) hx hb dX13_init_201 (by decide) ?_
  refine lv_ldc2 (v := (1891 : Int64)) hx hb hM.2.2.1 (hM.2.2.2.1 _ (wgm kj_RX13_80)) dX13_init_203 ?_
  obtain ⟨h84, hf⟩ := ck_elim hf
  have h84 := of_decide_eq_true h84
  obtain ⟨h85, hf⟩ := ck_elim hf
  refine m_last hM hW h84 h85 dX13_init_206 (fun S83 eS83 H locs hz9 hW => ?_)
  have hf := nm_at eS83 hf
  have hz : H.size = a + 6 := hz9.trans hz
  refine lv_dup hx hb dX13_init_207 rfl ?_
  refine lv_bipush (v := (24 : Int32)) hx hb dX13_init_208 (by decide) ?_
  refine lv_ldc2 (v := (573 : Int64)) hx hb hM.2.2.1 (hM.2.2.2.1 _ (wgm kj_RX13_82)) dX13_init_210 ?_
  obtain ⟨h87, hf⟩ := ck_elim hf
  have h87 := of_decide_eq_true h87
  obtain ⟨h88, hf⟩ := ck_elim hf
  refine m_last hM hW h87 h88 dX13_init_213 (fun S86 eS86 H locs hz9 hW => ?_)
  have hf := nm_at eS86 hf
  have hz : H.size = a + 6 := hz9.trans hz
  refine lv_dup hx hb dX13_init_214 rfl ?_
  refine lv_bipush (v := (25 : Int32)) hx hb dX13_init_215 (by decide) ?_
  refine lv_ldc2 (v := (36229827 : Int64)) hx hb hM.2.2.1 (hM.2.2.2.1 _ (wgm kj_RX13_84)) dX13_init_217 ?_
  obtain ⟨h90, hf⟩ := ck_elim hf
  have h90 := of_decide_eq_true h90
  obtain ⟨h91, hf⟩ := ck_elim hf
  refine m_last hM hW h90 h91 dX13_init_220 (fun S89 eS89 H locs hz9 hW => ?_)
  have hf := nm_at eS89 hf
  have hz : H.size = a + 6 := hz9.trans hz
  refine lv_dup hx hb dX13_init_221 rfl ?_
  refine lv_bipush (v := (26 : Int32)) hx hb dX13_init_222 (by decide) ?_
  refine lv_ldc2 (v := (1633 : Int64)) hx hb hM.2.2.1 (hM.2.2.2.1 _ (wgm kj_RX13_86)) dX13_init_224 ?_
  obtain ⟨h93, hf⟩ := ck_elim hf
  have h93 := of_decide_eq_true h93
  obtain ⟨h94, hf⟩ := ck_elim hf
  refine m_last hM hW h93 h94 dX13_init_227 (fun S92 eS92 H locs hz9 hW => ?_)
  have hf := nm_at eS92 hf
  have hz : H.size = a + 6 := hz9.trans hz
  refine lv_dup hx hb dX13_init_228 rfl ?_
  refine lv_bipush (v := (27 : Int32)) hx hb dX13_init_229 (by decide) ?_
  refine lv_ldc2 (v := (434498 : Int64)) hx hb hM.2.2.1 (hM.2.2.2.1 _ (wgm kj_RX13_88)) dX13_init_231 ?_
  obtain ⟨h96, hf⟩ := ck_elim hf
  have h96 := of_decide_eq_true h96
  obtain ⟨h97, hf⟩ := ck_elim hf
  refine m_last hM hW h96 h97 dX13_init_234 (fun S95 eS95 H locs hz9 hW => ?_)
  have hf := nm_at eS95 hf
  have hz : H.size = a + 6 := hz9.trans hz
  refine lv_dup hx hb dX13_init_235 rfl ?_
  refine lv_bipush (v := (28 : Int32)) hx hb dX13_init_236 (by decide) ?_
  refine lv_ldc2 (v := (30595897 : Int64)) hx hb hM.2.2.1 (hM.2.2.2.1 _ (wgm kj_RX13_90)) dX13_init_238 ?_
  obtain ⟨h99, hf⟩ := ck_elim hf
  have h99 := of_decide_eq_true h99
  obtain ⟨h100, hf⟩ := ck_elim hf
  refine m_last hM hW h99 h100 dX13_init_241 (fun S98 eS98 H locs hz9 hW => ?_)
  have hf := nm_at eS98 hf
  have hz : H.size = a + 6 := hz9.trans hz
  obtain ⟨h102, hf⟩ := ck_elim hf
  have h102 := of_decide_eq_true h102
  refine m_putFR hM hin2 hW 23 9 h102 rfl rfl (by decide) wi_X13 tyX13 tyX13_ok nmX13 (wgm fk_RX13_92) rfl rfl rfl (Or.inr ⟨_, rfl⟩) (a + 5) dX13_init_242 (fun S101 eS101 H locs hz9 hW => ?_)
  have hf := nm_at eS101 hf
  have hz : H.size = a + 6 := hz9.trans hz
  exact t_X13_init_g1 hM hml hr hlk hin2 hs0 hf _ _ hW hz _ (lv_sub hl [0] rfl)
