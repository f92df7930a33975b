abbrev RM_X12_init : Room := { frames := 4, cells := 229, slots := 7225, locals := 83 }
abbrev w_X12_init : List Cond := Cond.code yX12_init cX12_init 2 none :: wsL_law0
noncomputable def f_X12_init_g15 (fu : Nat) (G : GG) (S : ST) (a : Nat) : Option ST :=
  ck (frB G S a 10 28) <|
  nm (frm S a 10 28) fun S237 =>
  some S237
set_option maxHeartbeats 40000000 in
set_option maxRecDepth 100000 in
theorem t_X12_init_g15 {G : GG} {p : Program} {l : Launch} {e : Env} {s : State} {m : MethodId} {args : Array Value} {below : List Frame} {meth : Method} {c : Code} {S : ST} {fu a : Nat} {z : ST} (hM : MC G p s m args c cX12_init w_X12_init RX12) (hml : c.maxLocals = 2) (hr : meth.sig.returnType = none) (hlk : meth.locks = false) (hin2 : meth.name = "<init>") (hs0 : s.heap.size = a + 1) (hf : f_X12_init_g15 fu G S a = some z) : ∀ (H : Heap) (locs : List Loc), WB G S s H locs → H.size = a + 230 → ∀ (ls : Array Slot), lv_has ls 2 [(1, .int (3 : Int32)), (0, .ref a)] → W p l e RM_X12_init s m args below meth c H locs 229 7225 (QN G below args s none z (a + 230) 229 7225) (F0 m 232 ls []) := by
  intro H locs hW hz ls hl
  have hx := hM.1
  have hb := hM.2.1
  unfold f_X12_init_g15 at hf
  refine lv_iinc (v := (4 : Int32)) (lv' := [(1, .int (4 : Int32)), (0, .ref a)]) hx hb dX12_init_232 hl (k := 0) rfl (by decide) (by decide) rfl (fun ls hl => ?_)
  refine lv_goto (tgt := 214) hx hb dX12_init_235 (by decide) ?_
  refine lv_iload_n hx hb dX12_init_214 rfl (lv_at hl 0 rfl) ?_
  refine lv_iconst (v := (4 : Int32)) hx hb dX12_init_215 (by decide) ?_
  refine lv_icmp_ge (tgt := 238) hx hb dX12_init_216 (by decide) (fun _ => ?_) (fun c9 => absurd (by decide) c9)
  obtain ⟨h236, hf⟩ := ck_elim hf
  have hW := hW.form (frB_ok h236 (by decide) (by decide))
  obtain ⟨S237, eS237⟩ : ∃ y : ST, y = frm S a 10 28 := ⟨_, rfl⟩
  rw [← eS237] at hW
  have hf := nm_at eS237 hf
  cases hf
  exact W.vret hx hb hr (n_ret hW hz _) hW.2.2.2 dX12_init_238 hlk
noncomputable def f_X12_init_g14 (fu : Nat) (G : GG) (S : ST) (a : Nat) : Option ST :=
  ck (decide (gC (S a) = 23)) <|
  bd (gR (S a) 5) fun q220 =>
  nm (st S (a + 216) (rawo 2)) fun S222 =>
  bd (f_X3_init fu G S222 (a + 216)) fun S223 =>
  ck (decide (gC (S223 q220) = 29)) <|
  ck (decide (gC (S223 (a + 216)) = 3)) <|
  ck (inb (2 : Int32) (gN (S223 q220) 0)) <|
  nm (st S223 q220 (sQ (S223 q220) 0 (2 : Int32).toNatClampNeg (some (a + 216)))) fun S224 =>
  ck (decide (gC (S224 a) = 23)) <|
  bd (gR (S224 a) 5) fun q228 =>
  nm (st S224 (a + 223) (rawo 2)) fun S230 =>
  bd (f_X3_init fu G S230 (a + 223)) fun S231 =>
  ck (decide (gC (S231 q228) = 29)) <|
  ck (decide (gC (S231 (a + 223)) = 3)) <|
  ck (inb (3 : Int32) (gN (S231 q228) 0)) <|
  nm (st S231 q228 (sQ (S231 q228) 0 (3 : Int32).toNatClampNeg (some (a + 223)))) fun S232 =>
  f_X12_init_g15 fu G S232 a
set_option maxHeartbeats 40000000 in
set_option maxRecDepth 100000 in
theorem t_X12_init_g14 {G : GG} {p : Program} {l : Launch} {e : Env} {s : State} {m : MethodId} {args : Array Value} {below : List Frame} {meth : Method} {c : Code} {S : ST} {fu a : Nat} {z : ST} (hM : MC G p s m args c cX12_init w_X12_init RX12) (hml : c.maxLocals = 2) (hr : meth.sig.returnType = none) (hlk : meth.locks = false) (hin2 : meth.name = "<init>") (hs0 : s.heap.size = a + 1) (hf : f_X12_init_g14 fu G S a = some z) : ∀ (H : Heap) (locs : List Loc), WB G S s H locs → H.size = a + 216 → ∀ (ls : Array Slot), lv_has ls 2 [(1, .int (1 : Int32)), (0, .ref a)] → W p l e RM_X12_init s m args below meth c H locs 215 7109 (QN G below args s none z (a + 230) 229 7225) (F0 m 232 ls []) := by
  intro H locs hW hz ls hl
  have hx := hM.1
  have hb := hM.2.1
  unfold f_X12_init_g14 at hf
  refine lv_iinc (v := (2 : Int32)) (lv' := [(1, .int (2 : Int32)), (0, .ref a)]) hx hb dX12_init_232 hl (k := 0) rfl (by decide) (by decide) rfl (fun ls hl => ?_)
  refine lv_goto (tgt := 214) hx hb dX12_init_235 (by decide) ?_
  refine lv_iload_n hx hb dX12_init_214 rfl (lv_at hl 0 rfl) ?_
  refine lv_iconst (v := (4 : Int32)) hx hb dX12_init_215 (by decide) ?_
  refine lv_icmp_ge (tgt := 238) hx hb dX12_init_216 (by decide) (fun c9 => absurd c9 (by decide)) (fun _ => ?_)
  refine lv_aload_n hx hb dX12_init_219 rfl (lv_at hl 1 rfl) ?_
  obtain ⟨h221, hf⟩ := ck_elim hf
  have h221 := of_decide_eq_true h221
  obtain ⟨q220, hq220, hf⟩ := bd_elim hf
  refine b_get hM (hW.at_ a) 22 5 h221 rfl rfl (by decide) wi_X12 (wgm fk_RX12_39) (x := .ref q220) (by show va_rf _ = _; rw [hq220]; rfl) dX12_init_220 ?_
  refine lv_iload_n hx hb dX12_init_223 rfl (lv_at hl 0 rfl) ?_
  refine m_new hM hW hz 2 (by decide) rfl rfl wi_X3 tyX3 tyX3_ok (by decide +kernel) (wgm kc_RX12_25) (wgm is_RX3) (wgm it_RX3) (Nat.le_of_ble_eq_true rfl) (Nat.le_of_ble_eq_true rfl) dX12_init_224 (fun S222 eS222 hk hg9 H hz hW => ?_)
  have hf := nm_at eS222 hf
  have hz : H.size = a + 217 := hz
  refine lv_dup hx hb dX12_init_227 rfl ?_
  obtain ⟨S223, hS223, hf⟩ := bd_elim hf
  refine n_init (np := 0) [] [.ref (a + 216), .int (2 : Int32), .ref q220] hM hml hl.1 hW hz (c_X3_init l G fu _ (a + 216) hS223) rfl cd_X3_init it_RX3 mk_RX12_27 im_X3_init rfl rfl rfl (by decide +kernel) ⟨Nat.le_of_ble_eq_true rfl, Nat.le_of_ble_eq_true rfl⟩ rfl rfl (Nat.le_of_ble_eq_true rfl) ⟨Nat.le_of_ble_eq_true rfl, Nat.le_of_ble_eq_true rfl⟩ dX12_init_228 (fun H locs hz hW => ?_)
  have hz : H.size = a + 223 := hz
  obtain ⟨h225, hf⟩ := ck_elim hf
  have h225 := of_decide_eq_true h225
  obtain ⟨h226, hf⟩ := ck_elim hf
  have h226 := of_decide_eq_true h226
  obtain ⟨h227, hf⟩ := ck_elim hf
  refine m_aast hM hW h225 h226 h227 dX12_init_231 (fun S224 eS224 H locs hz9 hW => ?_)
  have hf := nm_at eS224 hf
  have hz : H.size = a + 223 := hz9.trans hz
  refine lv_iinc (v := (3 : Int32)) (lv' := [(1, .int (3 : Int32)), (0, .ref a)]) hx hb dX12_init_232 hl (k := 0) rfl (by decide) (by decide) rfl (fun ls hl => ?_)
  refine lv_goto (tgt := 214) hx hb dX12_init_235 (by decide) ?_
  refine lv_iload_n hx hb dX12_init_214 rfl (lv_at hl 0 rfl) ?_
  refine lv_iconst (v := (4 : Int32)) hx hb dX12_init_215 (by decide) ?_
  refine lv_icmp_ge (tgt := 238) hx hb dX12_init_216 (by decide) (fun c9 => absurd c9 (by decide)) (fun _ => ?_)
  refine lv_aload_n hx hb dX12_init_219 rfl (lv_at hl 1 rfl) ?_
  obtain ⟨h229, hf⟩ := ck_elim hf
  have h229 := of_decide_eq_true h229
  obtain ⟨q228, hq228, hf⟩ := bd_elim hf
  refine b_get hM (hW.at_ a) 22 5 h229 rfl rfl (by decide) wi_X12 (wgm fk_RX12_39) (x := .ref q228) (by show va_rf _ = _; rw [hq228]; rfl) dX12_init_220 ?_
  refine lv_iload_n hx hb dX12_init_223 rfl (lv_at hl 0 rfl) ?_
  refine m_new hM hW hz 2 (by decide) rfl rfl wi_X3 tyX3 tyX3_ok (by decide +kernel) (wgm kc_RX12_25) (wgm is_RX3) (wgm it_RX3) (Nat.le_of_ble_eq_true rfl) (Nat.le_of_ble_eq_true rfl) dX12_init_224 (fun S230 eS230 hk hg9 H hz hW => ?_)
  have hf := nm_at eS230 hf
  have hz : H.size = a + 224 := hz
  refine lv_dup hx hb dX12_init_227 rfl ?_
  obtain ⟨S231, hS231, hf⟩ := bd_elim hf
  refine n_init (np := 0) [] [.ref (a + 223), .int (3 : Int32), .ref q228] hM hml hl.1 hW hz (c_X3_init l G fu _ (a + 223) hS231) rfl cd_X3_init it_RX3 mk_RX12_27 im_X3_init rfl rfl rfl (by decide +kernel) ⟨Nat.le_of_ble_eq_true rfl, Nat.le_of_ble_eq_true rfl⟩ rfl rfl (Nat.le_of_ble_eq_true rfl) ⟨Nat.le_of_ble_eq_true rfl, Nat.le_of_ble_eq_true rfl⟩ dX12_init_228 (fun H locs hz hW => ?_)
  have hz : H.size = a + 230 := hz
  obtain ⟨h233, hf⟩ := ck_elim hf
  have h233 := of_decide_eq_true h233
  obtain ⟨h234, hf⟩ := ck_elim hf
  have h234 := of_decide_eq_true h234
  obtain ⟨h235, hf⟩ := ck_elim hf
  refine m_aast hM hW h233 h234 h235 dX12_init_231 (fun S232 eS232 H locs hz9 hW => ?_)
  have hf := nm_at eS232 hf
  have hz : H.size = a + 230 := hz9.trans hz
  exact t_X12_init_g15 hM hml hr hlk hin2 hs0 hf _ _ hW hz _ (lv_sub hl [0, 1] rfl)
noncomputable def f_X12_init_g13 (fu : Nat) (G : GG) (S : ST) (a : Nat) : Option ST :=
  ck (decide (gC (S a) = 23)) <|
  bd (gR (S a) 5) fun q204 =>
  nm (st S (a + 202) (rawo 2)) fun S206 =>
  bd (f_X3_init fu G S206 (a + 202)) fun S207 =>
  ck (decide (gC (S207 q204) = 29)) <|
  ck (decide (gC (S207 (a + 202)) = 3)) <|
  ck (inb (0 : Int32) (gN (S207 q204) 0)) <|
  nm (st S207 q204 (sQ (S207 q204) 0 (0 : Int32).toNatClampNeg (some (a + 202)))) fun S208 =>
  ck (decide (gC (S208 a) = 23)) <|
  bd (gR (S208 a) 5) fun q212 =>
  nm (st S208 (a + 209) (rawo 2)) fun S214 =>
  bd (f_X3_init fu G S214 (a + 209)) fun S215 =>
  ck (decide (gC (S215 q212) = 29)) <|
  ck (decide (gC (S215 (a + 209)) = 3)) <|
  ck (inb (1 : Int32) (gN (S215 q212) 0)) <|
  nm (st S215 q212 (sQ (S215 q212) 0 (1 : Int32).toNatClampNeg (some (a + 209)))) fun S216 =>
  f_X12_init_g14 fu G S216 a
set_option maxHeartbeats 40000000 in
set_option maxRecDepth 100000 in
theorem t_X12_init_g13 {G : GG} {p : Program} {l : Launch} {e : Env} {s : State} {m : MethodId} {args : Array Value} {below : List Frame} {meth : Method} {c : Code} {S : ST} {fu a : Nat} {z : ST} (hM : MC G p s m args c cX12_init w_X12_init RX12) (hml : c.maxLocals = 2) (hr : meth.sig.returnType = none) (hlk : meth.locks = false) (hin2 : meth.name = "<init>") (hs0 : s.heap.size = a + 1) (hf : f_X12_init_g13 fu G S a = some z) : ∀ (H : Heap) (locs : List Loc), WB G S s H locs → H.size = a + 202 → ∀ (ls : Array Slot), lv_has ls 2 [(1, .int (16 : Int32)), (0, .ref a)] → W p l e RM_X12_init s m args below meth c H locs 201 6993 (QN G below args s none z (a + 230) 229 7225) (F0 m 206 ls []) := by
  intro H locs hW hz ls hl
  have hx := hM.1
  have hb := hM.2.1
  unfold f_X12_init_g13 at hf
  refine lv_iinc (v := (17 : Int32)) (lv' := [(1, .int (17 : Int32)), (0, .ref a)]) hx hb dX12_init_206 hl (k := 0) rfl (by decide) (by decide) rfl (fun ls hl => ?_)
  refine lv_goto (tgt := 187) hx hb dX12_init_209 (by decide) ?_
  refine lv_iload_n hx hb dX12_init_187 rfl (lv_at hl 0 rfl) ?_
  refine lv_bipush (v := (17 : Int32)) hx hb dX12_init_188 (by decide) ?_
  refine lv_icmp_ge (tgt := 212) hx hb dX12_init_190 (by decide) (fun _ => ?_) (fun c9 => absurd (by decide) c9)
  refine lv_iconst (v := (0 : Int32)) hx hb dX12_init_212 (by decide) ?_
  refine lv_istore_n (lv' := [(1, .int (0 : Int32)), (0, .ref a)]) hx hb dX12_init_213 rfl hl (by decide) rfl (fun ls hl => ?_)
  refine lv_iload_n hx hb dX12_init_214 rfl (lv_at hl 0 rfl) ?_
  refine lv_iconst (v := (4 : Int32)) hx hb dX12_init_215 (by decide) ?_
  refine lv_icmp_ge (tgt := 238) hx hb dX12_init_216 (by decide) (fun c9 => absurd c9 (by decide)) (fun _ => ?_)
  refine lv_aload_n hx hb dX12_init_219 rfl (lv_at hl 1 rfl) ?_
  obtain ⟨h205, hf⟩ := ck_elim hf
  have h205 := of_decide_eq_true h205
  obtain ⟨q204, hq204, hf⟩ := bd_elim hf
  refine b_get hM (hW.at_ a) 22 5 h205 rfl rfl (by decide) wi_X12 (wgm fk_RX12_39) (x := .ref q204) (by show va_rf _ = _; rw [hq204]; rfl) dX12_init_220 ?_
  refine lv_iload_n hx hb dX12_init_223 rfl (lv_at hl 0 rfl) ?_
  refine m_new hM hW hz 2 (by decide) rfl rfl wi_X3 tyX3 tyX3_ok (by decide +kernel) (wgm kc_RX12_25) (wgm is_RX3) (wgm it_RX3) (Nat.le_of_ble_eq_true rfl) (Nat.le_of_ble_eq_true rfl) dX12_init_224 (fun S206 eS206 hk hg9 H hz hW => ?_)
  have hf := nm_at eS206 hf
  have hz : H.size = a + 203 := hz
  refine lv_dup hx hb dX12_init_227 rfl ?_
  obtain ⟨S207, hS207, hf⟩ := bd_elim hf
  refine n_init (np := 0) [] [.ref (a + 202), .int (0 : Int32), .ref q204] hM hml hl.1 hW hz (c_X3_init l G fu _ (a + 202) hS207) rfl cd_X3_init it_RX3 mk_RX12_27 im_X3_init rfl rfl rfl (by decide +kernel) ⟨Nat.le_of_ble_eq_true rfl, Nat.le_of_ble_eq_true rfl⟩ rfl rfl (Nat.le_of_ble_eq_true rfl) ⟨Nat.le_of_ble_eq_true rfl, Nat.le_of_ble_eq_true rfl⟩ dX12_init_228 (fun H locs hz hW => ?_)
  have hz : H.size = a + 209 := hz
  obtain ⟨h209, hf⟩ := ck_elim hf
  have h209 := of_decide_eq_true h209
  obtain ⟨h210, hf⟩ := ck_elim hf
  have h210 := of_decide_eq_true h210
  obtain ⟨h211, hf⟩ := ck_elim hf
  refine m_aast hM hW h209 h210 h211 dX12_init_231 (fun S208 eS208 H locs hz9 hW => ?_)
  have hf := nm_at eS208 hf
  have hz : H.size = a + 209 := hz9.trans hz
  refine lv_iinc (v := (1 : Int32)) (lv' := [(1, .int (1 : Int32)), (0, .ref a)]) hx hb dX12_init_232 hl (k := 0) rfl (by decide) (by decide) rfl (fun ls hl => ?_)
  refine lv_goto (tgt := 214) hx hb dX12_init_235 (by decide) ?_
  refine lv_iload_n hx hb dX12_init_214 rfl (lv_at hl 0 rfl) ?_
  refine lv_iconst (v := (4 : Int32)) hx hb dX12_init_215 (by decide) ?_
  refine lv_icmp_ge (tgt := 238) hx hb dX12_init_216 (by decide) (fun c9 => absurd c9 (by decide)) (fun _ => ?_)
  refine lv_aload_n hx hb dX12_init_219 rfl (lv_at hl 1 rfl) ?_
  obtain ⟨h213, hf⟩ := ck_elim hf
  have h213 := of_decide_eq_true h213
  obtain ⟨q212, hq212, hf⟩ := bd_elim hf
  refine b_get hM (hW.at_ a) 22 5 h213 rfl rfl (by decide) wi_X12 (wgm fk_RX12_39) (x := .ref q212) (by show va_rf _ = _; rw [hq212]; rfl) dX12_init_220 ?_
  refine lv_iload_n hx hb dX12_init_223 rfl (lv_at hl 0 rfl) ?_
  refine m_new hM hW hz 2 (by decide) rfl rfl wi_X3 tyX3 tyX3_ok (by decide +kernel) (wgm kc_RX12_25) (wgm is_RX3) (wgm it_RX3) (Nat.le_of_ble_eq_true rfl) (Nat.le_of_ble_eq_true rfl) dX12_init_224 (fun S214 eS214 hk hg9 H hz hW => ?_)
  have hf := nm_at eS214 hf
  have hz : H.size = a + 210 := hz
  refine lv_dup hx hb dX12_init_227 rfl ?_
  obtain ⟨S215, hS215, hf⟩ := bd_elim hf
  refine n_init (np := 0) [] [.ref (a + 209), .int (1 : Int32), .ref q212] hM hml hl.1 hW hz (c_X3_init l G fu _ (a + 209) hS215) rfl cd_X3_init it_RX3 mk_RX12_27 im_X3_init rfl rfl rfl (by decide +kernel) ⟨Nat.le_of_ble_eq_true rfl, Nat.le_of_ble_eq_true rfl⟩ rfl rfl (Nat.le_of_ble_eq_true rfl) ⟨Nat.le_of_ble_eq_true rfl, Nat.le_of_ble_eq_true rfl⟩ dX12_init_228 (fun H locs hz hW => ?_)
  have hz : H.size = a + 216 := hz
  obtain ⟨h217, hf⟩ := ck_elim hf
  have h217 := of_decide_eq_true h217
  obtain ⟨h218, hf⟩ := ck_elim hf
  have h218 := of_decide_eq_true h218
  obtain ⟨h219, hf⟩ := ck_elim hf
  refine m_aast hM hW h217 h218 h219 dX12_init_231 (fun S216 eS216 H locs hz9 hW => ?_)
  have hf := nm_at eS216 hf
  have hz : H.size = a + 216 := hz9.trans hz
  exact t_X12_init_g14 hM hml hr hlk hin2 hs0 hf _ _ hW hz _ (lv_sub hl [0, 1] rfl)
noncomputable def f_X12_init_g12 (fu : Nat) (G : GG) (S : ST) (a : Nat) : Option ST :=
  ck (decide (gC (S a) = 23)) <|
  bd (gR (S a) 4) fun q188 =>
  nm (st S (a + 188) (rawo 2)) fun S190 =>
  bd (f_X3_init fu G S190 (a + 188)) fun S191 =>
  ck (decide (gC (S191 q188) = 29)) <|
  ck (decide (gC (S191 (a + 188)) = 3)) <|
  ck (inb (15 : Int32) (gN (S191 q188) 0)) <|
  nm (st S191 q188 (sQ (S191 q188) 0 (15 : Int32).toNatClampNeg (some (a + 188)))) fun S192 =>
  ck (decide (gC (S192 a) = 23)) <|
  bd (gR (S192 a) 4) fun q196 =>
  nm (st S192 (a + 195) (rawo 2)) fun S198 =>
  bd (f_X3_init fu G S198 (a + 195)) fun S199 =>
  ck (decide (gC (S199 q196) = 29)) <|
  ck (decide (gC (S199 (a + 195)) = 3)) <|
  ck (inb (16 : Int32) (gN (S199 q196) 0)) <|
  nm (st S199 q196 (sQ (S199 q196) 0 (16 : Int32).toNatClampNeg (some (a + 195)))) fun S200 =>
  f_X12_init_g13 fu G S200 a
set_option maxHeartbeats 40000000 in
set_option maxRecDepth 100000 in
theorem t_X12_init_g12 {G : GG} {p : Program} {l : Launch} {e : Env} {s : State} {m : MethodId} {args : Array Value} {below : List Frame} {meth : Method} {c : Code} {S : ST} {fu a : Nat} {z : ST} (hM : MC G p s m args c cX12_init w_X12_init RX12) (hml : c.maxLocals = 2) (hr : meth.sig.returnType = none) (hlk : meth.locks = false) (hin2 : meth.name = "<init>") (hs0 : s.heap.size = a + 1) (hf : f_X12_init_g12 fu G S a = some z) : ∀ (H : Heap) (locs : List Loc), WB G S s H locs → H.size = a + 188 → ∀ (ls : Array Slot), lv_has ls 2 [(1, .int (14 : Int32)), (0, .ref a)] → W p l e RM_X12_init s m args below meth c H locs 187 6877 (QN G below args s none z (a + 230) 229 7225) (F0 m 206 ls []) := by
  intro H locs hW hz ls hl
  have hx := hM.1
  have hb := hM.2.1
  unfold f_X12_init_g12 at hf
  refine lv_iinc (v := (15 : Int32)) (lv' := [(1, .int (15 : Int32)), (0, .ref a)]) hx hb dX12_init_206 hl (k := 0) rfl (by decide) (by decide) rfl (fun ls hl => ?_)
  refine lv_goto (tgt := 187) hx hb dX12_init_209 (by decide) ?_
  refine lv_iload_n hx hb dX12_init_187 rfl (lv_at hl 0 rfl) ?_
  refine lv_bipush (v := (17 : Int32)) hx hb dX12_init_188 (by decide) ?_
  refine lv_icmp_ge (tgt := 212) hx hb dX12_init_190 (by decide) (fun c9 => absurd c9 (by decide)) (fun _ => ?_)
  refine lv_aload_n hx hb dX12_init_193 rfl (lv_at hl 1 rfl) ?_
  obtain ⟨h189, hf⟩ := ck_elim hf
  have h189 := of_decide_eq_true h189
  obtain ⟨q188, hq188, hf⟩ := bd_elim hf
  refine b_get hM (hW.at_ a) 22 4 h189 rfl rfl (by decide) wi_X12 (wgm fk_RX12_35) (x := .ref q188) (by show va_rf _ = _; rw [hq188]; rfl) dX12_init_194 ?_
  refine lv_iload_n hx hb dX12_init_197 rfl (lv_at hl 0 rfl) ?_
  refine m_new hM hW hz 2 (by decide) rfl rfl wi_X3 tyX3 tyX3_ok (by decide +kernel) (wgm kc_RX12_25) (wgm is_RX3) (wgm it_RX3) (Nat.le_of_ble_eq_true rfl) (Nat.le_of_ble_eq_true rfl) dX12_init_198 (fun S190 eS190 hk hg9 H hz hW => ?_)
  have hf := nm_at eS190 hf
  have hz : H.size = a + 189 := hz
  refine lv_dup hx hb dX12_init_201 rfl ?_
  obtain ⟨S191, hS191, hf⟩ := bd_elim hf
  refine n_init (np := 0) [] [.ref (a + 188), .int (15 : Int32), .ref q188] hM hml hl.1 hW hz (c_X3_init l G fu _ (a + 188) hS191) rfl cd_X3_init it_RX3 mk_RX12_27 im_X3_init rfl rfl rfl (by decide +kernel) ⟨Nat.le_of_ble_eq_true rfl, Nat.le_of_ble_eq_true rfl⟩ rfl rfl (Nat.le_of_ble_eq_true rfl) ⟨Nat.le_of_ble_eq_true rfl, Nat.le_of_ble_eq_true rfl⟩ dX12_init_202 (fun H locs hz hW => ?_)
  have hz : H.size = a + 195 := hz
  obtain ⟨h193, hf⟩ := ck_elim hf
  have h193 := of_decide_eq_true h193
  obtain ⟨h194, hf⟩ := ck_elim hf
  have h194 := of_decide_eq_true h194
  obtain ⟨h195, hf⟩ := ck_elim hf
  refine m_aast hM hW h193 h194 h195 dX12_init_205 (fun S192 eS192 H locs hz9 hW => ?_)
  have hf := nm_at eS192 hf
  have hz : H.size = a + 195 := hz9.trans hz
  refine lv_iinc (v := (16 : Int32)) (lv' := [(1, .int (16 : Int32)), (0, .ref a)]) hx hb dX12_init_206 hl (k := 0) rfl (by decide) (by decide) rfl (fun ls hl => ?_)
  refine lv_goto (tgt := 187) hx hb dX12_init_209 (by decide) ?_
  refine lv_iload_n hx hb dX12_init_187 rfl (lv_at hl 0 rfl) ?_
  refine lv_bipush (v := (17 : Int32)) hx hb dX12_init_188 (by decide) ?_
  refine lv_icmp_ge (tgt := 212) hx hb dX12_init_190 (by decide) (fun c9 => absurd c9 (by decide)) (fun _ => ?_)
  refine lv_aload_n hx hb dX12_init_193 rfl (lv_at hl 1 rfl) ?_
  obtain ⟨h197, hf⟩ := ck_elim hf
  have h197 := of_decide_eq_true h197
  obtain ⟨q196, hq196, hf⟩ := bd_elim hf
  refine b_get hM (hW.at_ a) 22 4 h197 rfl rfl (by decide) wi_X12 (wgm fk_RX12_35) (x := .ref q196) (by show va_rf _ = _; rw [hq196]; rfl) dX12_init_194 ?_
  refine lv_iload_n hx hb dX12_init_197 rfl (lv_at hl 0 rfl) ?_
  refine m_new hM hW hz 2 (by decide) rfl rfl wi_X3 tyX3 tyX3_ok (by decide +kernel) (wgm kc_RX12_25) (wgm is_RX3) (wgm it_RX3) (Nat.le_of_ble_eq_true rfl) (Nat.le_of_ble_eq_true rfl) dX12_init_198 (fun S198 eS198 hk hg9 H hz hW => ?_)
  have hf := nm_at eS198 hf
  have hz : H.size = a + 196 := hz
  refine lv_dup hx hb dX12_init_201 rfl ?_
  obtain ⟨S199, hS199, hf⟩ := bd_elim hf
  refine n_init (np := 0) [] [.ref (a + 195), .int (16 : Int32), .ref q196] hM hml hl.1 hW hz (c_X3_init l G fu _ (a + 195) hS199) rfl cd_X3_init it_RX3 mk_RX12_27 im_X3_init rfl rfl rfl (by decide +kernel) ⟨Nat.le_of_ble_eq_true rfl, Nat.le_of_ble_eq_true rfl⟩ rfl rfl (Nat.le_of_ble_eq_true rfl) ⟨Nat.le_of_ble_eq_true rfl, Nat.le_of_ble_eq_true rfl⟩ dX12_init_202 (fun H locs hz hW => ?_)
  have hz : H.size = a + 202 := hz
  obtain ⟨h201, hf⟩ := ck_elim hf
  have h201 := of_decide_eq_true h201
  obtain ⟨h202, hf⟩ := ck_elim hf
  have h202 := of_decide_eq_true h202
  obtain ⟨h203, hf⟩ := ck_elim hf
  refine m_aast hM hW h201 h202 h203 dX12_init_205 (fun S200 eS200 H locs hz9 hW => ?_)
  have hf := nm_at eS200 hf
  have hz : H.size = a + 202 := hz9.trans hz
  exact t_X12_init_g13 hM hml hr hlk hin2 hs0 hf _ _ hW hz _ (lv_sub hl [0, 1] rfl)
noncomputable def f_X12_init_g11 (fu : Nat) (G : GG) (S : ST) (a : Nat) : Option ST :=
  ck (decide (gC (S a) = 23)) <|
  bd (gR (S a) 4) fun q172 =>
  nm (st S (a + 174) (rawo 2)) fun S174 =>
  bd (f_X3_init fu G S174 (a + 174)) fun S175 =>
  ck (decide (gC (S175 q172) = 29)) <|
  ck (decide (gC (S175 (a + 174)) = 3)) <|
  ck (inb (13 : Int32) (gN (S175 q172) 0)) <|
  nm (st S175 q172 (sQ (S175 q172) 0 (13 : Int32).toNatClampNeg (some (a + 174)))) fun S176 =>
  ck (decide (gC (S176 a) = 23)) <|
  bd (gR (S176 a) 4) fun q180 =>
  nm (st S176 (a + 181) (rawo 2)) fun S182 =>
  bd (f_X3_init fu G S182 (a + 181)) fun S183 =>
  ck (decide (gC (S183 q180) = 29)) <|
  ck (decide (gC (S183 (a + 181)) = 3)) <|
  ck (inb (14 : Int32) (gN (S183 q180) 0)) <|
  nm (st S183 q180 (sQ (S183 q180) 0 (14 : Int32).toNatClampNeg (some (a + 181)))) fun S184 =>
  f_X12_init_g12 fu G S184 a
set_option maxHeartbeats 40000000 in
set_option maxRecDepth 100000 in
theorem t_X12_init_g11 {G : GG} {p : Program} {l : Launch} {e : Env} {s : State} {m : MethodId} {args : Array Value} {below : List Frame} {meth : Method} {c : Code} {S : ST} {fu a : Nat} {z : ST} (hM : MC G p s m args c cX12_init w_X12_init RX12) (hml : c.maxLocals = 2) (hr : meth.sig.returnType = none) (hlk : meth.locks = false) (hin2 : meth.name = "<init>") (hs0 : s.heap.size = a + 1) (hf : f_X12_init_g11 fu G S a = some z) : ∀ (H : Heap) (locs : List Loc), WB G S s H locs → H.size = a + 174 → ∀ (ls : Array Slot), lv_has ls 2 [(1, .int (12 : Int32)), (0, .ref a)] → W p l e RM_X12_init s m args below meth c H locs 173 6761 (QN G below args s none z (a + 230) 229 7225) (F0 m 206 ls []) := by
  intro H locs hW hz ls hl
  have hx := hM.1
  have hb := hM.2.1
  unfold f_X12_init_g11 at hf
  refine lv_iinc (v := (13 : Int32)) (lv' := [(1, .int (13 : Int32)), (0, .ref a)]) hx hb dX12_init_206 hl (k := 0) rfl (by decide) (by decide) rfl (fun ls hl => ?_)
  refine lv_goto (tgt := 187) hx hb dX12_init_209 (by decide) ?_
  refine lv_iload_n hx hb dX12_init_187 rfl (lv_at hl 0 rfl) ?_
  refine lv_bipush (v := (17 : Int32)) hx hb dX12_init_188 (by decide) ?_
  refine lv_icmp_ge (tgt := 212) hx hb dX12_init_190 (by decide) (fun c9 => absurd c9 (by decide)) (fun _ => ?_)
  refine lv_aload_n hx hb dX12_init_193 rfl (lv_at hl 1 rfl) ?_
  obtain ⟨h173, hf⟩ := ck_elim hf
  have h173 := of_decide_eq_true h173
  obtain ⟨q172, hq172, hf⟩ := bd_elim hf
  refine b_get hM (hW.at_ a) 22 4 h173 rfl rfl (by decide) wi_X12 (wgm fk_RX12_35) (x := .ref q172) (by show va_rf _ = _; rw [hq172]; rfl) dX12_init_194 ?_
  refine lv_iload_n hx hb dX12_init_197 rfl (lv_at hl 0 rfl) ?_
  refine m_new hM hW hz 2 (by decide) rfl rfl wi_X3 tyX3 tyX3_ok (by decide +kernel) (wgm kc_RX12_25) (wgm is_RX3) (wgm it_RX3) (Nat.le_of_ble_eq_true rfl) (Nat.le_of_ble_eq_true rfl) dX12_init_198 (fun S174 eS174 hk hg9 H hz hW => ?_)
  have hf := nm_at eS174 hf
  have hz : H.size = a + 175 := hz
  refine lv_dup hx hb dX12_init_201 rfl ?_
  obtain ⟨S175, hS175, hf⟩ := bd_elim hf
  refine n_init (np := 0) [] [.ref (a + 174), .int (13 : Int32), .ref q172] hM hml hl.1 hW hz (c_X3_init l G fu _ (a + 174) hS175) rfl cd_X3_init it_RX3 mk_RX12_27 im_X3_init rfl rfl rfl (by decide +kernel) ⟨Nat.le_of_ble_eq_true rfl, Nat.le_of_ble_eq_true rfl⟩ rfl rfl (Nat.le_of_ble_eq_true rfl) ⟨Nat.le_of_ble_eq_true rfl, Nat.le_of_ble_eq_true rfl⟩ dX12_init_202 (fun H locs hz hW => ?_)
  have hz : H.size = a + 181 := hz
  obtain ⟨h177, hf⟩ := ck_elim hf
  have h177 := of_decide_eq_true h177
  obtain ⟨h178, hf⟩ := ck_elim hf
  have h178 := of_decide_eq_true h178
  obtain ⟨h179, hf⟩ := ck_elim hf
  refine m_aast hM hW h177 h178 h179 dX12_init_205 (fun S176 eS176 H locs hz9 hW => ?_)
  have hf := nm_at eS176 hf
  have hz : H.size = a + 181 := hz9.trans hz
  refine lv_iinc (v := (14 : Int32)) (lv' := [(1, .int (14 : Int32)), (0, .ref a)]) hx hb dX12_init_206 hl (k := 0) rfl (by decide) (by decide) rfl (fun ls hl => ?_)
  refine lv_goto (tgt := 187) hx hb dX12_init_209 (by decide) ?_
  refine lv_iload_n hx hb dX12_init_187 rfl (lv_at hl 0 rfl) ?_
  refine lv_bipush (v := (17 : Int32)) hx hb dX12_init_188 (by decide) ?_
  refine lv_icmp_ge (tgt := 212) hx hb dX12_init_190 (by decide) (fun c9 => absurd c9 (by decide)) (fun _ => ?_)
  refine lv_aload_n hx hb dX12_init_193 rfl (lv_at hl 1 rfl) ?_
  obtain ⟨h181, hf⟩ := ck_elim hf
  have h181 := of_decide_eq_true h181
  obtain ⟨q180, hq180, hf⟩ := bd_elim hf
  refine b_get hM (hW.at_ a) 22 4 h181 rfl rfl (by decide) wi_X12 (wgm fk_RX12_35) (x := .ref q180) (by show va_rf _ = _; rw [hq180]; rfl) dX12_init_194 ?_
  refine lv_iload_n hx hb dX12_init_197 rfl (lv_at hl 0 rfl) ?_
  refine m_new hM hW hz 2 (by decide) rfl rfl wi_X3 tyX3 tyX3_ok (by decide +kernel) (wgm kc_RX12_25) (wgm is_RX3) (wgm it_RX3) (Nat.le_of_ble_eq_true rfl) (Nat.le_of_ble_eq_true rfl) dX12_init_198 (fun S182 eS182 hk hg9 H hz hW => ?_)
  have hf := nm_at eS182 hf
  have hz : H.size = a + 182 := hz
  refine lv_dup hx hb dX12_init_201 rfl ?_
  obtain ⟨S183, hS183, hf⟩ := bd_elim hf
  refine n_init (np := 0) [] [.ref (a + 181), .int (14 : Int32), .ref q180] hM hml hl.1 hW hz (c_X3_init l G fu _ (a + 181) hS183) rfl cd_X3_init it_RX3 mk_RX12_27 im_X3_init rfl rfl rfl (by decide +kernel) ⟨Nat.le_of_ble_eq_true rfl, Nat.le_of_ble_eq_true rfl⟩ rfl rfl (Nat.le_of_ble_eq_true rfl) ⟨Nat.le_of_ble_eq_true rfl, Nat.le_of_ble_eq_true rfl⟩ dX12_init_202 (fun H locs hz hW => ?_)
  have hz : H.size = a + 188 := hz
  obtain ⟨h185, hf⟩ := ck_elim hf
  have h185 := of_decide_eq_true h185
  obtain ⟨h186, hf⟩ := ck_elim hf
  have h186 := of_decide_eq_true h186
  obtain ⟨h187, hf⟩ := ck_elim hf
  refine m_aast hM hW h185 h186 h187 dX12_init_205 (fun S184 eS184 H locs hz9 hW => ?_)
  have hf := nm_at eS184 hf
  have hz : H.size = a + 188 := hz9.trans hz
  exact t_X12_init_g12 hM hml hr hlk hin2 hs0 hf _ _ hW hz _ (lv_sub hl [0, 1] rfl)
noncomputable def f_X12_init_g10 (fu : Nat) (G : GG) (S : ST) (a : Nat) : Option ST :=
  ck (decide (gC (S a) = 23)) <|
  bd (gR (S a) 4) fun q156 =>
  nm (st S (a + 160) (rawo 2)) fun S158 =>
  bd (f_X3_init fu G S158 (a + 160)) fun S159 =>
  ck (decide (gC (S159 q156) = 29)) <|
  ck (decide (gC (S159 (a + 160)) = 3)) <|
  ck (inb (11 : Int32) (gN (S159 q156) 0)) <|
  nm (st S159 q156 (sQ (S159 q156) 0 (11 : Int32).toNatClampNeg (some (a + 160)))) fun S160 =>
  ck (decide (gC (S160 a) = 23)) <|
  bd (gR (S160 a) 4) fun q164 =>
  nm (st S160 (a + 167) (rawo 2)) fun S166 =>
  bd (f_X3_init fu G S166 (a + 167)) fun S167 =>
  ck (decide (gC (S167 q164) = 29)) <|
  ck (decide (gC (S167 (a + 167)) = 3)) <|
  ck (inb (12 : Int32) (gN (S167 q164) 0)) <|
  nm (st S167 q164 (sQ (S167 q164) 0 (12 : Int32).toNatClampNeg (some (a + 167)))) fun S168 =>
  f_X12_init_g11 fu G S168 a
set_option maxHeartbeats 40000000 in
set_option maxRecDepth 100000 in
theorem t_X12_init_g10 {G : GG} {p : Program} {l : Launch} {e : Env} {s : State} {m : MethodId} {args : Array Value} {below : List Frame} {meth : Method} {c : Code} {S : ST} {fu a : Nat} {z : ST} (hM : MC G p s m args c cX12_init w_X12_init RX12) (hml : c.maxLocals = 2) (hr : meth.sig.returnType = none) (hlk : meth.locks = false) (hin2 : meth.name = "<init>") (hs0 : s.heap.size = a + 1) (hf : f_X12_init_g10 fu G S a = some z) : ∀ (H : Heap) (locs : List Loc), WB G S s H locs → H.size = a + 160 → ∀ (ls : Array Slot), lv_has ls 2 [(1, .int (10 : Int32)), (0, .ref a)] → W p l e RM_X12_init s m args below meth c H locs 159 6645 (QN G below args s none z (a + 230) 229 7225) (F0 m 206 ls []) := by
  intro H locs hW hz ls hl
  have hx := hM.1
  have hb := hM.2.1
  unfold f_X12_init_g10 at hf
  refine lv_iinc (v := (11 : Int32)) (lv' := [(1, .int (11 : Int32)), (0, .ref a)]) hx hb dX12_init_206 hl (k := 0) rfl (by decide) (by decide) rfl (fun ls hl => ?_)
  refine lv_goto (tgt := 187) hx hb dX12_init_209 (by decide) ?_
  refine lv_iload_n hx hb dX12_init_187 rfl (lv_at hl 0 rfl) ?_
  refine lv_bipush (v := (17 : Int32)) hx hb dX12_init_188 (by decide) ?_
  refine lv_icmp_ge (tgt := 212) hx hb dX12_init_190 (by decide) (fun c9 => absurd c9 (by decide)) (fun _ => ?_)
  refine lv_aload_n hx hb dX12_init_193 rfl (lv_at hl 1 rfl) ?_
  obtain ⟨h157, hf⟩ := ck_elim hf
  have h157 := of_decide_eq_true h157
  obtain ⟨q156, hq156, hf⟩ := bd_elim hf
  refine b_get hM (hW.at_ a) 22 4 h157 rfl rfl (by decide) wi_X12 (wgm fk_RX12_35) (x := .ref q156) (by show va_rf _ = _; rw [hq156]; rfl) dX12_init_194 ?_
  refine lv_iload_n hx hb dX12_init_197 rfl (lv_at hl 0 rfl) ?_
  refine m_new hM hW hz 2 (by decide) rfl rfl wi_X3 tyX3 tyX3_ok (by decide +kernel) (wgm kc_RX12_25) (wgm is_RX3) (wgm it_RX3) (Nat.le_of_ble_eq_true rfl) (Nat.le_of_ble_eq_true rfl) dX12_init_198 (fun S158 eS158 hk hg9 H hz hW => ?_)
  have hf := nm_at eS158 hf
  have hz : H.size = a + 161 := hz
  refine lv_dup hx hb dX12_init_201 rfl ?_
  obtain ⟨S159, hS159, hf⟩ := bd_elim hf
  refine n_init (np := 0) [] [.ref (a + 160), .int (11 : Int32), .ref q156] hM hml hl.1 hW hz (c_X3_init l G fu _ (a + 160) hS159) rfl cd_X3_init it_RX3 mk_RX12_27 im_X3_init rfl rfl rfl (by decide +kernel) ⟨Nat.le_of_ble_eq_true rfl, Nat.le_of_ble_eq_true rfl⟩ rfl rfl (Nat.le_of_ble_eq_true rfl) ⟨Nat.le_of_ble_eq_true rfl, Nat.le_of_ble_eq_true rfl⟩ dX12_init_202 (fun H locs hz hW => ?_)
  have hz : H.size = a + 167 := hz
  obtain ⟨h161, hf⟩ := ck_elim hf
  have h161 := of_decide_eq_true h161
  obtain ⟨h162, hf⟩ := ck_elim hf
  have h162 := of_decide_eq_true h162
  obtain ⟨h163, hf⟩ := ck_elim hf
  refine m_aast hM hW h161 h162 h163 dX12_init_205 (fun S160 eS160 H locs hz9 hW => ?_)
  have hf := nm_at eS160 hf
  have hz : H.size = a + 167 := hz9.trans hz
  refine lv_iinc (v := (12 : Int32)) (lv' := [(1, .int (12 : Int32)), (0, .ref a)]) hx hb dX12_init_206 hl (k := 0) rfl (by decide) (by decide) rfl (fun ls hl => ?_)
  refine lv_goto (tgt := 187) hx hb dX12_init_209 (by decide) ?_
  refine lv_iload_n hx hb dX12_init_187 rfl (lv_at hl 0 rfl) ?_
  refine lv_bipush (v := (17 : Int32)) hx hb dX12_init_188 (by decide) ?_
  refine lv_icmp_ge (tgt := 212) hx hb dX12_init_190 (by decide) (fun c9 => absurd c9 (by decide)) (fun _ => ?_)
  refine lv_aload_n hx hb dX12_init_193 rfl (lv_at hl 1 rfl) ?_
  obtain ⟨h165, hf⟩ := ck_elim hf
  have h165 := of_decide_eq_true h165
  obtain ⟨q164, hq164, hf⟩ := bd_elim hf
  refine b_get hM (hW.at_ a) 22 4 h165 rfl rfl (by decide) wi_X12 (wgm fk_RX12_35) (x := .ref q164) (by show va_rf _ = _; rw [hq164]; rfl) dX12_init_194 ?_
  refine lv_iload_n hx hb dX12_init_197 rfl (lv_at hl 0 rfl) ?_
  refine m_new hM hW hz 2 (by decide) rfl rfl wi_X3 tyX3 tyX3_ok (by decide +kernel) (wgm kc_RX12_25) (wgm is_RX3) (wgm it_RX3) (Nat.le_of_ble_eq_true rfl) (Nat.le_of_ble_eq_true rfl) dX12_init_198 (fun S166 eS166 hk hg9 H hz hW => ?_)
  have hf := nm_at eS166 hf
  have hz : H.size = a + 168 := hz
  refine lv_dup hx hb dX12_init_201 rfl ?_
  obtain ⟨S167, hS167, hf⟩ := bd_elim hf
  refine n_init (np := 0) [] [.ref (a + 167), .int (12 : Int32), .ref q164] hM hml hl.1 hW hz (c_X3_init l G fu _ (a + 167) hS167) rfl cd_X3_init it_RX3 mk_RX12_27 im_X3_init rfl rfl rfl (by decide +kernel) ⟨Nat.le_of_ble_eq_true rfl, Nat.le_of_ble_eq_true rfl⟩ rfl rfl (Nat.le_of_ble_eq_true rfl) ⟨Nat.le_of_ble_eq_true rfl, Nat.le_of_ble_eq_true rfl⟩ dX12_init_202 (fun H locs hz hW => ?_)
  have hz : H.size = a + 174 := hz
  obtain ⟨h169, hf⟩ := ck_elim hf
  have h169 := of_decide_eq_true h169
  obtain ⟨h170, hf⟩ := ck_elim hf
  have h170 := of_decide_eq_true h170
  obtain ⟨h171, hf⟩ := ck_elim hf
  refine m_aast hM hW h169 h170 h171 dX12_init_205 (fun S168 eS168 H locs hz9 hW => ?_)
  have hf := nm_at eS168 hf
  have hz : H.size = a + 174 := hz9.trans hz
  exact t_X12_init_g11 hM hml hr hlk hin2 hs0 hf _ _ hW hz _ (lv_sub hl [0, 1] rfl)
noncomputable def f_X12_init_g9 (fu : Nat) (G : GG) (S : ST) (a : Nat) : Option ST :=
  ck (decide (gC (S a) = 23)) <|
  bd (gR (S a) 4) fun q140 =>
  nm (st S (a + 146) (rawo 2)) fun S142 =>
  bd (f_X3_init fu G S142 (a + 146)) fun S143 =>
  ck (decide (gC (S143 q140) = 29)) <|
  ck (decide (gC (S143 (a + 146)) = 3)) <|
  ck (inb (9 : Int32) (gN (S143 q140) 0)) <|
  nm (st S143 q140 (sQ (S143 q140) 0 (9 : Int32).toNatClampNeg (some (a + 146)))) fun S144 =>
  ck (decide (gC (S144 a) = 23)) <|
  bd (gR (S144 a) 4) fun q148 =>
  nm (st S144 (a + 153) (rawo 2)) fun S150 =>
  bd (f_X3_init fu G S150 (a + 153)) fun S151 =>
  ck (decide (gC (S151 q148) = 29)) <|
  ck (decide (gC (S151 (a + 153)) = 3)) <|
  ck (inb (10 : Int32) (gN (S151 q148) 0)) <|
  nm (st S151 q148 (sQ (S151 q148) 0 (10 : Int32).toNatClampNeg (some (a + 153)))) fun S152 =>
  f_X12_init_g10 fu G S152 a
set_option maxHeartbeats 40000000 in
set_option maxRecDepth 100000 in
theorem t_X12_init_g9 {G : GG} {p : Program} {l : Launch} {e : Env} {s : State} {m : MethodId} {args : Array Value} {below : List Frame} {meth : Method} {c : Code} {S : ST} {fu a : Nat} {z : ST} (hM : MC G p s m args c cX12_init w_X12_init RX12) (hml : c.maxLocals = 2) (hr : meth.sig.returnType = none) (hlk : meth.locks = false) (hin2 : meth.name = "<init>") (hs0 : s.heap.size = a + 1) (hf : f_X12_init_g9 fu G S a = some z) : ∀ (H : Heap) (locs : List Loc), WB G S s H locs → H.size = a + 146 → ∀ (ls : Array Slot), lv_has ls 2 [(1, .int (8 : Int32)), (0, .ref a)] → W p l e RM_X12_init s m args below meth c H locs 145 6529 (QN G below args s none z (a + 230) 229 7225) (F0 m 206 ls []) := by
  intro H locs hW hz ls hl
  have hx := hM.1
  have hb := hM.2.1
  unfold f_X12_init_g9 at hf
  refine lv_iinc (v := (9 : Int32)) (lv' := [(1, .int (9 : Int32)), (0, .ref a)]) hx hb dX12_init_206 hl (k := 0) rfl (by decide) (by decide) rfl (fun ls hl => ?_)
  refine lv_goto (tgt := 187) hx hb dX12_init_209 (by decide) ?_
  refine lv_iload_n hx hb dX12_init_187 rfl (lv_at hl 0 rfl) ?_
  refine lv_bipush (v := (17 : Int32)) hx hb dX12_init_188 (by decide) ?_
  refine lv_icmp_ge (tgt := 212) hx hb dX12_init_190 (by decide) (fun c9 => absurd c9 (by decide)) (fun _ => ?_)
  refine lv_aload_n hx hb dX12_init_193 rfl (lv_at hl 1 rfl) ?_
  obtain ⟨h141, hf⟩ := ck_elim hf
  have h141 := of_decide_eq_true h141
  obtain ⟨q140, hq140, hf⟩ := bd_elim hf
  refine b_get hM (hW.at_ a) 22 4 h141 rfl rfl (by decide) wi_X12 (wgm fk_RX12_35) (x := .ref q140) (by show va_rf _ = _; rw [hq140]; rfl) dX12_init_194 ?_
  refine lv_iload_n hx hb dX12_init_197 rfl (lv_at hl 0 rfl) ?_
  refine m_new hM hW hz 2 (by decide) rfl rfl wi_X3 tyX3 tyX3_ok (by decide +kernel) (wgm kc_RX12_25) (wgm is_RX3) (wgm it_RX3) (Nat.le_of_ble_eq_true rfl) (Nat.le_of_ble_eq_true rfl) dX12_init_198 (fun S142 eS142 hk hg9 H hz hW => ?_)
  have hf := nm_at eS142 hf
  have hz : H.size = a + 147 := hz
  refine lv_dup hx hb dX12_init_201 rfl ?_
  obtain ⟨S143, hS143, hf⟩ := bd_elim hf
  refine n_init (np := 0) [] [.ref (a + 146), .int (9 : Int32), .ref q140] hM hml hl.1 hW hz (c_X3_init l G fu _ (a + 146) hS143) rfl cd_X3_init it_RX3 mk_RX12_27 im_X3_init rfl rfl rfl (by decide +kernel) ⟨Nat.le_of_ble_eq_true rfl, Nat.le_of_ble_eq_true rfl⟩ rfl rfl (Nat.le_of_ble_eq_true rfl) ⟨Nat.le_of_ble_eq_true rfl, Nat.le_of_ble_eq_true rfl⟩ dX12_init_202 (fun H locs hz hW => ?_)
  have hz : H.size = a + 153 := hz
  obtain ⟨h145, hf⟩ := ck_elim hf
  have h145 := of_decide_eq_true h145
  obtain ⟨h146, hf⟩ := ck_elim hf
  have h146 := of_decide_eq_true h146
  obtain ⟨h147, hf⟩ := ck_elim hf
  refine m_aast hM hW h145 h146 h147 dX12_init_205 (fun S144 eS144 H locs hz9 hW => ?_)
  have hf := nm_at eS144 hf
  have hz : H.size = a + 153 := hz9.trans hz
  refine lv_iinc (v := (10 : Int32)) (lv' := [(1, .int (10 : Int32)), (0, .ref a)]) hx hb dX12_init_206 hl (k := 0) rfl (by decide) (by decide) rfl (fun ls hl => ?_)
  refine lv_goto (tgt := 187) hx hb dX12_init_209 (by decide) ?_
  refine lv_iload_n hx hb dX12_init_187 rfl (lv_at hl 0 rfl) ?_
  refine lv_bipush (v := (17 : Int32)) hx hb dX12_init_188 (by decide) ?_
  refine lv_icmp_ge (tgt := 212) hx hb dX12_init_190 (by decide) (fun c9 => absurd c9 (by decide)) (fun _ => ?_)
  refine lv_aload_n hx hb dX12_init_193 rfl (lv_at hl 1 rfl) ?_
  obtain ⟨h149, hf⟩ := ck_elim hf
  have h149 := of_decide_eq_true h149
  obtain ⟨q148, hq148, hf⟩ := bd_elim hf
  refine b_get hM (hW.at_ a) 22 4 h149 rfl rfl (by decide) wi_X12 (wgm fk_RX12_35) (x := .ref q148) (by show va_rf _ = _; rw [hq148]; rfl) dX12_init_194 ?_
  refine lv_iload_n hx hb dX12_init_197 rfl (lv_at hl 0 rfl) ?_
  refine m_new hM hW hz 2 (by decide) rfl rfl wi_X3 tyX3 tyX3_ok (by decide +kernel) (wgm kc_RX12_25) (wgm is_RX3) (wgm it_RX3) (Nat.le_of_ble_eq_true rfl) (Nat.le_of_ble_eq_true rfl) dX12_init_198 (fun S150 eS150 hk hg9 H hz hW => ?_)
  have hf := nm_at eS150 hf
  have hz : H.size = a + 154 := hz
  refine lv_dup hx hb dX12_init_201 rfl ?_
  obtain ⟨S151, hS151, hf⟩ := bd_elim hf
  refine n_init (np := 0) [] [.ref (a + 153), .int (10 : Int32), .ref q148] hM hml hl.1 hW hz (c_X3_init l G fu _ (a + 153) hS151) rfl cd_X3_init it_RX3 mk_RX12_27 im_X3_init rfl rfl rfl (by decide +kernel) ⟨Nat.le_of_ble_eq_true rfl, Nat.le_of_ble_eq_true rfl⟩ rfl rfl (Nat.le_of_ble_eq_true rfl) ⟨Nat.le_of_ble_eq_true rfl, Nat.le_of_ble_eq_true rfl⟩ dX12_init_202 (fun H locs hz hW => ?_)
  have hz : H.size = a + 160 := hz
  obtain ⟨h153, hf⟩ := ck_elim hf
  have h153 := of_decide_eq_true h153
  obtain ⟨h154, hf⟩ := ck_elim hf
  have h154 := of_decide_eq_true h154
  obtain ⟨h155, hf⟩ := ck_elim hf
  refine m_aast hM hW h153 h154 h155 dX12_init_205 (fun S152 eS152 H locs hz9 hW => ?_)
  have hf := nm_at eS152 hf
  have hz : H.size = a + 160 := hz9.trans hz
  exact t_X12_init_g10 hM hml hr hlk hin2 hs0 hf _ _ hW hz _ (lv_sub hl [0, 1] rfl)
noncomputable def f_X12_init_g8 (fu : Nat) (G : GG) (S : ST) (a : Nat) : Option ST :=
  ck (decide (gC (S a) = 23)) <|
  bd (gR (S a) 4) fun q124 =>
  nm (st S (a + 132) (rawo 2)) fun S126 =>
  bd (f_X3_init fu G S126 (a + 132)) fun S127 =>
  ck (decide (gC (S127 q124) = 29)) <|
  ck (decide (gC (S127 (a + 132)) = 3)) <|
  ck (inb (7 : Int32) (gN (S127 q124) 0)) <|
  nm (st S127 q124 (sQ (S127 q124) 0 (7 : Int32).toNatClampNeg (some (a + 132)))) fun S128 =>
  ck (decide (gC (S128 a) = 23)) <|
  bd (gR (S128 a) 4) fun q132 =>
  nm (st S128 (a + 139) (rawo 2)) fun S134 =>
  bd (f_X3_init fu G S134 (a + 139)) fun S135 =>
  ck (decide (gC (S135 q132) = 29)) <|
  ck (decide (gC (S135 (a + 139)) = 3)) <|
  ck (inb (8 : Int32) (gN (S135 q132) 0)) <|
  nm (st S135 q132 (sQ (S135 q132) 0 (8 : Int32).toNatClampNeg (some (a + 139)))) fun S136 =>
  f_X12_init_g9 fu G S136 a
set_option maxHeartbeats 40000000 in
set_option maxRecDepth 100000 in
theorem t_X12_init_g8 {G : GG} {p : Program} {l : Launch} {e : Env} {s : State} {m : MethodId} {args : Array Value} {below : List Frame} {meth : Method} {c : Code} {S : ST} {fu a : Nat} {z : ST} (hM : MC G p s m args c cX12_init w_X12_init RX12) (hml : c.maxLocals = 2) (hr : meth.sig.returnType = none) (hlk : meth.locks = false) (hin2 : meth.name = "<init>") (hs0 : s.heap.size = a + 1) (hf : f_X12_init_g8 fu G S a = some z) : ∀ (H : Heap) (locs : List Loc), WB G S s H locs → H.size = a + 132 → ∀ (ls : Array Slot), lv_has ls 2 [(1, .int (6 : Int32)), (0, .ref a)] → W p l e RM_X12_init s m args below meth c H locs 131 6413 (QN G below args s none z (a + 230) 229 7225) (F0 m 206 ls []) := by
  intro H locs hW hz ls hl
  have hx := hM.1
  have hb := hM.2.1
  unfold f_X12_init_g8 at hf
  refine lv_iinc (v := (7 : Int32)) (lv' := [(1, .int (7 : Int32)), (0, .ref a)]) hx hb dX12_init_206 hl (k := 0) rfl (by decide) (by decide) rfl (fun ls hl => ?_)
  refine lv_goto (tgt := 187) hx hb dX12_init_209 (by decide) ?_
  refine lv_iload_n hx hb dX12_init_187 rfl (lv_at hl 0 rfl) ?_
  refine lv_bipush (v := (17 : Int32)) hx hb dX12_init_188 (by decide) ?_
  refine lv_icmp_ge (tgt := 212) hx hb dX12_init_190 (by decide) (fun c9 => absurd c9 (by decide)) (fun _ => ?_)
  refine lv_aload_n hx hb dX12_init_193 rfl (lv_at hl 1 rfl) ?_
  obtain ⟨h125, hf⟩ := ck_elim hf
  have h125 := of_decide_eq_true h125
  obtain ⟨q124, hq124, hf⟩ := bd_elim hf
  refine b_get hM (hW.at_ a) 22 4 h125 rfl rfl (by decide) wi_X12 (wgm fk_RX12_35) (x := .ref q124) (by show va_rf _ = _; rw [hq124]; rfl) dX12_init_194 ?_
  refine lv_iload_n hx hb dX12_init_197 rfl (lv_at hl 0 rfl) ?_
  refine m_new hM hW hz 2 (by decide) rfl rfl wi_X3 tyX3 tyX3_ok (by decide +kernel) (wgm kc_RX12_25) (wgm is_RX3) (wgm it_RX3) (Nat.le_of_ble_eq_true rfl) (Nat.le_of_ble_eq_true rfl) dX12_init_198 (fun S126 eS126 hk hg9 H hz hW => ?_)
  have hf := nm_at eS126 hf
  have hz : H.size = a + 133 := hz
  refine lv_dup hx hb dX12_init_201 rfl ?_
  obtain ⟨S127, hS127, hf⟩ := bd_elim hf
  refine n_init (np := 0) [] [.ref (a + 132), .int (7 : Int32), .ref q124] hM hml hl.1 hW hz (c_X3_init l G fu _ (a + 132) hS127) rfl cd_X3_init it_RX3 mk_RX12_27 im_X3_init rfl rfl rfl (by decide +kernel) ⟨Nat.le_of_ble_eq_true rfl, Nat.le_of_ble_eq_true rfl⟩ rfl rfl (Nat.le_of_ble_eq_true rfl) ⟨Nat.le_of_ble_eq_true rfl, Nat.le_of_ble_eq_true rfl⟩ dX12_init_202 (fun H locs hz hW => ?_)
  have hz : H.size = a + 139 := hz
  obtain ⟨h129, hf⟩ := ck_elim hf
  have h129 := of_decide_eq_true h129
  obtain ⟨h130, hf⟩ := ck_elim hf
  have h130 := of_decide_eq_true h130
  obtain ⟨h131, hf⟩ := ck_elim hf
  refine m_aast hM hW h129 h130 h131 dX12_init_205 (fun S128 eS128 H locs hz9 hW => ?_)
  have hf := nm_at eS128 hf
  have hz : H.size = a + 139 := hz9.trans hz
  refine lv_iinc (v := (8 : Int32)) (lv' := [(1, .int (8 : Int32)), (0, .ref a)]) hx hb dX12_init_206 hl (k := 0) rfl (by decide) (by decide) rfl (fun ls hl => ?_)
  refine lv_goto (tgt := 187) hx hb dX12_init_209 (by decide) ?_
  refine lv_iload_n hx hb dX12_init_187 rfl (lv_at hl 0 rfl) ?_
  refine lv_bipush (v := (17 : Int32)) hx hb dX12_init_188 (by decide) ?_
  refine lv_icmp_ge (tgt := 212) hx hb dX12_init_190 (by decide) (fun c9 => absurd c9 (by decide)) (fun _ => ?_)
  refine lv_aload_n hx hb dX12_init_193 rfl (lv_at hl 1 rfl) ?_
  obtain ⟨h133, hf⟩ := ck_elim hf
  have h133 := of_decide_eq_true h133
  obtain ⟨q132, hq132, hf⟩ := bd_elim hf
  refine b_get hM (hW.at_ a) 22 4 h133 rfl rfl (by decide) wi_X12 (wgm fk_RX12_35) (x := .ref q132) (by show va_rf _ = _; rw [hq132]; rfl) dX12_init_194 ?_
  refine lv_iload_n hx hb dX12_init_197 rfl (lv_at hl 0 rfl) ?_
  refine m_new hM hW hz 2 (by decide) rfl rfl wi_X3 tyX3 tyX3_ok (by decide +kernel) (wgm kc_RX12_25) (wgm is_RX3) (wgm it_RX3) (Nat.le_of_ble_eq_true rfl) (Nat.le_of_ble_eq_true rfl) dX12_init_198 (fun S134 eS134 hk hg9 H hz hW => ?_)
  have hf := nm_at eS134 hf
  have hz : H.size = a + 140 := hz
  refine lv_dup hx hb dX12_init_201 rfl ?_
  obtain ⟨S135, hS135, hf⟩ := bd_elim hf
  refine n_init (np := 0) [] [.ref (a + 139), .int (8 : Int32), .ref q132] hM hml hl.1 hW hz (c_X3_init l G fu _ (a + 139) hS135) rfl cd_X3_init it_RX3 mk_RX12_27 im_X3_init rfl rfl rfl (by decide +kernel) ⟨Nat.le_of_ble_eq_true rfl, Nat.le_of_ble_eq_true rfl⟩ rfl rfl (Nat.le_of_ble_eq_true rfl) ⟨Nat.le_of_ble_eq_true rfl, Nat.le_of_ble_eq_true rfl⟩ dX12_init_202 (fun H locs hz hW => ?_)
  have hz : H.size = a + 146 := hz
  obtain ⟨h137, hf⟩ := ck_elim hf
  have h137 := of_decide_eq_true h137
  obtain ⟨h138, hf⟩ := ck_elim hf
  have h138 := of_decide_eq_true h138
  obtain ⟨h139, hf⟩ := ck_elim hf
  refine m_aast hM hW h137 h138 h139 dX12_init_205 (fun S136 eS136 H locs hz9 hW => ?_)
  have hf := nm_at eS136 hf
  have hz : H.size = a + 146 := hz9.trans hz
  exact t_X12_init_g9 hM hml hr hlk hin2 hs0 hf _ _ hW hz _ (lv_sub hl [0, 1] rfl)
noncomputable def f_X12_init_g7 (fu : Nat) (G : GG) (S : ST) (a : Nat) : Option ST :=
  ck (decide (gC (S a) = 23)) <|
  bd (gR (S a) 4) fun q108 =>
  nm (st S (a + 118) (rawo 2)) fun S110 =>
  bd (f_X3_init fu G S110 (a + 118)) fun S111 =>
  ck (decide (gC (S111 q108) = 29)) <|
  ck (decide (gC (S111 (a + 118)) = 3)) <|
  ck (inb (5 : Int32) (gN (S111 q108) 0)) <|
  nm (st S111 q108 (sQ (S111 q108) 0 (5 : Int32).toNatClampNeg (some (a + 118)))) fun S112 =>
  ck (decide (gC (S112 a) = 23)) <|
  bd (gR (S112 a) 4) fun q116 =>
  nm (st S112 (a + 125) (rawo 2)) fun S118 =>
  bd (f_X3_init fu G S118 (a + 125)) fun S119 =>
  ck (decide (gC (S119 q116) = 29)) <|
  ck (decide (gC (S119 (a + 125)) = 3)) <|
  ck (inb (6 : Int32) (gN (S119 q116) 0)) <|
  nm (st S119 q116 (sQ (S119 q116) 0 (6 : Int32).toNatClampNeg (some (a + 125)))) fun S120 =>
  f_X12_init_g8 fu G S120 a
set_option maxHeartbeats 40000000 in
set_option maxRecDepth 100000 in
theorem t_X12_init_g7 {G : GG} {p : Program} {l : Launch} {e : Env} {s : State} {m : MethodId} {args : Array Value} {below : List Frame} {meth : Method} {c : Code} {S : ST} {fu a : Nat} {z : ST} (hM : MC G p s m args c cX12_init w_X12_init RX12) (hml : c.maxLocals = 2) (hr : meth.sig.returnType = none) (hlk : meth.locks = false) (hin2 : meth.name = "<init>") (hs0 : s.heap.size = a + 1) (hf : f_X12_init_g7 fu G S a = some z) : ∀ (H : Heap) (locs : List Loc), WB G S s H locs → H.size = a + 118 → ∀ (ls : Array Slot), lv_has ls 2 [(1, .int (4 : Int32)), (0, .ref a)] → W p l e RM_X12_init s m args below meth c H locs 117 6297 (QN G below args s none z (a + 230) 229 7225) (F0 m 206 ls []) := by
  intro H locs hW hz ls hl
  have hx := hM.1
  have hb := hM.2.1
  unfold f_X12_init_g7 at hf
  refine lv_iinc (v := (5 : Int32)) (lv' := [(1, .int (5 : Int32)), (0, .ref a)]) hx hb dX12_init_206 hl (k := 0) rfl (by decide) (by decide) rfl (fun ls hl => ?_)
  refine lv_goto (tgt := 187) hx hb dX12_init_209 (by decide) ?_
  refine lv_iload_n hx hb dX12_init_187 rfl (lv_at hl 0 rfl) ?_
  refine lv_bipush (v := (17 : Int32)) hx hb dX12_init_188 (by decide) ?_
  refine lv_icmp_ge (tgt := 212) hx hb dX12_init_190 (by decide) (fun c9 => absurd c9 (by decide)) (fun _ => ?_)
  refine lv_aload_n hx hb dX12_init_193 rfl (lv_at hl 1 rfl) ?_
  obtain ⟨h109, hf⟩ := ck_elim hf
  have h109 := of_decide_eq_true h109
  obtain ⟨q108, hq108, hf⟩ := bd_elim hf
  refine b_get hM (hW.at_ a) 22 4 h109 rfl rfl (by decide) wi_X12 (wgm fk_RX12_35) (x := .ref q108) (by show va_rf _ = _; rw [hq108]; rfl) dX12_init_194 ?_
  refine lv_iload_n hx hb dX12_init_197 rfl (lv_at hl 0 rfl) ?_
  refine m_new hM hW hz 2 (by decide) rfl rfl wi_X3 tyX3 tyX3_ok (by decide +kernel) (wgm kc_RX12_25) (wgm is_RX3) (wgm it_RX3) (Nat.le_of_ble_eq_true rfl) (Nat.le_of_ble_eq_true rfl) dX12_init_198 (fun S110 eS110 hk hg9 H hz hW => ?_)
  have hf := nm_at eS110 hf
  have hz : H.size = a + 119 := hz
  refine lv_dup hx hb dX12_init_201 rfl ?_
  obtain ⟨S111, hS111, hf⟩ := bd_elim hf
  refine n_init (np := 0) [] [.ref (a + 118), .int (5 : Int32), .ref q108] hM hml hl.1 hW hz (c_X3_init l G fu _ (a + 118) hS111) rfl cd_X3_init it_RX3 mk_RX12_27 im_X3_init rfl rfl rfl (by decide +kernel) ⟨Nat.le_of_ble_eq_true rfl, Nat.le_of_ble_eq_true rfl⟩ rfl rfl (Nat.le_of_ble_eq_true rfl) ⟨Nat.le_of_ble_eq_true rfl, Nat.le_of_ble_eq_true rfl⟩ dX12_init_202 (fun H locs hz hW => ?_)
  have hz : H.size = a + 125 := hz
  obtain ⟨h113, hf⟩ := ck_elim hf
  have h113 := of_decide_eq_true h113
  obtain ⟨h114, hf⟩ := ck_elim hf
  have h114 := of_decide_eq_true h114
  obtain ⟨h115, hf⟩ := ck_elim hf
  refine m_aast hM hW h113 h114 h115 dX12_init_205 (fun S112 eS112 H locs hz9 hW => ?_)
  have hf := nm_at eS112 hf
  have hz : H.size = a + 125 := hz9.trans hz
  refine lv_iinc (v := (6 : Int32)) (lv' := [(1, .int (6 : Int32)), (0, .ref a)]) hx hb dX12_init_206 hl (k := 0) rfl (by decide) (by decide) rfl (fun ls hl => ?_)
  refine lv_goto (tgt := 187) hx hb dX12_init_209 (by decide) ?_
  refine lv_iload_n hx hb dX12_init_187 rfl (lv_at hl 0 rfl) ?_
  refine lv_bipush (v := (17 : Int32)) hx hb dX12_init_188 (by decide) ?_
  refine lv_icmp_ge (tgt := 212) hx hb dX12_init_190 (by decide) (fun c9 => absurd c9 (by decide)) (fun _ => ?_)
  refine lv_aload_n hx hb dX12_init_193 rfl (lv_at hl 1 rfl) ?_
  obtain ⟨h117, hf⟩ := ck_elim hf
  have h117 := of_decide_eq_true h117
  obtain ⟨q116, hq116, hf⟩ := bd_elim hf
  refine b_get hM (hW.at_ a) 22 4 h117 rfl rfl (by decide) wi_X12 (wgm fk_RX12_35) (x := .ref q116) (by show va_rf _ = _; rw [hq116]; rfl) dX12_init_194 ?_
  refine lv_iload_n hx hb dX12_init_197 rfl (lv_at hl 0 rfl) ?_
  refine m_new hM hW hz 2 (by decide) rfl rfl wi_X3 tyX3 tyX3_ok (by decide +kernel) (wgm kc_RX12_25) (wgm is_RX3) (wgm it_RX3) (Nat.le_of_ble_eq_true rfl) (Nat.le_of_ble_eq_true rfl) dX12_init_198 (fun S118 eS118 hk hg9 H hz hW => ?_)
  have hf := nm_at eS118 hf
  have hz : H.size = a + 126 := hz
  refine lv_dup hx hb dX12_init_201 rfl ?_
  obtain ⟨S119, hS119, hf⟩ := bd_elim hf
  refine n_init (np := 0) [] [.ref (a + 125), .int (6 : Int32), .ref q116] hM hml hl.1 hW hz (c_X3_init l G fu _ (a + 125) hS119) rfl cd_X3_init it_RX3 mk_RX12_27 im_X3_init rfl rfl rfl (by decide +kernel) ⟨Nat.le_of_ble_eq_true rfl, Nat.le_of_ble_eq_true rfl⟩ rfl rfl (Nat.le_of_ble_eq_true rfl) ⟨Nat.le_of_ble_eq_true rfl, Nat.le_of_ble_eq_true rfl⟩ dX12_init_202 (fun H locs hz hW => ?_)
  have hz : H.size = a + 132 := hz
  obtain ⟨h121, hf⟩ := ck_elim hf
  have h121 := of_decide_eq_true h121
  obtain ⟨h122, hf⟩ := ck_elim hf
  have h122 := of_decide_eq_true h122
  obtain ⟨h123, hf⟩ := ck_elim hf
  refine m_aast hM hW h121 h122 h123 dX12_init_205 (fun S120 eS120 H locs hz9 hW => ?_)
  have hf := nm_at eS120 hf
  have hz : H.size = a + 132 := hz9.trans hz
  exact t_X12_init_g8 hM hml hr hlk hin2 hs0 hf _ _ hW hz _ (lv_sub hl [0, 1] rfl)
noncomputable def f_X12_init_g6 (fu : Nat) (G : GG) (S : ST) (a : Nat) : Option ST :=
  ck (decide (gC (S a) = 23)) <|
  bd (gR (S a) 4) fun q92 =>
  nm (st S (a + 104) (rawo 2)) fun S94 =>
  bd (f_X3_init fu G S94 (a + 104)) fun S95 =>
  ck (decide (gC (S95 q92) = 29)) <|
  ck (decide (gC (S95 (a + 104)) = 3)) <|
  ck (inb (3 : Int32) (gN (S95 q92) 0)) <|
  nm (st S95 q92 (sQ (S95 q92) 0 (3 : Int32).toNatClampNeg (some (a + 104)))) fun S96 =>
  ck (decide (gC (S96 a) = 23)) <|
  bd (gR (S96 a) 4) fun q100 =>
  nm (st S96 (a + 111) (rawo 2)) fun S102 =>
  bd (f_X3_init fu G S102 (a + 111)) fun S103 =>
  ck (decide (gC (S103 q100) = 29)) <|
  ck (decide (gC (S103 (a + 111)) = 3)) <|
  ck (inb (4 : Int32) (gN (S103 q100) 0)) <|
  nm (st S103 q100 (sQ (S103 q100) 0 (4 : Int32).toNatClampNeg (some (a + 111)))) fun S104 =>
  f_X12_init_g7 fu G S104 a
set_option maxHeartbeats 40000000 in
set_option maxRecDepth 100000 in
theorem t_X12_init_g6 {G : GG} {p : Program} {l : Launch} {e : Env} {s : State} {m : MethodId} {args : Array Value} {below : List Frame} {meth : Method} {c : Code} {S : ST} {fu a : Nat} {z : ST} (hM : MC G p s m args c cX12_init w_X12_init RX12) (hml : c.maxLocals = 2) (hr : meth.sig.returnType = none) (hlk : meth.locks = false) (hin2 : meth.name = "<init>") (hs0 : s.heap.size = a + 1) (hf : f_X12_init_g6 fu G S a = some z) : ∀ (H : Heap) (locs : List Loc), WB G S s H locs → H.size = a + 104 → ∀ (ls : Array Slot), lv_has ls 2 [(1, .int (2 : Int32)), (0, .ref a)] → W p l e RM_X12_init s m args below meth c H locs 103 6181 (QN G below args s none z (a + 230) 229 7225) (F0 m 206 ls []) := by
  intro H locs hW hz ls hl
  have hx := hM.1
  have hb := hM.2.1
  unfold f_X12_init_g6 at hf
  refine lv_iinc (v := (3 : Int32)) (lv' := [(1, .int (3 : Int32)), (0, .ref a)]) hx hb dX12_init_206 hl (k := 0) rfl (by decide) (by decide) rfl (fun ls hl => ?_)
  refine lv_goto (tgt := 187) hx hb dX12_init_209 (by decide) ?_
  refine lv_iload_n hx hb dX12_init_187 rfl (lv_at hl 0 rfl) ?_
  refine lv_bipush (v := (17 : Int32)) hx hb dX12_init_188 (by decide) ?_
  refine lv_icmp_ge (tgt := 212) hx hb dX12_init_190 (by decide) (fun c9 => absurd c9 (by decide)) (fun _ => ?_)
  refine lv_aload_n hx hb dX12_init_193 rfl (lv_at hl 1 rfl) ?_
  obtain ⟨h93, hf⟩ := ck_elim hf
  have h93 := of_decide_eq_true h93
  obtain ⟨q92, hq92, hf⟩ := bd_elim hf
  refine b_get hM (hW.at_ a) 22 4 h93 rfl rfl (by decide) wi_X12 (wgm fk_RX12_35) (x := .ref q92) (by show va_rf _ = _; rw [hq92]; rfl) dX12_init_194 ?_
  refine lv_iload_n hx hb dX12_init_197 rfl (lv_at hl 0 rfl) ?_
  refine m_new hM hW hz 2 (by decide) rfl rfl wi_X3 tyX3 tyX3_ok (by decide +kernel) (wgm kc_RX12_25) (wgm is_RX3) (wgm it_RX3) (Nat.le_of_ble_eq_true rfl) (Nat.le_of_ble_eq_true rfl) dX12_init_198 (fun S94 eS94 hk hg9 H hz hW => ?_)
  have hf := nm_at eS94 hf
  have hz : H.size = a + 105 := hz
  refine lv_dup hx hb dX12_init_201 rfl ?_
  obtain ⟨S95, hS95, hf⟩ := bd_elim hf
  refine n_init (np := 0) [] [.ref (a + 104), .int (3 : Int32), .ref q92] hM hml hl.1 hW hz (c_X3_init l G fu _ (a + 104) hS95) rfl cd_X3_init it_RX3 mk_RX12_27 im_X3_init rfl rfl rfl (by decide +kernel) ⟨Nat.le_of_ble_eq_true rfl, Nat.le_of_ble_eq_true rfl⟩ rfl rfl (Nat.le_of_ble_eq_true rfl) ⟨Nat.le_of_ble_eq_true rfl, Nat.le_of_ble_eq_true rfl⟩ dX12_init_202 (fun H locs hz hW => ?_)
  have hz : H.size = a + 111 := hz
  obtain ⟨h97, hf⟩ := ck_elim hf
  have h97 := of_decide_eq_true h97
  obtain ⟨h98, hf⟩ := ck_elim hf
  have h98 := of_decide_eq_true h98
  obtain ⟨h99, hf⟩ := ck_elim hf
  refine m_aast hM hW h97 h98 h99 dX12_init_205 (fun S96 eS96 H locs hz9 hW => ?_)
  have hf := nm_at eS96 hf
  have hz : H.size = a + 111 := hz9.trans hz
  refine lv_iinc (v := (4 : Int32)) (lv' := [(1, .int (4 : Int32)), (0, .ref a)]) hx hb dX12_init_206 hl (k := 0) rfl (by decide) (by decide) rfl (fun ls hl => ?_)
  refine lv_goto (tgt := 187) hx hb dX12_init_209 (by decide) ?_
  refine lv_iload_n hx hb dX12_init_187 rfl (lv_at hl 0 rfl) ?_
  refine lv_bipush (v := (17 : Int32)) hx hb dX12_init_188 (by decide) ?_
  refine lv_icmp_ge (tgt := 212) hx hb dX12_init_190 (by decide) (fun c9 => absurd c9 (by decide)) (fun _ => ?_)
  refine lv_aload_n hx hb dX12_init_193 rfl (lv_at hl 1 rfl) ?_
  obtain ⟨h101, hf⟩ := ck_elim hf
  have h101 := of_decide_eq_true h101
  obtain ⟨q100, hq100, hf⟩ := bd_elim hf
  refine b_get hM (hW.at_ a) 22 4 h101 rfl rfl (by decide) wi_X12 (wgm fk_RX12_35) (x := .ref q100) (by show va_rf _ = _; rw [hq100]; rfl) dX12_init_194 ?_
  refine lv_iload_n hx hb dX12_init_197 rfl (lv_at hl 0 rfl) ?_
  refine m_new hM hW hz 2 (by decide) rfl rfl wi_X3 tyX3 tyX3_ok (by decide +kernel) (wgm kc_RX12_25) (wgm is_RX3) (wgm it_RX3) (Nat.le_of_ble_eq_true rfl) (Nat.le_of_ble_eq_true rfl) dX12_init_198 (fun S102 eS102 hk hg9 H hz hW => ?_)
  have hf := nm_at eS102 hf
  have hz : H.size = a + 112 := hz
  refine lv_dup hx hb dX12_init_201 rfl ?_
  obtain ⟨S103, hS103, hf⟩ := bd_elim hf
  refine n_init (np := 0) [] [.ref (a + 111), .int (4 : Int32), .ref q100] hM hml hl.1 hW hz (c_X3_init l G fu _ (a + 111) hS103) rfl cd_X3_init it_RX3 mk_RX12_27 im_X3_init rfl rfl rfl (by decide +kernel) ⟨Nat.le_of_ble_eq_true rfl, Nat.le_of_ble_eq_true rfl⟩ rfl rfl (Nat.le_of_ble_eq_true rfl) ⟨Nat.le_of_ble_eq_true rfl, Nat.le_of_ble_eq_true rfl⟩ dX12_init_202 (fun H locs hz hW => ?_)
  have hz : H.size = a + 118 := hz
  obtain ⟨h105, hf⟩ := ck_elim hf
  have h105 := of_decide_eq_true h105
  obtain ⟨h106, hf⟩ := ck_elim hf
  have h106 := of_decide_eq_true h106
  obtain ⟨h107, hf⟩ := ck_elim hf
  refine m_aast hM hW h105 h106 h107 dX12_init_205 (fun S104 eS104 H locs hz9 hW => ?_)
  have hf := nm_at eS104 hf
  have hz : H.size = a + 118 := hz9.trans hz
  exact t_X12_init_g7 hM hml hr hlk hin2 hs0 hf _ _ hW hz _ (lv_sub hl [0, 1] rfl)
noncomputable def f_X12_init_g5 (fu : Nat) (G : GG) (S : ST) (a : Nat) : Option ST :=
  ck (decide (gC (S a) = 23)) <|
  bd (gR (S a) 4) fun q76 =>
  nm (st S (a + 90) (rawo 2)) fun S78 =>
  bd (f_X3_init fu G S78 (a + 90)) fun S79 =>
  ck (decide (gC (S79 q76) = 29)) <|
  ck (decide (gC (S79 (a + 90)) = 3)) <|
  ck (inb (1 : Int32) (gN (S79 q76) 0)) <|
  nm (st S79 q76 (sQ (S79 q76) 0 (1 : Int32).toNatClampNeg (some (a + 90)))) fun S80 =>
  ck (decide (gC (S80 a) = 23)) <|
  bd (gR (S80 a) 4) fun q84 =>
  nm (st S80 (a + 97) (rawo 2)) fun S86 =>
  bd (f_X3_init fu G S86 (a + 97)) fun S87 =>
  ck (decide (gC (S87 q84) = 29)) <|
  ck (decide (gC (S87 (a + 97)) = 3)) <|
  ck (inb (2 : Int32) (gN (S87 q84) 0)) <|
  nm (st S87 q84 (sQ (S87 q84) 0 (2 : Int32).toNatClampNeg (some (a + 97)))) fun S88 =>
  f_X12_init_g6 fu G S88 a
set_option maxHeartbeats 40000000 in
set_option maxRecDepth 100000 in
theorem t_X12_init_g5 {G : GG} {p : Program} {l : Launch} {e : Env} {s : State} {m : MethodId} {args : Array Value} {below : List Frame} {meth : Method} {c : Code} {S : ST} {fu a : Nat} {z : ST} (hM : MC G p s m args c cX12_init w_X12_init RX12) (hml : c.maxLocals = 2) (hr : meth.sig.returnType = none) (hlk : meth.locks = false) (hin2 : meth.name = "<init>") (hs0 : s.heap.size = a + 1) (hf : f_X12_init_g5 fu G S a = some z) : ∀ (H : Heap) (locs : List Loc), WB G S s H locs → H.size = a + 90 → ∀ (ls : Array Slot), lv_has ls 2 [(1, .int (0 : Int32)), (0, .ref a)] → W p l e RM_X12_init s m args below meth c H locs 89 6065 (QN G below args s none z (a + 230) 229 7225) (F0 m 206 ls []) := by
  intro H locs hW hz ls hl
  have hx := hM.1
  have hb := hM.2.1
  unfold f_X12_init_g5 at hf
  refine lv_iinc (v := (1 : Int32)) (lv' := [(1, .int (1 : Int32)), (0, .ref a)]) hx hb dX12_init_206 hl (k := 0) rfl (by decide) (by decide) rfl (fun ls hl => ?_)
  refine lv_goto (tgt := 187) hx hb dX12_init_209 (by decide) ?_
  refine lv_iload_n hx hb dX12_init_187 rfl (lv_at hl 0 rfl) ?_
  refine lv_bipush (v := (17 : Int32)) hx hb dX12_init_188 (by decide) ?_
  refine lv_icmp_ge (tgt := 212) hx hb dX12_init_190 (by decide) (fun c9 => absurd c9 (by decide)) (fun _ => ?_)
  refine lv_aload_n hx hb dX12_init_193 rfl (lv_at hl 1 rfl) ?_
  obtain ⟨h77, hf⟩ := ck_elim hf
  have h77 := of_decide_eq_true h77
  obtain ⟨q76, hq76, hf⟩ := bd_elim hf
  refine b_get hM (hW.at_ a) 22 4 h77 rfl rfl (by decide) wi_X12 (wgm fk_RX12_35) (x := .ref q76) (by show va_rf _ = _; rw [hq76]; rfl) dX12_init_194 ?_
  refine lv_iload_n hx hb dX12_init_197 rfl (lv_at hl 0 rfl) ?_
  refine m_new hM hW hz 2 (by decide) rfl rfl wi_X3 tyX3 tyX3_ok (by decide +kernel) (wgm kc_RX12_25) (wgm is_RX3) (wgm it_RX3) (Nat.le_of_ble_eq_true rfl) (Nat.le_of_ble_eq_true rfl) dX12_init_198 (fun S78 eS78 hk hg9 H hz hW => ?_)
  have hf := nm_at eS78 hf
  have hz : H.size = a + 91 := hz
  refine lv_dup hx hb dX12_init_201 rfl ?_
  obtain ⟨S79, hS79, hf⟩ := bd_elim hf
  refine n_init (np := 0) [] [.ref (a + 90), .int (1 : Int32), .ref q76] hM hml hl.1 hW hz (c_X3_init l G fu _ (a + 90) hS79) rfl cd_X3_init it_RX3 mk_RX12_27 im_X3_init rfl rfl rfl (by decide +kernel) ⟨Nat.le_of_ble_eq_true rfl, Nat.le_of_ble_eq_true rfl⟩ rfl rfl (Nat.le_of_ble_eq_true rfl) ⟨Nat.le_of_ble_eq_true rfl, Nat.le_of_ble_eq_true rfl⟩ dX12_init_202 (fun H locs hz hW => ?_)
  have hz : H.size = a + 97 := hz
  obtain ⟨h81, hf⟩ := ck_elim hf
  have h81 := of_decide_eq_true h81
  obtain ⟨h82, hf⟩ := ck_elim hf
  have h82 := of_decide_eq_true h82
  obtain ⟨h83, hf⟩ := ck_elim hf
  refine m_aast hM hW h81 h82 h83 dX12_init_205 (fun S80 eS80 H locs hz9 hW => ?_)
  have hf := nm_at eS80 hf
  have hz : H.size = a + 97 := hz9.trans hz
  refine lv_iinc (v := (2 : Int32)) (lv' := [(1, .int (2 : Int32)), (0, .ref a)]) hx hb dX12_init_206 hl (k := 0) rfl (by decide) (by decide) rfl (fun ls hl => ?_)
  refine lv_goto (tgt := 187) hx hb dX12_init_209 (by decide) ?_
  refine lv_iload_n hx hb dX12_init_187 rfl (lv_at hl 0 rfl) ?_
  refine lv_bipush (v := (17 : Int32)) hx hb dX12_init_188 (by decide) ?_
  refine lv_icmp_ge (tgt := 212) hx hb dX12_init_190 (by decide) (fun c9 => absurd c9 (by decide)) (fun _ => ?_)
  refine lv_aload_n hx hb dX12_init_193 rfl (lv_at hl 1 rfl) ?_
  obtain ⟨h85, hf⟩ := ck_elim hf
  have h85 := of_decide_eq_true h85
  obtain ⟨q84, hq84, hf⟩ := bd_elim hf
  refine b_get hM (hW.at_ a) 22 4 h85 rfl rfl (by decide) wi_X12 (wgm fk_RX12_35) (x := .ref q84) (by show va_rf _ = _; rw [hq84]; rfl) dX12_init_194 ?_
  refine lv_iload_n hx hb dX12_init_197 rfl (lv_at hl 0 rfl) ?_
  refine m_new hM hW hz 2 (by decide) rfl rfl wi_X3 tyX3 tyX3_ok (by decide +kernel) (wgm kc_RX12_25) (wgm is_RX3) (wgm it_RX3) (Nat.le_of_ble_eq_true rfl) (Nat.le_of_ble_eq_true rfl) dX12_init_198 (fun S86 eS86 hk hg9 H hz hW => ?_)
  have hf := nm_at eS86 hf
  have hz : H.size = a + 98 := hz
  refine lv_dup hx hb dX12_init_201 rfl ?_
  obtain ⟨S87, hS87, hf⟩ := bd_elim hf
  refine n_init (np := 0) [] [.ref (a + 97), .int (2 : Int32), .ref q84] hM hml hl.1 hW hz (c_X3_init l G fu _ (a + 97) hS87) rfl cd_X3_init it_RX3 mk_RX12_27 im_X3_init rfl rfl rfl (by decide +kernel) ⟨Nat.le_of_ble_eq_true rfl, Nat.le_of_ble_eq_true rfl⟩ rfl rfl (Nat.le_of_ble_eq_true rfl) ⟨Nat.le_of_ble_eq_true rfl, Nat.le_of_ble_eq_true rfl⟩ dX12_init_202 (fun H locs hz hW => ?_)
  have hz : H.size = a + 104 := hz
  obtain ⟨h89, hf⟩ := ck_elim hf
  have h89 := of_decide_eq_true h89
  obtain ⟨h90, hf⟩ := ck_elim hf
  have h90 := of_decide_eq_true h90
  obtain ⟨h91, hf⟩ := ck_elim hf
  refine m_aast hM hW h89 h90 h91 dX12_init_205 (fun S88 eS88 H locs hz9 hW => ?_)
  have hf := nm_at eS88 hf
  have hz : H.size = a + 104 := hz9.trans hz
  exact t_X12_init_g6 hM hml hr hlk hin2 hs0 hf _ _ hW hz _ (lv_sub hl [0, 1] rfl)
noncomputable def f_X12_init_g4 (fu : Nat) (G : GG) (S : ST) (a : Nat) : Option ST :=
  nm (st S (a + 78) (rawo 5)) fun S58 =>
  bd (f_X6_init fu G S58 (a + 78)) fun S59 =>
  ck (decide (gC (S59 a) = 23)) <|
  nm (st S59 a (sR (S59 a) 15 (some (a + 78)))) fun S60 =>
  ck (decide (gC (S60 a) = 23)) <|
  nm (st S60 a (sI (S60 a) 16 (0 : Int32))) fun S62 =>
  ck (decide (gC (S62 a) = 23)) <|
  nm (st S62 a (sI (S62 a) 17 (0 : Int32))) fun S64 =>
  ck (decide (gC (S64 a) = 23)) <|
  nm (st S64 a (sI (S64 a) 18 (0 : Int32))) fun S66 =>
  ck (decide (gC (S66 a) = 23)) <|
  bd (gR (S66 a) 4) fun q68 =>
  nm (st S66 (a + 83) (rawo 2)) fun S70 =>
  bd (f_X3_init fu G S70 (a + 83)) fun S71 =>
  ck (decide (gC (S71 q68) = 29)) <|
  ck (decide (gC (S71 (a + 83)) = 3)) <|
  ck (inb (0 : Int32) (gN (S71 q68) 0)) <|
  nm (st S71 q68 (sQ (S71 q68) 0 (0 : Int32).toNatClampNeg (some (a + 83)))) fun S72 =>
  f_X12_init_g5 fu G S72 a
set_option maxHeartbeats 40000000 in
set_option maxRecDepth 100000 in
theorem t_X12_init_g4 {G : GG} {p : Program} {l : Launch} {e : Env} {s : State} {m : MethodId} {args : Array Value} {below : List Frame} {meth : Method} {c : Code} {S : ST} {fu a : Nat} {z : ST} (hM : MC G p s m args c cX12_init w_X12_init RX12) (hml : c.maxLocals = 2) (hr : meth.sig.returnType = none) (hlk : meth.locks = false) (hin2 : meth.name = "<init>") (hs0 : s.heap.size = a + 1) (hf : f_X12_init_g4 fu G S a = some z) : ∀ (H : Heap) (locs : List Loc), WB G S s H locs → H.size = a + 78 → ∀ (ls : Array Slot), lv_has ls 2 [(0, .ref a)] → W p l e RM_X12_init s m args below meth c H locs 77 5882 (QN G below args s none z (a + 230) 229 7225) (F0 m 159 ls []) := by
  intro H locs hW hz ls hl
  have hx := hM.1
  have hb := hM.2.1
  unfold f_X12_init_g4 at hf
  refine lv_aload_n hx hb dX12_init_159 rfl (lv_at hl 0 rfl) ?_
  refine m_new hM hW hz 5 (by decide) rfl rfl wi_X6 tyX6 tyX6_ok (by decide +kernel) (wgm kc_RX12_83) (wgm is_RX6) (wgm it_RX6) (Nat.le_of_ble_eq_true rfl) (Nat.le_of_ble_eq_true rfl) dX12_init_160 (fun S58 eS58 hk hg9 H hz hW => ?_)
  have hf := nm_at eS58 hf
  have hz : H.size = a + 79 := hz
  refine lv_dup hx hb dX12_init_163 rfl ?_
  obtain ⟨S59, hS59, hf⟩ := bd_elim hf
  refine n_initN (np := 0) [] [.ref (a + 78), .ref a] hM hml hl.1 hW hz (c_X6_init l G fu _ (a + 78) hS59) rfl cd_X6_init it_RX6 (by decide +kernel) im_X6_init rfl rfl rfl (by decide +kernel) ⟨Nat.le_of_ble_eq_true rfl, Nat.le_of_ble_eq_true rfl⟩ rfl rfl (Nat.le_of_ble_eq_true rfl) ⟨Nat.le_of_ble_eq_true rfl, Nat.le_of_ble_eq_true rfl⟩ dX12_init_164 (fun H locs hz hW => ?_)
  have hz : H.size = a + 83 := hz
  obtain ⟨h61, hf⟩ := ck_elim hf
  have h61 := of_decide_eq_true h61
  refine n_putR hM  hW 22 15 h61 rfl rfl (by decide) wi_X12 tyX12 tyX12_ok nmX12 (wgm fk_RX12_90) rfl rfl (Or.inl ⟨_, rfl⟩) (some (a + 78)) rfl dX12_init_167 (fun S60 eS60 H locs hz9 hW => ?_)
  have hf := nm_at eS60 hf
  have hz : H.size = a + 83 := hz9.trans hz
  refine lv_aload_n hx hb dX12_init_170 rfl (lv_at hl 0 rfl) ?_
  refine lv_iconst (v := (0 : Int32)) hx hb dX12_init_171 (by decide) ?_
  obtain ⟨h63, hf⟩ := ck_elim hf
  have h63 := of_decide_eq_true h63
  refine n_putI hM  hW 22 16 h63 rfl rfl (by decide) wi_X12 tyX12 tyX12_ok nmX12 (wgm fk_RX12_93) rfl rfl rfl dX12_init_172 (fun S62 eS62 H locs hz9 hW => ?_)
  have hf := nm_at eS62 hf
  have hz : H.size = a + 83 := hz9.trans hz
  refine lv_aload_n hx hb dX12_init_175 rfl (lv_at hl 0 rfl) ?_
  refine lv_iconst (v := (0 : Int32)) hx hb dX12_init_176 (by decide) ?_
  obtain ⟨h65, hf⟩ := ck_elim hf
  have h65 := of_decide_eq_true h65
  refine n_putI hM  hW 22 17 h65 rfl rfl (by decide) wi_X12 tyX12 tyX12_ok nmX12 (wgm fk_RX12_97) rfl rfl rfl dX12_init_177 (fun S64 eS64 H locs hz9 hW => ?_)
  have hf := nm_at eS64 hf
  have hz : H.size = a + 83 := hz9.trans hz
  refine lv_aload_n hx hb dX12_init_180 rfl (lv_at hl 0 rfl) ?_
  refine lv_iconst (v := (0 : Int32)) hx hb dX12_init_181 (by decide) ?_
  obtain ⟨h67, hf⟩ := ck_elim hf
  have h67 := of_decide_eq_true h67
  refine n_putI hM  hW 22 18 h67 rfl rfl (by decide) wi_X12 tyX12 tyX12_ok nmX12 (wgm fk_RX12_100) rfl rfl rfl dX12_init_182 (fun S66 eS66 H locs hz9 hW => ?_)
  have hf := nm_at eS66 hf
  have hz : H.size = a + 83 := hz9.trans hz
  refine lv_iconst (v := (0 : Int32)) hx hb dX12_init_185 (by decide) ?_
  refine lv_istore_n (lv' := [(1, .int (0 : Int32)), (0, .ref a)]) hx hb dX12_init_186 rfl hl (by decide) rfl (fun ls hl => ?_)
  refine lv_iload_n hx hb dX12_init_187 rfl (lv_at hl 0 rfl) ?_
  refine lv_bipush (v := (17 : Int32)) hx hb dX12_init_188 (by decide) ?_
  refine lv_icmp_ge (tgt := 212) hx hb dX12_init_190 (by decide) (fun c9 => absurd c9 (by decide)) (fun _ => ?_)
  refine lv_aload_n hx hb dX12_init_193 rfl (lv_at hl 1 rfl) ?_
  obtain ⟨h69, hf⟩ := ck_elim hf
  have h69 := of_decide_eq_true h69
  obtain ⟨q68, hq68, hf⟩ := bd_elim hf
  refine b_get hM (hW.at_ a) 22 4 h69 rfl rfl (by decide) wi_X12 (wgm fk_RX12_35) (x := .ref q68) (by show va_rf _ = _; rw [hq68]; rfl) dX12_init_194 ?_
  refine lv_iload_n hx hb dX12_init_197 rfl (lv_at hl 0 rfl) ?_
  refine m_new hM hW hz 2 (by decide) rfl rfl wi_X3 tyX3 tyX3_ok (by decide +kernel) (wgm kc_RX12_25) (wgm is_RX3) (wgm it_RX3) (Nat.le_of_ble_eq_true rfl) (Nat.le_of_ble_eq_true rfl) dX12_init_198 (fun S70 eS70 hk hg9 H hz hW => ?_)
  have hf := nm_at eS70 hf
  have hz : H.size = a + 84 := hz
  refine lv_dup hx hb dX12_init_201 rfl ?_
  obtain ⟨S71, hS71, hf⟩ := bd_elim hf
  refine n_init (np := 0) [] [.ref (a + 83), .int (0 : Int32), .ref q68] hM hml hl.1 hW hz (c_X3_init l G fu _ (a + 83) hS71) rfl cd_X3_init it_RX3 mk_RX12_27 im_X3_init rfl rfl rfl (by decide +kernel) ⟨Nat.le_of_ble_eq_true rfl, Nat.le_of_ble_eq_true rfl⟩ rfl rfl (Nat.le_of_ble_eq_true rfl) ⟨Nat.le_of_ble_eq_true rfl, Nat.le_of_ble_eq_true rfl⟩ dX12_init_202 (fun H locs hz hW => ?_)
  have hz : H.size = a + 90 := hz
  obtain ⟨h73, hf⟩ := ck_elim hf
  have h73 := of_decide_eq_true h73
  obtain ⟨h74, hf⟩ := ck_elim hf
  have h74 := of_decide_eq_true h74
  obtain ⟨h75, hf⟩ := ck_elim hf
  refine m_aast hM hW h73 h74 h75 dX12_init_205 (fun S72 eS72 H locs hz9 hW => ?_)
  have hf := nm_at eS72 hf
  have hz : H.size = a + 90 := hz9.trans hz
  exact t_X12_init_g5 hM hml hr hlk hin2 hs0 hf _ _ hW hz _ (lv_sub hl [0, 1] rfl)
noncomputable def f_X12_init_g3 (fu : Nat) (G : GG) (S : ST) (a : Nat) : Option ST :=
  nm (st S (a + 42) (barr 1 9)) fun S43 =>
  ck (decide (gC (S43 a) = 23)) <|
  nm (st S43 a (sR (S43 a) 11 (some (a + 42)))) fun S44 =>
  nm (st S44 (a + 43) (rawo 0)) fun S46 =>
  bd (f_X1_init fu G S46 (a + 43)) fun S47 =>
  ck (decide (gC (S47 a) = 23)) <|
  nm (st S47 a (sR (S47 a) 12 (some (a + 43)))) fun S48 =>
  nm (st S48 (a + 58) (rawo 0)) fun S50 =>
  bd (f_X1_init fu G S50 (a + 58)) fun S51 =>
  ck (decide (gC (S51 a) = 23)) <|
  nm (st S51 a (sR (S51 a) 13 (some (a + 58)))) fun S52 =>
  nm (st S52 (a + 73) (rawo 5)) fun S54 =>
  bd (f_X6_init fu G S54 (a + 73)) fun S55 =>
  ck (decide (gC (S55 a) = 23)) <|
  nm (st S55 a (sR (S55 a) 14 (some (a + 73)))) fun S56 =>
  f_X12_init_g4 fu G S56 a
set_option maxHeartbeats 40000000 in
set_option maxRecDepth 100000 in
theorem t_X12_init_g3 {G : GG} {p : Program} {l : Launch} {e : Env} {s : State} {m : MethodId} {args : Array Value} {below : List Frame} {meth : Method} {c : Code} {S : ST} {fu a : Nat} {z : ST} (hM : MC G p s m args c cX12_init w_X12_init RX12) (hml : c.maxLocals = 2) (hr : meth.sig.returnType = none) (hlk : meth.locks = false) (hin2 : meth.name = "<init>") (hs0 : s.heap.size = a + 1) (hf : f_X12_init_g3 fu G S a = some z) : ∀ (H : Heap) (locs : List Loc), WB G S s H locs → H.size = a + 42 → ∀ (ls : Array Slot), lv_has ls 2 [(0, .ref a)] → W p l e RM_X12_init s m args below meth c H locs 41 5534 (QN G below args s none z (a + 230) 229 7225) (F0 m 118 ls []) := by
  intro H locs hW hz ls hl
  have hx := hM.1
  have hb := hM.2.1
  unfold f_X12_init_g3 at hf
  refine lv_aload_n hx hb dX12_init_118 rfl (lv_at hl 0 rfl) ?_
  refine lv_bipush (v := (9 : Int32)) hx hb dX12_init_119 (by decide) ?_
  refine m_newa hM hW hz 1 (by decide) rfl (wgm wd_ai) 9 (by decide) (by decide) (by decide) (Nat.le_of_ble_eq_true rfl) (Nat.le_of_ble_eq_true rfl) dX12_init_121 (fun S43 eS43 hk hg9 H hz hW => ?_)
  have hf := nm_at eS43 hf
  have hz : H.size = a + 43 := hz
  obtain ⟨h45, hf⟩ := ck_elim hf
  have h45 := of_decide_eq_true h45
  refine m_putFR hM hin2 hW 22 11 h45 rfl rfl (by decide) wi_X12 tyX12 tyX12_ok nmX12 (wgm fk_RX12_70) rfl rfl rfl (Or.inr ⟨_, rfl⟩) (a + 42) dX12_init_123 (fun S44 eS44 H locs hz9 hW => ?_)
  have hf := nm_at eS44 hf
  have hz : H.size = a + 43 := hz9.trans hz
  refine lv_aload_n hx hb dX12_init_126 rfl (lv_at hl 0 rfl) ?_
  refine m_new hM hW hz 0 (by decide) rfl rfl wi_X1 tyX1 tyX1_ok (by decide +kernel) (wgm kc_RX12_73) (wgm is_RX1) (wgm it_RX1) (Nat.le_of_ble_eq_true rfl) (Nat.le_of_ble_eq_true rfl) dX12_init_127 (fun S46 eS46 hk hg9 H hz hW => ?_)
  have hf := nm_at eS46 hf
  have hz : H.size = a + 44 := hz
  refine lv_dup hx hb dX12_init_130 rfl ?_
  obtain ⟨S47, hS47, hf⟩ := bd_elim hf
  refine n_initN (np := 0) [] [.ref (a + 43), .ref a] hM hml hl.1 hW hz (c_X1_init l G fu _ (a + 43) hS47) rfl cd_X1_init it_RX1 (by decide +kernel) im_X1_init rfl rfl rfl (by decide +kernel) ⟨Nat.le_of_ble_eq_true rfl, Nat.le_of_ble_eq_true rfl⟩ rfl rfl (Nat.le_of_ble_eq_true rfl) ⟨Nat.le_of_ble_eq_true rfl, Nat.le_of_ble_eq_true rfl⟩ dX12_init_131 (fun H locs hz hW => ?_)
  have hz : H.size = a + 58 := hz
  obtain ⟨h49, hf⟩ := ck_elim hf
  have h49 := of_decide_eq_true h49
  refine n_putR hM  hW 22 12 h49 rfl rfl (by decide) wi_X12 tyX12 tyX12_ok nmX12 (wgm fk_RX12_76) rfl rfl (Or.inl ⟨_, rfl⟩) (some (a + 43)) rfl dX12_init_134 (fun S48 eS48 H locs hz9 hW => ?_)
  have hf := nm_at eS48 hf
  have hz : H.size = a + 58 := hz9.trans hz
  refine lv_aload_n hx hb dX12_init_137 rfl (lv_at hl 0 rfl) ?_
  refine m_new hM hW hz 0 (by decide) rfl rfl wi_X1 tyX1 tyX1_ok (by decide +kernel) (wgm kc_RX12_73) (wgm is_RX1) (wgm it_RX1) (Nat.le_of_ble_eq_true rfl) (Nat.le_of_ble_eq_true rfl) dX12_init_138 (fun S50 eS50 hk hg9 H hz hW => ?_)
  have hf := nm_at eS50 hf
  have hz : H.size = a + 59 := hz
  refine lv_dup hx hb dX12_init_141 rfl ?_
  obtain ⟨S51, hS51, hf⟩ := bd_elim hf
  refine n_initN (np := 0) [] [.ref (a + 58), .ref a] hM hml hl.1 hW hz (c_X1_init l G fu _ (a + 58) hS51) rfl cd_X1_init it_RX1 (by decide +kernel) im_X1_init rfl rfl rfl (by decide +kernel) ⟨Nat.le_of_ble_eq_true rfl, Nat.le_of_ble_eq_true rfl⟩ rfl rfl (Nat.le_of_ble_eq_true rfl) ⟨Nat.le_of_ble_eq_true rfl, Nat.le_of_ble_eq_true rfl⟩ dX12_init_142 (fun H locs hz hW => ?_)
  have hz : H.size = a + 73 := hz
  obtain ⟨h53, hf⟩ := ck_elim hf
  have h53 := of_decide_eq_true h53
  refine n_putR hM  hW 22 13 h53 rfl rfl (by decide) wi_X12 tyX12 tyX12_ok nmX12 (wgm fk_RX12_80) rfl rfl (Or.inl ⟨_, rfl⟩) (some (a + 58)) rfl dX12_init_145 (fun S52 eS52 H locs hz9 hW => ?_)
  have hf := nm_at eS52 hf
  have hz : H.size = a + 73 := hz9.trans hz
  refine lv_aload_n hx hb dX12_init_148 rfl (lv_at hl 0 rfl) ?_
  refine m_new hM hW hz 5 (by decide) rfl rfl wi_X6 tyX6 tyX6_ok (by decide +kernel) (wgm kc_RX12_83) (wgm is_RX6) (wgm it_RX6) (Nat.le_of_ble_eq_true rfl) (Nat.le_of_ble_eq_true rfl) dX12_init_149 (fun S54 eS54 hk hg9 H hz hW => ?_)
  have hf := nm_at eS54 hf
  have hz : H.size = a + 74 := hz
  refine lv_dup hx hb dX12_init_152 rfl ?_
  obtain ⟨S55, hS55, hf⟩ := bd_elim hf
  refine n_initN (np := 0) [] [.ref (a + 73), .ref a] hM hml hl.1 hW hz (c_X6_init l G fu _ (a + 73) hS55) rfl cd_X6_init it_RX6 (by decide +kernel) im_X6_init rfl rfl rfl (by decide +kernel) ⟨Nat.le_of_ble_eq_true rfl, Nat.le_of_ble_eq_true rfl⟩ rfl rfl (Nat.le_of_ble_eq_true rfl) ⟨Nat.le_of_ble_eq_true rfl, Nat.le_of_ble_eq_true rfl⟩ dX12_init_153 (fun H locs hz hW => ?_)
  have hz : H.size = a + 78 := hz
  obtain ⟨h57, hf⟩ := ck_elim hf
  have h57 := of_decide_eq_true h57
  refine n_putR hM  hW 22 14 h57 rfl rfl (by decide) wi_X12 tyX12 tyX12_ok nmX12 (wgm fk_RX12_86) rfl rfl (Or.inl ⟨_, rfl⟩) (some (a + 73)) rfl dX12_init_156 (fun S56 eS56 H locs hz9 hW => ?_)
  have hf := nm_at eS56 hf
  have hz : H.size = a + 78 := hz9.trans hz
  exact t_X12_init_g4 hM hml hr hlk hin2 hs0 hf _ _ hW hz _ (lv_sub hl [0] rfl)
noncomputable def f_X12_init_g2 (fu : Nat) (G : GG) (S : ST) (a : Nat) : Option ST :=
  nm (st S (a + 29) (rawo 6)) fun S29 =>
  bd (f_X7_init fu G S29 (a + 29)) fun S30 =>
  ck (decide (gC (S30 a) = 23)) <|
  nm (st S30 a (sR (S30 a) 7 (some (a + 29)))) fun S31 =>
  nm (st S31 (a + 32) (rawo 9)) fun S33 =>
  bd (f_X11_init fu G S33 (a + 32)) fun S34 =>
  ck (decide (gC (S34 a) = 23)) <|
  nm (st S34 a (sR (S34 a) 8 (some (a + 32)))) fun S35 =>
  nm (st S35 (a + 40) (barr 1 32)) fun S37 =>
  ck (decide (gC (S37 a) = 23)) <|
  nm (st S37 a (sR (S37 a) 9 (some (a + 40)))) fun S38 =>
  nm (st S38 (a + 41) (barr 1 9)) fun S40 =>
  ck (decide (gC (S40 a) = 23)) <|
  nm (st S40 a (sR (S40 a) 10 (some (a + 41)))) fun S41 =>
  f_X12_init_g3 fu G S41 a
set_option maxHeartbeats 40000000 in
set_option maxRecDepth 100000 in
theorem t_X12_init_g2 {G : GG} {p : Program} {l : Launch} {e : Env} {s : State} {m : MethodId} {args : Array Value} {below : List Frame} {meth : Method} {c : Code} {S : ST} {fu a : Nat} {z : ST} (hM : MC G p s m args c cX12_init w_X12_init RX12) (hml : c.maxLocals = 2) (hr : meth.sig.returnType = none) (hlk : meth.locks = false) (hin2 : meth.name = "<init>") (hs0 : s.heap.size = a + 1) (hf : f_X12_init_g2 fu G S a = some z) : ∀ (H : Heap) (locs : List Loc), WB G S s H locs → H.size = a + 29 → ∀ (ls : Array Slot), lv_has ls 2 [(0, .ref a)] → W p l e RM_X12_init s m args below meth c H locs 28 5178 (QN G below args s none z (a + 230) 229 7225) (F0 m 80 ls []) := by
  intro H locs hW hz ls hl
  have hx := hM.1
  have hb := hM.2.1
  unfold f_X12_init_g2 at hf
  refine lv_aload_n hx hb dX12_init_80 rfl (lv_at hl 0 rfl) ?_
  refine m_new hM hW hz 6 (by decide) rfl rfl wi_X7 tyX7 tyX7_ok (by decide +kernel) (wgm kc_RX12_49) (wgm is_RX7) (wgm it_RX7) (Nat.le_of_ble_eq_true rfl) (Nat.le_of_ble_eq_true rfl) dX12_init_81 (fun S29 eS29 hk hg9 H hz hW => ?_)
  have hf := nm_at eS29 hf
  have hz : H.size = a + 30 := hz
  refine lv_dup hx hb dX12_init_84 rfl ?_
  obtain ⟨S30, hS30, hf⟩ := bd_elim hf
  refine n_initN (np := 0) [] [.ref (a + 29), .ref a] hM hml hl.1 hW hz (c_X7_init l G fu _ (a + 29) hS30) rfl cd_X7_init it_RX7 (by decide +kernel) im_X7_init rfl rfl rfl (by decide +kernel) ⟨Nat.le_of_ble_eq_true rfl, Nat.le_of_ble_eq_true rfl⟩ rfl rfl (Nat.le_of_ble_eq_true rfl) ⟨Nat.le_of_ble_eq_true rfl, Nat.le_of_ble_eq_true rfl⟩ dX12_init_85 (fun H locs hz hW => ?_)
  have hz : H.size = a + 32 := hz
  obtain ⟨h32, hf⟩ := ck_elim hf
  have h32 := of_decide_eq_true h32
  refine m_putFR hM hin2 hW 22 7 h32 rfl rfl (by decide) wi_X12 tyX12 tyX12_ok nmX12 (wgm fk_RX12_52) rfl rfl rfl (Or.inl ⟨_, rfl⟩) (a + 29) dX12_init_88 (fun S31 eS31 H locs hz9 hW => ?_)
  have hf := nm_at eS31 hf
  have hz : H.size = a + 32 := hz9.trans hz
  refine lv_aload_n hx hb dX12_init_91 rfl (lv_at hl 0 rfl) ?_
  refine m_new hM hW hz 9 (by decide) rfl rfl wi_X11 tyX11 tyX11_ok (by decide +kernel) (wgm kc_RX12_56) (wgm is_RX11) (wgm it_RX11) (Nat.le_of_ble_eq_true rfl) (Nat.le_of_ble_eq_true rfl) dX12_init_92 (fun S33 eS33 hk hg9 H hz hW => ?_)
  have hf := nm_at eS33 hf
  have hz : H.size = a + 33 := hz
  refine lv_dup hx hb dX12_init_95 rfl ?_
  obtain ⟨S34, hS34, hf⟩ := bd_elim hf
  refine n_initN (np := 0) [] [.ref (a + 32), .ref a] hM hml hl.1 hW hz (c_X11_init l G fu _ (a + 32) hS34) rfl cd_X11_init it_RX11 (by decide +kernel) im_X11_init rfl rfl rfl (by decide +kernel) ⟨Nat.le_of_ble_eq_true rfl, Nat.le_of_ble_eq_true rfl⟩ rfl rfl (Nat.le_of_ble_eq_true rfl) ⟨Nat.le_of_ble_eq_true rfl, Nat.le_of_ble_eq_true rfl⟩ dX12_init_96 (fun H locs hz hW => ?_)
  have hz : H.size = a + 40 := hz
  obtain ⟨h36, hf⟩ := ck_elim hf
  have h36 := of_decide_eq_true h36
  refine m_putFR hM hin2 hW 22 8 h36 rfl rfl (by decide) wi_X12 tyX12 tyX12_ok nmX12 (wgm fk_RX12_59) rfl rfl rfl (Or.inl ⟨_, rfl⟩) (a + 32) dX12_init_99 (fun S35 eS35 H locs hz9 hW => ?_)
  have hf := nm_at eS35 hf
  have hz : H.size = a + 40 := hz9.trans hz
  refine lv_aload_n hx hb dX12_init_102 rfl (lv_at hl 0 rfl) ?_
  refine lv_bipush (v := (32 : Int32)) hx hb dX12_init_103 (by decide) ?_
  refine m_newa hM hW hz 1 (by decide) rfl (wgm wd_ai) 32 (by decide) (by decide) (by decide) (Nat.le_of_ble_eq_true rfl) (Nat.le_of_ble_eq_true rfl) dX12_init_105 (fun S37 eS37 hk hg9 H hz hW => ?_)
  have hf := nm_at eS37 hf
  have hz : H.size = a + 41 := hz
  obtain ⟨h39, hf⟩ := ck_elim hf
  have h39 := of_decide_eq_true h39
  refine m_putFR hM hin2 hW 22 9 h39 rfl rfl (by decide) wi_X12 tyX12 tyX12_ok nmX12 (wgm fk_RX12_63) rfl rfl rfl (Or.inr ⟨_, rfl⟩) (a + 40) dX12_init_107 (fun S38 eS38 H locs hz9 hW => ?_)
  have hf := nm_at eS38 hf
  have hz : H.size = a + 41 := hz9.trans hz
  refine lv_aload_n hx hb dX12_init_110 rfl (lv_at hl 0 rfl) ?_
  refine lv_bipush (v := (9 : Int32)) hx hb dX12_init_111 (by decide) ?_
  refine m_newa hM hW hz 1 (by decide) rfl (wgm wd_ai) 9 (by decide) (by decide) (by decide) (Nat.le_of_ble_eq_true rfl) (Nat.le_of_ble_eq_true rfl) dX12_init_113 (fun S40 eS40 hk hg9 H hz hW => ?_)
  have hf := nm_at eS40 hf
  have hz : H.size = a + 42 := hz
  obtain ⟨h42, hf⟩ := ck_elim hf
  have h42 := of_decide_eq_true h42
  refine m_putFR hM hin2 hW 22 10 h42 rfl rfl (by decide) wi_X12 tyX12 tyX12_ok nmX12 (wgm fk_RX12_67) rfl rfl rfl (Or.inr ⟨_, rfl⟩) (a + 41) dX12_init_115 (fun S41 eS41 H locs hz9 hW => ?_)
  have hf := nm_at eS41 hf
  have hz : H.size = a + 42 := hz9.trans hz
  exact t_X12_init_g3 hM hml hr hlk hin2 hs0 hf _ _ hW hz _ (lv_sub hl [0] rfl)
noncomputable def f_X12_init_g1 (fu : Nat) (G : GG) (S : ST) (a : Nat) : Option ST :=
  nm (st S (a + 16) (rawo 2)) fun S15 =>
  bd (f_X3_init fu G S15 (a + 16)) fun S16 =>
  ck (decide (gC (S16 a) = 23)) <|
  nm (st S16 a (sR (S16 a) 3 (some (a + 16)))) fun S17 =>
  nm (st S17 (a + 23) (barr 5 17)) fun S19 =>
  ck (decide (gC (S19 a) = 23)) <|
  nm (st S19 a (sR (S19 a) 4 (some (a + 23)))) fun S20 =>
  nm (st S20 (a + 24) (barr 5 4)) fun S22 =>
  ck (decide (gC (S22 a) = 23)) <|
  nm (st S22 a (sR (S22 a) 5 (some (a + 24)))) fun S23 =>
  nm (st S23 (a + 25) (rawo 8)) fun S25 =>
  bd (f_X9_init fu G S25 (a + 25)) fun S26 =>
  ck (decide (gC (S26 a) = 23)) <|
  nm (st S26 a (sR (S26 a) 6 (some (a + 25)))) fun S27 =>
  f_X12_init_g2 fu G S27 a
set_option maxHeartbeats 40000000 in
set_option maxRecDepth 100000 in
theorem t_X12_init_g1 {G : GG} {p : Program} {l : Launch} {e : Env} {s : State} {m : MethodId} {args : Array Value} {below : List Frame} {meth : Method} {c : Code} {S : ST} {fu a : Nat} {z : ST} (hM : MC G p s m args c cX12_init w_X12_init RX12) (hml : c.maxLocals = 2) (hr : meth.sig.returnType = none) (hlk : meth.locks = false) (hin2 : meth.name = "<init>") (hs0 : s.heap.size = a + 1) (hf : f_X12_init_g1 fu G S a = some z) : ∀ (H : Heap) (locs : List Loc), WB G S s H locs → H.size = a + 16 → ∀ (ls : Array Slot), lv_has ls 2 [(0, .ref a)] → W p l e RM_X12_init s m args below meth c H locs 15 5075 (QN G below args s none z (a + 230) 229 7225) (F0 m 41 ls []) := by
  intro H locs hW hz ls hl
  have hx := hM.1
  have hb := hM.2.1
  unfold f_X12_init_g1 at hf
  refine lv_aload_n hx hb dX12_init_41 rfl (lv_at hl 0 rfl) ?_
  refine m_new hM hW hz 2 (by decide) rfl rfl wi_X3 tyX3 tyX3_ok (by decide +kernel) (wgm kc_RX12_25) (wgm is_RX3) (wgm it_RX3) (Nat.le_of_ble_eq_true rfl) (Nat.le_of_ble_eq_true rfl) dX12_init_42 (fun S15 eS15 hk hg9 H hz hW => ?_)
  have hf := nm_at eS15 hf
  have hz : H.size = a + 17 := hz
  refine lv_dup hx hb dX12_init_45 rfl ?_
  obtain ⟨S16, hS16, hf⟩ := bd_elim hf
  refine n_init (np := 0) [] [.ref (a + 16), .ref a] hM hml hl.1 hW hz (c_X3_init l G fu _ (a + 16) hS16) rfl cd_X3_init it_RX3 mk_RX12_27 im_X3_init rfl rfl rfl (by decide +kernel) ⟨Nat.le_of_ble_eq_true rfl, Nat.le_of_ble_eq_true rfl⟩ rfl rfl (Nat.le_of_ble_eq_true rfl) ⟨Nat.le_of_ble_eq_true rfl, Nat.le_of_ble_eq_true rfl⟩ dX12_init_46 (fun H locs hz hW => ?_)
  have hz : H.size = a + 23 := hz
  obtain ⟨h18, hf⟩ := ck_elim hf
  have h18 := of_decide_eq_true h18
  refine m_putFR hM hin2 hW 22 3 h18 rfl rfl (by decide) wi_X12 tyX12 tyX12_ok nmX12 (wgm fk_RX12_32) rfl rfl rfl (Or.inl ⟨_, rfl⟩) (a + 16) dX12_init_49 (fun S17 eS17 H locs hz9 hW => ?_)
  have hf := nm_at eS17 hf
  have hz : H.size = a + 23 := hz9.trans hz
  refine lv_aload_n hx hb dX12_init_52 rfl (lv_at hl 0 rfl) ?_
  refine lv_bipush (v := (17 : Int32)) hx hb dX12_init_53 (by decide) ?_
  refine m_newq hM hW hz (wgm kc_RX12_25) 17 (by decide) (by decide) (by decide) (Nat.le_of_ble_eq_true rfl) (Nat.le_of_ble_eq_true rfl) dX12_init_55 (fun S19 eS19 hk hg9 H hz hW => ?_)
  have hf := nm_at eS19 hf
  have hz : H.size = a + 24 := hz
  obtain ⟨h21, hf⟩ := ck_elim hf
  have h21 := of_decide_eq_true h21
  refine m_putFR hM hin2 hW 22 4 h21 rfl rfl (by decide) wi_X12 tyX12 tyX12_ok nmX12 (wgm fk_RX12_35) rfl rfl rfl (Or.inr ⟨_, rfl⟩) (a + 23) dX12_init_58 (fun S20 eS20 H locs hz9 hW => ?_)
  have hf := nm_at eS20 hf
  have hz : H.size = a + 24 := hz9.trans hz
  refine lv_aload_n hx hb dX12_init_61 rfl (lv_at hl 0 rfl) ?_
  refine lv_iconst (v := (4 : Int32)) hx hb dX12_init_62 (by decide) ?_
  refine m_newq hM hW hz (wgm kc_RX12_25) 4 (by decide) (by decide) (by decide) (Nat.le_of_ble_eq_true rfl) (Nat.le_of_ble_eq_true rfl) dX12_init_63 (fun S22 eS22 hk hg9 H hz hW => ?_)
  have hf := nm_at eS22 hf
  have hz : H.size = a + 25 := hz
  obtain ⟨h24, hf⟩ := ck_elim hf
  have h24 := of_decide_eq_true h24
  refine m_putFR hM hin2 hW 22 5 h24 rfl rfl (by decide) wi_X12 tyX12 tyX12_ok nmX12 (wgm fk_RX12_39) rfl rfl rfl (Or.inr ⟨_, rfl⟩) (a + 24) dX12_init_66 (fun S23 eS23 H locs hz9 hW => ?_)
  have hf := nm_at eS23 hf
  have hz : H.size = a + 25 := hz9.trans hz
  refine lv_aload_n hx hb dX12_init_69 rfl (lv_at hl 0 rfl) ?_
  refine m_new hM hW hz 8 (by decide) rfl rfl wi_X9 tyX9 tyX9_ok (by decide +kernel) (wgm kc_RX12_42) (wgm is_RX9) (wgm it_RX9) (Nat.le_of_ble_eq_true rfl) (Nat.le_of_ble_eq_true rfl) dX12_init_70 (fun S25 eS25 hk hg9 H hz hW => ?_)
  have hf := nm_at eS25 hf
  have hz : H.size = a + 26 := hz
  refine lv_dup hx hb dX12_init_73 rfl ?_
  obtain ⟨S26, hS26, hf⟩ := bd_elim hf
  refine n_initN (np := 0) [] [.ref (a + 25), .ref a] hM hml hl.1 hW hz (c_X9_init l G fu _ (a + 25) hS26) rfl cd_X9_init it_RX9 (by decide +kernel) im_X9_init rfl rfl rfl (by decide +kernel) ⟨Nat.le_of_ble_eq_true rfl, Nat.le_of_ble_eq_true rfl⟩ rfl rfl (Nat.le_of_ble_eq_true rfl) ⟨Nat.le_of_ble_eq_true rfl, Nat.le_of_ble_eq_true rfl⟩ dX12_init_74 (fun H locs hz hW => ?_)
  have hz : H.size = a + 29 := hz
  obtain ⟨h28, hf⟩ := ck_elim hf
  have h28 := of_decide_eq_true h28
  refine m_putFR hM hin2 hW 22 6 h28 rfl rfl (by decide) wi_X12 tyX12 tyX12_ok nmX12 (wgm fk_RX12_45) rfl rfl rfl (Or.inl ⟨_, rfl⟩) (a + 25) dX12_init_77 (fun S27 eS27 H locs hz9 hW => ?_)
  have hf := nm_at eS27 hf
  have hz : H.size = a + 29 := hz9.trans hz
  exact t_X12_init_g2 hM hml hr hlk hin2 hs0 hf _ _ hW hz _ (lv_sub hl [0] rfl)
noncomputable def f_X12_init (fu : Nat) (G : GG) (S : ST) (a : Nat) : Option ST :=
  nm (st S (a + 1) (rawo 7)) fun S1 =>
  bd (f_X8_init fu G S1 (a + 1)) fun S2 =>
  ck (decide (gC (S2 a) = 23)) <|
  nm (st S2 a (sR (S2 a) 0 (some (a + 1)))) fun S3 =>
  nm (st S3 (a + 6) (rawo 1)) fun S5 =>
  ck (decide (gC (S5 a) = 23)) <|
  bd (gR (S5 a) 0) fun q6 =>
  bd (f_X2_init fu G S5 (a + 6) q6) fun S8 =>
  ck (decide (gC (S8 a) = 23)) <|
  nm (st S8 a (sR (S8 a) 1 (some (a + 6)))) fun S9 =>
  nm (st S9 (a + 9) (rawo 2)) fun S11 =>
  bd (f_X3_init fu G S11 (a + 9)) fun S12 =>
  ck (decide (gC (S12 a) = 23)) <|
  nm (st S12 a (sR (S12 a) 2 (some (a + 9)))) fun S13 =>
  f_X12_init_g1 fu G S13 a
set_option maxHeartbeats 40000000 in
set_option maxRecDepth 100000 in
theorem c_X12_init (l : Launch) (G : GG) (fu : Nat) (S : ST) (a : Nat) {z : ST} (hf : f_X12_init fu G S a = some z) : Cn l yX12_init w_X12_init RM_X12_init G S (a + 1) [.ref a] none z (a + 230) 229 7225 := by
  refine Met.ofW (cc := cX12_init) (maxL := 2) (ret := none) (by decide) rfl ?_
  intro p e s m args below meth c s₁ B hml hv
  obtain ⟨rfl, hB, hK, hzw, hz⟩ := hv
  have hM : MC G p s m _ c cX12_init w_X12_init RX12 := ⟨B.exec, B.bytes, findClass_of_methodNamed B.named, atoms_spec (ws := w_X12_init) B.pre, hK, hzw⟩
  have hW : WB G S s s.heap [] := ⟨hB, va_S.rf⟩
  have hin2 : meth.name = "<init>" := (name_of_methodNamed B.named B.method).1
  have hr := B.returns
  have hlk := B.notSynchronized
  have hx := hM.1
  have hb := hM.2.1
  have hs0 := hz
  have hl := lv_entry ([.ref a]) (n := 2) (Nat.le_of_ble_eq_true rfl)
  rw [lg_entry_eq]
  generalize (lg_sl ([.ref a]) ++ List.replicate (2 - (lg_sl ([.ref a])).length) Slot.unset).toArray = ls at hl ⊢
  have hl : lv_has ls 2 [(0, .ref a)] := hl
  unfold f_X12_init at hf
  refine lv_aload_n hx hb dX12_init_0 rfl (lv_at hl 0 rfl) ?_
  refine n_obj hM hml hl.1 mk_RX12_3 (Nat.le_of_ble_eq_true rfl) (Nat.le_of_ble_eq_true rfl) dX12_init_1 ?_
  refine lv_aload_n hx hb dX12_init_4 rfl (lv_at hl 0 rfl) ?_
  refine m_new hM hW hz 7 (by decide) rfl rfl wi_X8 tyX8 tyX8_ok (by decide +kernel) (wgm kc_RX12_9) (wgm is_RX8) (wgm it_RX8) (Nat.le_of_ble_eq_true rfl) (Nat.le_of_ble_eq_true rfl) dX12_init_5 (fun S1 eS1 hk hg9 H hz hW => ?_)
  have hf := nm_at eS1 hf
  have hz : H.size = a + 2 := hz
  refine lv_dup hx hb dX12_init_8 rfl ?_
  obtain ⟨S2, hS2, hf⟩ := bd_elim hf
  refine n_initN (np := 0) [] [.ref (a + 1), .ref a] hM hml hl.1 hW hz (c_X8_init l G fu _ (a + 1) hS2) rfl cd_X8_init it_RX8 (by decide +kernel) im_X8_init rfl rfl rfl (by decide +kernel) ⟨Nat.le_of_ble_eq_true rfl, Nat.le_of_ble_eq_true rfl⟩ rfl rfl (Nat.le_of_ble_eq_true rfl) ⟨Nat.le_of_ble_eq_true rfl, Nat.le_of_ble_eq_true rfl⟩ dX12_init_9 (fun H locs hz hW => ?_)
  have hz : H.size = a + 6 := hz
  obtain ⟨h4, hf⟩ := ck_elim hf
  have h4 := of_decide_eq_true h4
  refine m_putFR hM hin2 hW 22 0 h4 rfl rfl (by decide) wi_X12 tyX12 tyX12_ok nmX12 (wgm fk_RX12_12) rfl rfl rfl (Or.inl ⟨_, rfl⟩) (a + 1) dX12_init_12 (fun S3 eS3 H locs hz9 hW => ?_)
  have hf := nm_at eS3 hf
  have hz : H.size = a + 6 := hz9.trans hz
  refine lv_aload_n hx hb dX12_init_15 rfl (lv_at hl 0 rfl) ?_
  refine m_new hM hW hz 1 (by decide) rfl rfl wi_X2 tyX2 tyX2_ok (by decide +kernel) (wgm kc_RX12_16) (wgm is_RX2) (wgm it_RX2) (Nat.le_of_ble_eq_true rfl) (Nat.le_of_ble_eq_true rfl) dX12_init_16 (fun S5 eS5 hk hg9 H hz hW => ?_)
  have hf := nm_at eS5 hf
  have hz : H.size = a + 7 := hz
  refine lv_dup hx hb dX12_init_19 rfl ?_
  refine lv_aload_n hx hb dX12_init_20 rfl (lv_at hl 0 rfl) ?_
  obtain ⟨h7, hf⟩ := ck_elim hf
  have h7 := of_decide_eq_true h7
  obtain ⟨q6, hq6, hf⟩ := bd_elim hf
  refine b_get hM (hW.at_ a) 22 0 h7 rfl rfl (by decide) wi_X12 (wgm fk_RX12_12) (x := .ref q6) (by show va_rf _ = _; rw [hq6]; rfl) dX12_init_21 ?_
  obtain ⟨S8, hS8, hf⟩ := bd_elim hf
  refine n_init (np := 1) [.ref q6] [.ref (a + 6), .ref a] hM hml hl.1 hW hz (c_X2_init l G fu _ (a + 6) q6 hS8) rfl cd_X2_init it_RX2 mk_RX12_18 im_X2_init rfl rfl rfl (by decide +kernel) ⟨Nat.le_of_ble_eq_true rfl, Nat.le_of_ble_eq_true rfl⟩ rfl rfl (Nat.le_of_ble_eq_true rfl) ⟨Nat.le_of_ble_eq_true rfl, Nat.le_of_ble_eq_true rfl⟩ dX12_init_24 (fun H locs hz hW => ?_)
  have hz : H.size = a + 9 := hz
  obtain ⟨h10, hf⟩ := ck_elim hf
  have h10 := of_decide_eq_true h10
  refine m_putFR hM hin2 hW 22 1 h10 rfl rfl (by decide) wi_X12 tyX12 tyX12_ok nmX12 (wgm fk_RX12_21) rfl rfl rfl (Or.inl ⟨_, rfl⟩) (a + 6) dX12_init_27 (fun S9 eS9 H locs hz9 hW => ?_)
  have hf := nm_at eS9 hf
  have hz : H.size = a + 9 := hz9.trans hz
  refine lv_aload_n hx hb dX12_init_30 rfl (lv_at hl 0 rfl) ?_
  refine m_new hM hW hz 2 (by decide) rfl rfl wi_X3 tyX3 tyX3_ok (by decide +kernel) (wgm kc_RX12_25) (wgm is_RX3) (wgm it_RX3) (Nat.le_of_ble_eq_true rfl) (Nat.le_of_ble_eq_true rfl) dX12_init_31 (fun S11 eS11 hk hg9 H hz hW => ?_)
  have hf := nm_at eS11 hf
  have hz : H.size = a + 10 := hz
  refine lv_dup hx hb dX12_init_34 rfl ?_
  obtain ⟨S12, hS12, hf⟩ := bd_elim hf
  refine n_init (np := 0) [] [.ref (a + 9), .ref a] hM hml hl.1 hW hz (c_X3_init l G fu _ (a + 9) hS12) rfl cd_X3_init it_RX3 mk_RX12_27 im_X3_init rfl rfl rfl (by decide +kernel) ⟨Nat.le_of_ble_eq_true rfl, Nat.le_of_ble_eq_true rfl⟩ rfl rfl (Nat.le_of_ble_eq_true rfl) ⟨Nat.le_of_ble_eq_true rfl, Nat.le_of_ble_eq_true rfl⟩ dX12_init_35 (fun H locs hz hW => ?_)
  have hz : H.size = a + 16 := hz
  obtain ⟨h14, hf⟩ := ck_elim hf
  have h14 := of_decide_eq_true h14
  refine m_putFR hM hin2 hW 22 2 h14 rfl rfl (by decide) wi_X12 tyX12 tyX12_ok nmX12 (wgm fk_RX12_28) rfl rfl rfl (Or.inl ⟨_, rfl⟩) (a + 9) dX12_init_38 (fun S13 eS13 H locs hz9 hW => ?_)
  have hf := nm_at eS13 hf
  have hz : H.size = a + 16 := hz9.trans hz
  exact t_X12_init_g1 hM hml hr hlk hin2 hs0 hf _ _ hW hz _ (lv_sub hl [0] rfl)
