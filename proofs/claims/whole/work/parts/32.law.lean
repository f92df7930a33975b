/-! ===== LawReader.read: a Law of three cells ===== -/
theorem st_gC {S : ST} {a : Nat} {v : GV} (h : gC v = gC (S a)) : ∀ b, gC (S b) ≠ 0 → gC (st S a v b) = gC (S b) := fun b _ => by
  by_cases e : b = a
  · subst e; rw [st_same, h]
  · rw [st_ne _ _ e]
abbrev RM_X5_read : Room := { frames := 47, cells := 3, slots := 1034, locals := 1059 }
abbrev w_X5_read : List Cond := Cond.code yX5_read cX5_read 2 (some (.object "PanelCopies$Law")) :: wsL_law0
noncomputable def f_X5_read (fu : Nat) (G : GG) (S : ST) (a e1 n : Nat) : Option ST :=
  nm (st S a (sI (S a) 3 (nI e1))) fun S1 =>
  nm (st S1 a (sI (S1 a) 2 (0 : Int32))) fun S2 =>
  bd (f_X5_expression fu (f_X5_partD fu 8) S2 a (0 : Int32)) fun S3 =>
  nm (st S3 n (rawo 3)) fun S4 =>
  ck (decide (gC (S4 a) = 5)) <|
  ck (decide (¬ gI (S4 a) 2 < 0)) <|
  ck (decide (gI (S4 a) 2 < 1000)) <|
  ck (decide (a ≠ n + 1)) <|
  nm (cpo S4 a (n + 1) (gI (S4 a) 2)) fun S5 =>
  f_X4_init fu G S5 n (n + 1)
set_option maxHeartbeats 4000000 in
set_option maxRecDepth 100000 in
theorem c_X5_read (l : Launch) (G : GG) (fu : Nat) (S : ST) (a e1 n : Nat) {z : ST} (ha : gC (S a) = 5) (he1 : e1 < 30) (hf : f_X5_read fu G S a e1 n = some z) : Cn l yX5_read w_X5_read RM_X5_read G S n [.ref a, .ref (kAd G e1)] (some (.ref n)) z (n + 3) 3 1034 := by
  refine Met.ofW (cc := cX5_read) (maxL := 2) (ret := (some (.object "PanelCopies$Law"))) (by decide) rfl ?_
  intro p e s m args below meth c s₁ B hml hv
  obtain ⟨rfl, hB, hK, hzw, hz0⟩ := hv
  have hM : MC G p s m _ c cX5_read w_X5_read RX5 := ⟨B.exec, B.bytes, findClass_of_methodNamed B.named, atoms_spec (ws := w_X5_read) B.pre, hK, hzw⟩
  have hW : WB G S s s.heap [] := ⟨hB, va_S.rf⟩
  have hl := lv_entry ([.ref a, .ref (kAd G e1)]) (n := 2) (Nat.le_of_ble_eq_true rfl)
  rw [lg_entry_eq]
  generalize (lg_sl ([.ref a, .ref (kAd G e1)]) ++ List.replicate (2 - (lg_sl ([.ref a, .ref (kAd G e1)])).length) Slot.unset).toArray = ls at hl ⊢
  have hl : lv_has ls 2 [(0, .ref a), (1, .ref (kAd G e1))] := hl
  have hx := hM.1
  have hb := hM.2.1
  unfold f_X5_read at hf
  refine lv_aload_n hx hb dX5_read_0 rfl (lv_at hl 0 rfl) ?_
  refine lv_aload_n hx hb dX5_read_1 rfl (lv_at hl 1 rfl) ?_
  refine s_putE hM hW 4 3 ha rfl rfl (by decide) wi_X5 tyX5 tyX5_ok nmX5 (wgm fk_RX5_25) rfl rfl _ rfl he1 dX5_read_2 (fun S1 eS1 hk H locs hW => ?_)
  have hf := nm_at eS1 hf
  have ha := keep1 hk ha
  refine lv_aload_n hx hb dX5_read_5 rfl (lv_at hl 0 rfl) ?_
  refine lv_iconst (v := (0 : Int32)) hx hb dX5_read_6 (by decide) ?_
  refine s_putI hM hW 4 2 ha rfl rfl (by decide) wi_X5 tyX5 tyX5_ok nmX5 (wgm fk_RX5_15) rfl rfl rfl dX5_read_7 (fun S2 eS2 hk H locs hW => ?_)
  have hf := nm_at eS2 hf
  have ha := keep1 hk ha
  refine lv_aload_n hx hb dX5_read_10 rfl (lv_at hl 0 rfl) ?_
  refine lv_iconst (v := (0 : Int32)) hx hb dX5_read_11 (by decide) ?_
  obtain ⟨S3, h3, hf⟩ := bd_elim hf
  refine s_callVv [.int (0 : Int32)] [] hM hml hl.1 hW ha rfl (by decide) (c_X5_expression l G fu (c_X5_partD l G fu 8) _ a _ ha h3) (cwV 1 hM.2.2.2.1 (gV mk_RX5_32 im_X5_expression se_X5_expression it_RX5 cd_X5_expression) rfl rfl rfl (by decide +kernel) ⟨Nat.le_of_ble_eq_true rfl, Nat.le_of_ble_eq_true rfl⟩) rfl rfl (Nat.le_of_ble_eq_true rfl) ⟨Nat.zero_le _, Nat.zero_le _⟩ dX5_read_12 (fun H locs hW hk => ?_)
  refine W.size (fun hz9 => ?_)
  have hz : H.size = n := by have := hW.2.1; omega
  refine m_new hM hW hz 3 (by decide) rfl rfl wi_X4 tyX4 tyX4_ok (by decide +kernel) (wgm kc_RX5_36) (wgm is_RX4) (wgm it_RX4) (Nat.le_of_ble_eq_true rfl) (Nat.le_of_ble_eq_true rfl) dX5_read_15 (fun S4 eS4 hk hg9 H hz hW => ?_)
  have hf := nm_at eS4 hf
  obtain ⟨h4, hf⟩ := ck_elim hf
  have ha := of_decide_eq_true h4
  obtain ⟨h5, hf⟩ := ck_elim hf
  obtain ⟨h6, hf⟩ := ck_elim hf
  obtain ⟨h7, hf⟩ := ck_elim hf
  refine lv_dup hx hb dX5_read_18 rfl ?_
  refine lv_aload_n hx hb dX5_read_19 rfl (lv_at hl 0 rfl) ?_
  refine b_get hM (hW.at_ a) 4 1 ha rfl rfl (by decide) wi_X5 (wgm fk_RX5_9) (x := .ref (a + 1)) rfl dX5_read_20 ?_
  refine lv_aload_n hx hb dX5_read_23 rfl (lv_at hl 0 rfl) ?_
  refine b_get hM (hW.at_ a) 4 2 ha rfl rfl (by decide) wi_X5 (wgm fk_RX5_15) (x := .int (gI (S4 a) 2)) rfl dX5_read_24 ?_
  refine n_callS (np := 2) [.ref (a + 1), .int (gI (S4 a) 2)] [.ref n, .ref n] hM hml hl.1 hW hz (c_cpo l G _ a (n + 1) _ ha (of_decide_eq_true h5) (of_decide_eq_true h6) (of_decide_eq_true h7)) (va_cwS 2 hM.2.2.2.1 (gS mk_RX5_38 sm_J7_copyOf_59c91 it_RJ7 cd_J7_copyOf_59c91) rfl rfl rfl (by decide +kernel) ⟨Nat.le_of_ble_eq_true rfl, Nat.le_of_ble_eq_true rfl⟩) rfl rfl (Nat.le_of_ble_eq_true rfl) ⟨Nat.le_of_ble_eq_true rfl, Nat.le_of_ble_eq_true rfl⟩ dX5_read_27 (fun H locs hz hW => ?_)
  obtain ⟨S5, eS5⟩ : ∃ y : ST, y = cpo S4 a (n + 1) (gI (S4 a) 2) := ⟨_, rfl⟩
  rw [← eS5] at hW
  have hf := nm_at eS5 hf
  refine n_init (np := 1) [.ref (n + 1)] [.ref n] hM hml hl.1 hW hz (c_X4_init l G fu _ n (n + 1) hf) rfl cd_X4_init it_RX4 mk_RX5_44 im_X4_init rfl rfl rfl (by decide +kernel) ⟨Nat.le_of_ble_eq_true rfl, Nat.le_of_ble_eq_true rfl⟩ rfl rfl (Nat.le_of_ble_eq_true rfl) ⟨Nat.le_of_ble_eq_true rfl, Nat.le_of_ble_eq_true rfl⟩ dX5_read_30 (fun H locs hz hW => ?_)
  exact W.aret hx hb B.returns (Or.inl ⟨_, rfl⟩) (Or.inr ⟨_, rfl⟩) (n_ret hW hz _) hW.2.2.2 dX5_read_33 B.notSynchronized
/-! ===== GalleryReader.readWorth ===== -/
abbrev RM_X2_readWorth : Room := { frames := 48, cells := 3, slots := 1034, locals := 1080 }
abbrev w_X2_readWorth : List Cond := Cond.code yX2_readWorth cX2_readWorth 2 none :: wsL_law0
noncomputable def f_X2_readWorth (fu : Nat) (G : GG) (S : ST) (a g1 n : Nat) : Option ST :=
  bd (gR (S a) 0) fun t =>
  ck (decide (gC (S t) = 8)) <|
  bd (f_X8_stepOrFail fu (S t) (if gR (S g1) 11 = none then 1 else 0) (3 : Int32)) fun tv =>
  nm (st S t tv) fun S1 =>
  ck (decide (gC (S1 (a + 1)) = 5)) <|
  bd (f_X5_read fu G S1 (a + 1) 28 n) fun S2 =>
  ck (decide (gC (S2 g1) = 1)) <|
  nm (st S2 g1 (sR (S2 g1) 11 (some n))) fun S3 =>
  ck (decide (gC (S3 a) = 2)) <|
  bd (gR (S3 a) 0) fun t2 =>
  ck (decide (gC (S3 t2) = 8)) <|
  ck (decide (gC (S3 n) = 4)) <|
  bd (f_X8_need fu (S3 t2) (59 : Int32)) fun tv2 =>
  nm (st S3 t2 tv2) fun S4 => some S4
set_option maxHeartbeats 4000000 in
set_option maxRecDepth 100000 in
theorem t_X2_readWorth_16 {G : GG} {p : Program} {l : Launch} {e : Env} {s : State} {m : MethodId} {args : Array Value} {below : List Frame} {meth : Method} {c : Code} {S : ST} {fu a g1 n t : Nat} {z : ST} {x : Int32} (hM : MC G p s m args c cX2_readWorth w_X2_readWorth RX2) (hml : c.maxLocals = 2) (hr : meth.sig.returnType = none) (hlk : meth.locks = false) (hs0 : s.heap.size = n) (ha : gC (S a) = 2) (hg1 : gC (S g1) = 1) (ht : gC (S t) = 8)
    (hf : (bd (f_X8_stepOrFail fu (S t) x (3 : Int32)) fun tv =>
  nm (st S t tv) fun S1 =>
  ck (decide (gC (S1 (a + 1)) = 5)) <|
  bd (f_X5_read fu G S1 (a + 1) 28 n) fun S2 =>
  ck (decide (gC (S2 g1) = 1)) <|
  nm (st S2 g1 (sR (S2 g1) 11 (some n))) fun S3 =>
  ck (decide (gC (S3 a) = 2)) <|
  bd (gR (S3 a) 0) fun t2 =>
  ck (decide (gC (S3 t2) = 8)) <|
  ck (decide (gC (S3 n) = 4)) <|
  bd (f_X8_need fu (S3 t2) (59 : Int32)) fun tv2 =>
  nm (st S3 t2 tv2) fun S4 => some S4) = some z) : ∀ (H : Heap) (locs : List Loc), WB G S s H locs → ∀ (ls : Array Slot), lv_has ls 2 [(0, .ref a), (1, .ref g1)] → W p l e RM_X2_readWorth s m args below meth c H locs 0 0 (QN G below args s none z (n + 3) 3 1034) (F0 m 16 ls [.int x, .ref t]) := by
  intro H locs hW ls hl
  have hx := hM.1
  have hb := hM.2.1
  refine lv_iconst (v := (3 : Int32)) hx hb dX2_readWorth_16 (by decide) ?_
  obtain ⟨tv, hr1, hf⟩ := bd_elim hf
  refine s_callNv [.int x, .int (3 : Int32)] [] hM hml hl.1 hW ht rfl (by decide) (Ct_self (c_X8_stepOrFail l G fu _ t (S t) _ _ ht hr1)) (cwV 2 hM.2.2.2.1 (gV mk_RX2_91 im_X8_stepOrFail se_X8_stepOrFail it_RX8 cd_X8_stepOrFail) rfl rfl rfl (by decide +kernel) ⟨Nat.le_of_ble_eq_true rfl, Nat.le_of_ble_eq_true rfl⟩) rfl rfl (Nat.le_of_ble_eq_true rfl) ⟨Nat.zero_le _, Nat.zero_le _⟩ dX2_readWorth_17 (fun S1 e1 hk H locs hW => ?_)
  have hf := nm_at e1 hf
  have ha := keep1 hk ha
  have hg1 := keep1 hk hg1
  obtain ⟨h2, hf⟩ := ck_elim hf
  have h2 := of_decide_eq_true h2
  obtain ⟨S2, hr2, hf⟩ := bd_elim hf
  refine lv_aload_n hx hb dX2_readWorth_20 rfl (lv_at hl 1 rfl) ?_
  refine lv_aload_n hx hb dX2_readWorth_21 rfl (lv_at hl 0 rfl) ?_
  refine b_get hM (hW.at_ a) 1 1 ha rfl rfl (by decide) wi_X2 (wgm fk_RX2_20) (x := .ref (a + 1)) rfl dX2_readWorth_22 ?_
  refine k_word hM hW 28 (by decide) (wgm fk_RX2_216) dX2_readWorth_25 ?_
  refine W.size (fun hz9 => ?_)
  have hz : H.size = n := by have := hW.2.1; omega
  refine n_callV (np := 1) [.ref (kAd G 28)] [.ref g1] hM hml hl.1 hW hz h2 rfl (by decide) (c_X5_read l G fu _ (a + 1) 28 n h2 (by decide) hr2) (cwV 1 hM.2.2.2.1 (gV mk_RX2_219 im_X5_read se_X5_read it_RX5 cd_X5_read) rfl rfl rfl (by decide +kernel) ⟨Nat.le_of_ble_eq_true rfl, Nat.le_of_ble_eq_true rfl⟩) rfl rfl (Nat.le_of_ble_eq_true rfl) ⟨Nat.le_of_ble_eq_true rfl, Nat.le_of_ble_eq_true rfl⟩ dX2_readWorth_28 (fun H locs hz hW => ?_)
  refine W.eq (g2 := F0 m 31 ls [.ref n, .ref g1]) rfl ?_
  obtain ⟨h3, hf⟩ := ck_elim hf
  have hg1 := of_decide_eq_true h3
  refine s_putR hM hW 0 11 hg1 rfl rfl (by decide) wi_X1 tyX1 tyX1_ok nmX1 (wgm fk_RX2_212) rfl rfl _ rfl (some n) rfl dX2_readWorth_31 (fun S3 e3 hk H locs hW => ?_)
  have hf := nm_at e3 hf
  obtain ⟨h4, hf⟩ := ck_elim hf
  have ha := of_decide_eq_true h4
  obtain ⟨t2, ht2, hf⟩ := bd_elim hf
  obtain ⟨h5, hf⟩ := ck_elim hf
  have h5 := of_decide_eq_true h5
  obtain ⟨h6, hf⟩ := ck_elim hf
  have h6 := of_decide_eq_true h6
  obtain ⟨tv2, hr3, hf⟩ := bd_elim hf
  refine lv_aload_n hx hb dX2_readWorth_34 rfl (lv_at hl 0 rfl) ?_
  refine b_get hM (hW.at_ a) 1 0 ha rfl rfl (by decide) wi_X2 (wgm fk_RX2_9) (x := .ref t2) (by show va_rf _ = _; rw [ht2]; rfl) dX2_readWorth_35 ?_
  refine lv_bipush (v := (59 : Int32)) hx hb dX2_readWorth_38 (by decide) ?_
  refine s_callNv [.int (59 : Int32)] [] hM hml hl.1 hW h5 rfl (by decide) (Ct_self (c_X8_need l G fu _ t2 (S3 t2) _ h5 hr3)) (cwV 1 hM.2.2.2.1 (gV mk_RX2_103 im_X8_need se_X8_need it_RX8 cd_X8_need) rfl rfl rfl (by decide +kernel) ⟨Nat.le_of_ble_eq_true rfl, Nat.le_of_ble_eq_true rfl⟩) rfl rfl (Nat.le_of_ble_eq_true rfl) ⟨Nat.le_of_ble_eq_true rfl, Nat.le_of_ble_eq_true rfl⟩ dX2_readWorth_40 (fun S4 e4 hk H locs hW => ?_)
  have hf := nm_at e4 hf
  have h6 := keep1 hk h6
  refine W.size (fun hz9 => ?_)
  have hz : H.size = n + 3 := by
    have h7 := hW.1.lt (b := n) h6 (x := 2) (Or.inr ⟨1, by decide, rfl, rfl⟩)
    omega
  cases hf
  exact W.vret hx hb hr (n_ret hW hz _) hW.2.2.2 dX2_readWorth_43 hlk
set_option maxHeartbeats 4000000 in
set_option maxRecDepth 100000 in
theorem c_X2_readWorth (l : Launch) (G : GG) (fu : Nat) (S : ST) (a g1 n : Nat) {z : ST} (ha : gC (S a) = 2) (hg1 : gC (S g1) = 1) (hf : f_X2_readWorth fu G S a g1 n = some z) : Cn l yX2_readWorth w_X2_readWorth RM_X2_readWorth G S n [.ref a, .ref g1] none z (n + 3) 3 1034 := by
  refine Met.ofW (cc := cX2_readWorth) (maxL := 2) (ret := none) (by decide) rfl ?_
  intro p e s m args below meth c s₁ B hml hv
  obtain ⟨rfl, hB, hK, hzw, hz0⟩ := hv
  have hM : MC G p s m _ c cX2_readWorth w_X2_readWorth RX2 := ⟨B.exec, B.bytes, findClass_of_methodNamed B.named, atoms_spec (ws := w_X2_readWorth) B.pre, hK, hzw⟩
  have hW : WB G S s s.heap [] := ⟨hB, va_S.rf⟩
  have hl := lv_entry ([.ref a, .ref g1]) (n := 2) (Nat.le_of_ble_eq_true rfl)
  rw [lg_entry_eq]
  generalize (lg_sl ([.ref a, .ref g1]) ++ List.replicate (2 - (lg_sl ([.ref a, .ref g1])).length) Slot.unset).toArray = ls at hl ⊢
  have hl : lv_has ls 2 [(0, .ref a), (1, .ref g1)] := hl
  have hx := hM.1
  have hb := hM.2.1
  unfold f_X2_readWorth at hf
  obtain ⟨t, ht0, hf⟩ := bd_elim hf
  obtain ⟨h1, hf⟩ := ck_elim hf
  have ht := of_decide_eq_true h1
  refine lv_aload_n hx hb dX2_readWorth_0 rfl (lv_at hl 0 rfl) ?_
  refine b_get hM (hW.at_ a) 1 0 ha rfl rfl (by decide) wi_X2 (wgm fk_RX2_9) (x := .ref t) (by show va_rf _ = _; rw [ht0]; rfl) dX2_readWorth_1 ?_
  refine lv_aload_n hx hb dX2_readWorth_4 rfl (lv_at hl 1 rfl) ?_
  refine b_get hM (hW.at_ g1) 0 11 hg1 rfl rfl (by decide) wi_X1 (wgm fk_RX2_212) (x := va_rf (gR (S g1) 11)) rfl dX2_readWorth_5 ?_
  by_cases hn : gR (S g1) 11 = none
  · rw [if_pos hn] at hf
    rw [hn]
    refine lv_ifnonnullN hx hb dX2_readWorth_8 ?_
    refine lv_iconst (v := (1 : Int32)) hx hb dX2_readWorth_11 (by decide) ?_
    refine lv_goto (tgt := 16) hx hb dX2_readWorth_12 (by decide) ?_
    exact t_X2_readWorth_16 hM hml B.returns B.notSynchronized hz0 ha hg1 ht hf _ _ hW _ hl
  · rw [if_neg hn] at hf
    obtain ⟨q, hq⟩ := Option.ne_none_iff_exists'.mp hn
    rw [hq]
    refine lv_ifnonnull (tgt := 15) hx hb dX2_readWorth_8 (by decide) ?_
    refine lv_iconst (v := (0 : Int32)) hx hb dX2_readWorth_15 (by decide) ?_
    exact t_X2_readWorth_16 hM hml B.returns B.notSynchronized hz0 ha hg1 ht hf _ _ hW _ hl
/-! ===== GalleryReader.readHard ===== -/
abbrev RM_X2_readHard : Room := { frames := 48, cells := 3, slots := 1034, locals := 1080 }
abbrev w_X2_readHard : List Cond := Cond.code yX2_readHard cX2_readHard 2 none :: wsL_law0
noncomputable def f_X2_readHard (fu : Nat) (G : GG) (S : ST) (a g1 n : Nat) : Option ST :=
  bd (gR (S a) 0) fun t =>
  ck (decide (gC (S t) = 8)) <|
  bd (f_X8_stepOrFail fu (S t) (if gR (S g1) 12 = none then 1 else 0) (3 : Int32)) fun tv =>
  nm (st S t tv) fun S1 =>
  ck (decide (gC (S1 (a + 1)) = 5)) <|
  bd (f_X5_read fu G S1 (a + 1) 29 n) fun S2 =>
  ck (decide (gC (S2 g1) = 1)) <|
  nm (st S2 g1 (sR (S2 g1) 12 (some n))) fun S3 =>
  ck (decide (gC (S3 a) = 2)) <|
  bd (gR (S3 a) 0) fun t2 =>
  ck (decide (gC (S3 t2) = 8)) <|
  ck (decide (gC (S3 n) = 4)) <|
  bd (f_X8_need fu (S3 t2) (59 : Int32)) fun tv2 =>
  nm (st S3 t2 tv2) fun S4 => some S4
set_option maxHeartbeats 4000000 in
set_option maxRecDepth 100000 in
theorem t_X2_readHard_16 {G : GG} {p : Program} {l : Launch} {e : Env} {s : State} {m : MethodId} {args : Array Value} {below : List Frame} {meth : Method} {c : Code} {S : ST} {fu a g1 n t : Nat} {z : ST} {x : Int32} (hM : MC G p s m args c cX2_readHard w_X2_readHard RX2) (hml : c.maxLocals = 2) (hr : meth.sig.returnType = none) (hlk : meth.locks = false) (hs0 : s.heap.size = n) (ha : gC (S a) = 2) (hg1 : gC (S g1) = 1) (ht : gC (S t) = 8)
    (hf : (bd (f_X8_stepOrFail fu (S t) x (3 : Int32)) fun tv =>
  nm (st S t tv) fun S1 =>
  ck (decide (gC (S1 (a + 1)) = 5)) <|
  bd (f_X5_read fu G S1 (a + 1) 29 n) fun S2 =>
  ck (decide (gC (S2 g1) = 1)) <|
  nm (st S2 g1 (sR (S2 g1) 12 (some n))) fun S3 =>
  ck (decide (gC (S3 a) = 2)) <|
  bd (gR (S3 a) 0) fun t2 =>
  ck (decide (gC (S3 t2) = 8)) <|
  ck (decide (gC (S3 n) = 4)) <|
  bd (f_X8_need fu (S3 t2) (59 : Int32)) fun tv2 =>
  nm (st S3 t2 tv2) fun S4 => some S4) = some z) : ∀ (H : Heap) (locs : List Loc), WB G S s H locs → ∀ (ls : Array Slot), lv_has ls 2 [(0, .ref a), (1, .ref g1)] → W p l e RM_X2_readHard s m args below meth c H locs 0 0 (QN G below args s none z (n + 3) 3 1034) (F0 m 16 ls [.int x, .ref t]) := by
  intro H locs hW ls hl
  have hx := hM.1
  have hb := hM.2.1
  refine lv_iconst (v := (3 : Int32)) hx hb dX2_readHard_16 (by decide) ?_
  obtain ⟨tv, hr1, hf⟩ := bd_elim hf
  refine s_callNv [.int x, .int (3 : Int32)] [] hM hml hl.1 hW ht rfl (by decide) (Ct_self (c_X8_stepOrFail l G fu _ t (S t) _ _ ht hr1)) (cwV 2 hM.2.2.2.1 (gV mk_RX2_91 im_X8_stepOrFail se_X8_stepOrFail it_RX8 cd_X8_stepOrFail) rfl rfl rfl (by decide +kernel) ⟨Nat.le_of_ble_eq_true rfl, Nat.le_of_ble_eq_true rfl⟩) rfl rfl (Nat.le_of_ble_eq_true rfl) ⟨Nat.zero_le _, Nat.zero_le _⟩ dX2_readHard_17 (fun S1 e1 hk H locs hW => ?_)
  have hf := nm_at e1 hf
  have ha := keep1 hk ha
  have hg1 := keep1 hk hg1
  obtain ⟨h2, hf⟩ := ck_elim hf
  have h2 := of_decide_eq_true h2
  obtain ⟨S2, hr2, hf⟩ := bd_elim hf
  refine lv_aload_n hx hb dX2_readHard_20 rfl (lv_at hl 1 rfl) ?_
  refine lv_aload_n hx hb dX2_readHard_21 rfl (lv_at hl 0 rfl) ?_
  refine b_get hM (hW.at_ a) 1 1 ha rfl rfl (by decide) wi_X2 (wgm fk_RX2_20) (x := .ref (a + 1)) rfl dX2_readHard_22 ?_
  refine k_word hM hW 29 (by decide) (wgm fk_RX2_226) dX2_readHard_25 ?_
  refine W.size (fun hz9 => ?_)
  have hz : H.size = n := by have := hW.2.1; omega
  refine n_callV (np := 1) [.ref (kAd G 29)] [.ref g1] hM hml hl.1 hW hz h2 rfl (by decide) (c_X5_read l G fu _ (a + 1) 29 n h2 (by decide) hr2) (cwV 1 hM.2.2.2.1 (gV mk_RX2_219 im_X5_read se_X5_read it_RX5 cd_X5_read) rfl rfl rfl (by decide +kernel) ⟨Nat.le_of_ble_eq_true rfl, Nat.le_of_ble_eq_true rfl⟩) rfl rfl (Nat.le_of_ble_eq_true rfl) ⟨Nat.le_of_ble_eq_true rfl, Nat.le_of_ble_eq_true rfl⟩ dX2_readHard_28 (fun H locs hz hW => ?_)
  refine W.eq (g2 := F0 m 31 ls [.ref n, .ref g1]) rfl ?_
  obtain ⟨h3, hf⟩ := ck_elim hf
  have hg1 := of_decide_eq_true h3
  refine s_putR hM hW 0 12 hg1 rfl rfl (by decide) wi_X1 tyX1 tyX1_ok nmX1 (wgm fk_RX2_223) rfl rfl _ rfl (some n) rfl dX2_readHard_31 (fun S3 e3 hk H locs hW => ?_)
  have hf := nm_at e3 hf
  obtain ⟨h4, hf⟩ := ck_elim hf
  have ha := of_decide_eq_true h4
  obtain ⟨t2, ht2, hf⟩ := bd_elim hf
  obtain ⟨h5, hf⟩ := ck_elim hf
  have h5 := of_decide_eq_true h5
  obtain ⟨h6, hf⟩ := ck_elim hf
  have h6 := of_decide_eq_true h6
  obtain ⟨tv2, hr3, hf⟩ := bd_elim hf
  refine lv_aload_n hx hb dX2_readHard_34 rfl (lv_at hl 0 rfl) ?_
  refine b_get hM (hW.at_ a) 1 0 ha rfl rfl (by decide) wi_X2 (wgm fk_RX2_9) (x := .ref t2) (by show va_rf _ = _; rw [ht2]; rfl) dX2_readHard_35 ?_
  refine lv_bipush (v := (59 : Int32)) hx hb dX2_readHard_38 (by decide) ?_
  refine s_callNv [.int (59 : Int32)] [] hM hml hl.1 hW h5 rfl (by decide) (Ct_self (c_X8_need l G fu _ t2 (S3 t2) _ h5 hr3)) (cwV 1 hM.2.2.2.1 (gV mk_RX2_103 im_X8_need se_X8_need it_RX8 cd_X8_need) rfl rfl rfl (by decide +kernel) ⟨Nat.le_of_ble_eq_true rfl, Nat.le_of_ble_eq_true rfl⟩) rfl rfl (Nat.le_of_ble_eq_true rfl) ⟨Nat.le_of_ble_eq_true rfl, Nat.le_of_ble_eq_true rfl⟩ dX2_readHard_40 (fun S4 e4 hk H locs hW => ?_)
  have hf := nm_at e4 hf
  have h6 := keep1 hk h6
  refine W.size (fun hz9 => ?_)
  have hz : H.size = n + 3 := by
    have h7 := hW.1.lt (b := n) h6 (x := 2) (Or.inr ⟨1, by decide, rfl, rfl⟩)
    omega
  cases hf
  exact W.vret hx hb hr (n_ret hW hz _) hW.2.2.2 dX2_readHard_43 hlk
set_option maxHeartbeats 4000000 in
set_option maxRecDepth 100000 in
theorem c_X2_readHard (l : Launch) (G : GG) (fu : Nat) (S : ST) (a g1 n : Nat) {z : ST} (ha : gC (S a) = 2) (hg1 : gC (S g1) = 1) (hf : f_X2_readHard fu G S a g1 n = some z) : Cn l yX2_readHard w_X2_readHard RM_X2_readHard G S n [.ref a, .ref g1] none z (n + 3) 3 1034 := by
  refine Met.ofW (cc := cX2_readHard) (maxL := 2) (ret := none) (by decide) rfl ?_
  intro p e s m args below meth c s₁ B hml hv
  obtain ⟨rfl, hB, hK, hzw, hz0⟩ := hv
  have hM : MC G p s m _ c cX2_readHard w_X2_readHard RX2 := ⟨B.exec, B.bytes, findClass_of_methodNamed B.named, atoms_spec (ws := w_X2_readHard) B.pre, hK, hzw⟩
  have hW : WB G S s s.heap [] := ⟨hB, va_S.rf⟩
  have hl := lv_entry ([.ref a, .ref g1]) (n := 2) (Nat.le_of_ble_eq_true rfl)
  rw [lg_entry_eq]
  generalize (lg_sl ([.ref a, .ref g1]) ++ List.replicate (2 - (lg_sl ([.ref a, .ref g1])).length) Slot.unset).toArray = ls at hl ⊢
  have hl : lv_has ls 2 [(0, .ref a), (1, .ref g1)] := hl
  have hx := hM.1
  have hb := hM.2.1
  unfold f_X2_readHard at hf
  obtain ⟨t, ht0, hf⟩ := bd_elim hf
  obtain ⟨h1, hf⟩ := ck_elim hf
  have ht := of_decide_eq_true h1
  refine lv_aload_n hx hb dX2_readHard_0 rfl (lv_at hl 0 rfl) ?_
  refine b_get hM (hW.at_ a) 1 0 ha rfl rfl (by decide) wi_X2 (wgm fk_RX2_9) (x := .ref t) (by show va_rf _ = _; rw [ht0]; rfl) dX2_readHard_1 ?_
  refine lv_aload_n hx hb dX2_readHard_4 rfl (lv_at hl 1 rfl) ?_
  refine b_get hM (hW.at_ g1) 0 12 hg1 rfl rfl (by decide) wi_X1 (wgm fk_RX2_223) (x := va_rf (gR (S g1) 12)) rfl dX2_readHard_5 ?_
  by_cases hn : gR (S g1) 12 = none
  · rw [if_pos hn] at hf
    rw [hn]
    refine lv_ifnonnullN hx hb dX2_readHard_8 ?_
    refine lv_iconst (v := (1 : Int32)) hx hb dX2_readHard_11 (by decide) ?_
    refine lv_goto (tgt := 16) hx hb dX2_readHard_12 (by decide) ?_
    exact t_X2_readHard_16 hM hml B.returns B.notSynchronized hz0 ha hg1 ht hf _ _ hW _ hl
  · rw [if_neg hn] at hf
    obtain ⟨q, hq⟩ := Option.ne_none_iff_exists'.mp hn
    rw [hq]
    refine lv_ifnonnull (tgt := 15) hx hb dX2_readHard_8 (by decide) ?_
    refine lv_iconst (v := (0 : Int32)) hx hb dX2_readHard_15 (by decide) ?_
    exact t_X2_readHard_16 hM hml B.returns B.notSynchronized hz0 ha hg1 ht hf _ _ hW _ hl
