abbrev RM_X12_thief : Room := { frames := 1, cells := 0, slots := 0, locals := 23 }
abbrev w_X12_thief : List Cond := Cond.code yX12_thief cX12_thief 3 (some .int) :: wsL_law0
noncomputable def f_X12_thief_0 (fu : Nat)  (S : ST) (a : Nat) (x1 : Int32) (x2 : Int32) : Option (Int32) :=
  bd (gR (S a) 12) fun q1 =>
  ck (decide (gC (S q1) = 1)) <|
  bd (f_X1_hasThief fu (S q1) x1) fun r3 =>
  if r3 = 0 then
    (some ((-1 : Int32)))
  else
    (if x2 = (0 : Int32) then
      (bd (gR (S a) 12) fun q6 =>
      ck (decide (gC (S q6) = 1)) <|
      ck (inb x1 5) <|
      some ((gA (S q6) 3 x1.toNatClampNeg)))
    else
    if x2 = (1 : Int32) then
      (bd (gR (S a) 12) fun q10 =>
      ck (decide (gC (S q10) = 1)) <|
      ck (inb x1 5) <|
      some ((gA (S q10) 4 x1.toNatClampNeg)))
    else
    if x2 = (2 : Int32) then
      (ck (decide (gC (S (a + 9)) = 3)) <|
      ck (inb x1 5) <|
      some ((gA (S (a + 9)) 5 x1.toNatClampNeg)))
    else
    if x2 = (3 : Int32) then
      (bd (gR (S a) 12) fun q17 =>
      ck (decide (gC (S q17) = 1)) <|
      ck (inb x1 5) <|
      some ((gA (S q17) 5 x1.toNatClampNeg)))
    else
    if x2 = (4 : Int32) then
      (ck (decide (gC (S (a + 9)) = 3)) <|
      bd (f_X3_heldBy fu (S (a + 9)) x1) fun r22 =>
      some (r22))
    else
    (some ((-1 : Int32))))
set_option maxHeartbeats 4000000 in
set_option maxRecDepth 100000 in
theorem t_X12_thief_0 {G : GG} {p : Program} {l : Launch} {e : Env} {s : State} {m : MethodId} {args : Array Value} {below : List Frame} {meth : Method} {c : Code} {S : ST} {fu : Nat} {z : Int32} {a : Nat}  {x1 : Int32} {x2 : Int32} (hM : MC G p s m args c cX12_thief w_X12_thief RX12) (hml : c.maxLocals = 3) (hr : meth.sig.returnType = (some .int)) (hlk : meth.locks = false) (ha : gC (S a) = 11)  (hf : f_X12_thief_0 fu  S a x1 x2 = some z) : ∀ (H : Heap) (locs : List Loc), WB G S s H locs → ∀ (ls : Array Slot), lv_has ls 3 [(0, .ref a), (1, .int x1), (2, .int x2)] → W p l e RM_X12_thief s m args below meth c H locs 0 0 (QR G below args s (some (.int z)) S S) (F0 m 0 ls []) := by
  intro  H locs hW ls hl
  have hx := hM.1
  have hb := hM.2.1
  refine lv_aload_n hx hb dX12_thief_0 rfl (lv_at hl 0 rfl) ?_
  obtain ⟨q1, hq1, hf⟩ := bd_elim hf
  refine b_get hM (hW.at_ a) 10 12 ha rfl rfl (by decide) wi_X12 (wgm fk_RX12_76) (x := .ref q1) (by show va_rf _ = _; rw [hq1]; rfl) dX12_thief_1 ?_
  obtain ⟨h2, hf⟩ := ck_elim hf
  have h2 := of_decide_eq_true h2
  refine lv_iload_n hx hb dX12_thief_4 rfl (lv_at hl 1 rfl) ?_
  obtain ⟨r3, hr3, hf⟩ := bd_elim hf
  refine s_callVi [.int x1] [] hM hml hl.1 hW h2 rfl (by decide) (Ct_rd (c_X1_hasThief l G fu _ q1 (S q1) _ h2 hr3)) (cwV 1 hM.2.2.2.1 (gV mk_RX12_154 im_X1_hasThief se_X1_hasThief it_RX1 cd_X1_hasThief) rfl rfl rfl (by decide +kernel) ⟨Nat.le_of_ble_eq_true rfl, Nat.le_of_ble_eq_true rfl⟩) rfl rfl (Nat.le_of_ble_eq_true rfl) ⟨Nat.zero_le _, Nat.zero_le _⟩ dX12_thief_5 (fun H locs hW hk => ?_)
  refine lv_if_ne (tgt := 13) hx hb dX12_thief_8 (by decide) (fun c4 => ?_) (fun c4 => ?_)
  · have hf := if_f c4 hf
    refine lv_iload_n hx hb dX12_thief_13 rfl (lv_at hl 2 rfl) ?_
    by_cases c5 : x2 = (0 : Int32)
    · have hf := if_t c5 hf
      refine lv_tableIn (off := 34) (tgt := 48) hx hb dX12_thief_14 (by rw [c5]; decide) (by rw [c5]; decide) (by rw [c5]; rfl) (by decide) ?_
      refine lv_aload_n hx hb dX12_thief_48 rfl (lv_at hl 0 rfl) ?_
      obtain ⟨q6, hq6, hf⟩ := bd_elim hf
      refine b_get hM (hW.at_ a) 10 12 ha rfl rfl (by decide) wi_X12 (wgm fk_RX12_76) (x := .ref q6) (by show va_rf _ = _; rw [hq6]; rfl) dX12_thief_49 ?_
      obtain ⟨h7, hf⟩ := ck_elim hf
      have h7 := of_decide_eq_true h7
      refine b_get hM (hW.at_ q6) 0 3 h7 rfl rfl (by decide) wi_X1 (wgm fk_RX12_157) (x := .ref (q6 + 4)) rfl dX12_thief_52 ?_
      refine lv_iload_n hx hb dX12_thief_55 rfl (lv_at hl 1 rfl) ?_
      obtain ⟨h8, hf⟩ := ck_elim hf
      refine b_iald (n := 5) hM (hW.at_ q6) 0 3 h7 (by decide) rfl rfl rfl rfl h8 dX12_thief_56 ?_
      cases hf
      exact W.iret hx hb hr (b_ret0 hW (fun _ _ => rfl) _) hW.2.2.2 dX12_thief_57 hlk
    have hf := if_f c5 hf
    by_cases c9 : x2 = (1 : Int32)
    · have hf := if_t c9 hf
      refine lv_tableIn (off := 44) (tgt := 58) hx hb dX12_thief_14 (by rw [c9]; decide) (by rw [c9]; decide) (by rw [c9]; rfl) (by decide) ?_
      refine lv_aload_n hx hb dX12_thief_58 rfl (lv_at hl 0 rfl) ?_
      obtain ⟨q10, hq10, hf⟩ := bd_elim hf
      refine b_get hM (hW.at_ a) 10 12 ha rfl rfl (by decide) wi_X12 (wgm fk_RX12_76) (x := .ref q10) (by show va_rf _ = _; rw [hq10]; rfl) dX12_thief_59 ?_
      obtain ⟨h11, hf⟩ := ck_elim hf
      have h11 := of_decide_eq_true h11
      refine b_get hM (hW.at_ q10) 0 4 h11 rfl rfl (by decide) wi_X1 (wgm fk_RX12_160) (x := .ref (q10 + 5)) rfl dX12_thief_62 ?_
      refine lv_iload_n hx hb dX12_thief_65 rfl (lv_at hl 1 rfl) ?_
      obtain ⟨h12, hf⟩ := ck_elim hf
      refine b_iald (n := 5) hM (hW.at_ q10) 0 4 h11 (by decide) rfl rfl rfl rfl h12 dX12_thief_66 ?_
      cases hf
      exact W.iret hx hb hr (b_ret0 hW (fun _ _ => rfl) _) hW.2.2.2 dX12_thief_67 hlk
    have hf := if_f c9 hf
    by_cases c13 : x2 = (2 : Int32)
    · have hf := if_t c13 hf
      refine lv_tableIn (off := 54) (tgt := 68) hx hb dX12_thief_14 (by rw [c13]; decide) (by rw [c13]; decide) (by rw [c13]; rfl) (by decide) ?_
      refine lv_aload_n hx hb dX12_thief_68 rfl (lv_at hl 0 rfl) ?_
      refine b_get hM (hW.at_ a) 10 2 ha rfl rfl (by decide) wi_X12 (wgm fk_RX12_28) (x := .ref (a + 9)) rfl dX12_thief_69 ?_
      obtain ⟨h14, hf⟩ := ck_elim hf
      have h14 := of_decide_eq_true h14
      refine b_get hM (hW.at_ (a + 9)) 2 5 h14 rfl rfl (by decide) wi_X3 (wgm fk_RX12_163) (x := .ref ((a + 9) + 6)) rfl dX12_thief_72 ?_
      refine lv_iload_n hx hb dX12_thief_75 rfl (lv_at hl 1 rfl) ?_
      obtain ⟨h15, hf⟩ := ck_elim hf
      refine b_iald (n := 5) hM (hW.at_ (a + 9)) 2 5 h14 (by decide) rfl rfl rfl rfl h15 dX12_thief_76 ?_
      cases hf
      exact W.iret hx hb hr (b_ret0 hW (fun _ _ => rfl) _) hW.2.2.2 dX12_thief_77 hlk
    have hf := if_f c13 hf
    by_cases c16 : x2 = (3 : Int32)
    · have hf := if_t c16 hf
      refine lv_tableIn (off := 64) (tgt := 78) hx hb dX12_thief_14 (by rw [c16]; decide) (by rw [c16]; decide) (by rw [c16]; rfl) (by decide) ?_
      refine lv_aload_n hx hb dX12_thief_78 rfl (lv_at hl 0 rfl) ?_
      obtain ⟨q17, hq17, hf⟩ := bd_elim hf
      refine b_get hM (hW.at_ a) 10 12 ha rfl rfl (by decide) wi_X12 (wgm fk_RX12_76) (x := .ref q17) (by show va_rf _ = _; rw [hq17]; rfl) dX12_thief_79 ?_
      obtain ⟨h18, hf⟩ := ck_elim hf
      have h18 := of_decide_eq_true h18
      refine b_get hM (hW.at_ q17) 0 5 h18 rfl rfl (by decide) wi_X1 (wgm fk_RX12_166) (x := .ref (q17 + 6)) rfl dX12_thief_82 ?_
      refine lv_iload_n hx hb dX12_thief_85 rfl (lv_at hl 1 rfl) ?_
      obtain ⟨h19, hf⟩ := ck_elim hf
      refine b_iald (n := 5) hM (hW.at_ q17) 0 5 h18 (by decide) rfl rfl rfl rfl h19 dX12_thief_86 ?_
      cases hf
      exact W.iret hx hb hr (b_ret0 hW (fun _ _ => rfl) _) hW.2.2.2 dX12_thief_87 hlk
    have hf := if_f c16 hf
    by_cases c20 : x2 = (4 : Int32)
    · have hf := if_t c20 hf
      refine lv_tableIn (off := 74) (tgt := 88) hx hb dX12_thief_14 (by rw [c20]; decide) (by rw [c20]; decide) (by rw [c20]; rfl) (by decide) ?_
      refine lv_aload_n hx hb dX12_thief_88 rfl (lv_at hl 0 rfl) ?_
      refine b_get hM (hW.at_ a) 10 2 ha rfl rfl (by decide) wi_X12 (wgm fk_RX12_28) (x := .ref (a + 9)) rfl dX12_thief_89 ?_
      obtain ⟨h21, hf⟩ := ck_elim hf
      have h21 := of_decide_eq_true h21
      refine lv_iload_n hx hb dX12_thief_92 rfl (lv_at hl 1 rfl) ?_
      obtain ⟨r22, hr22, hf⟩ := bd_elim hf
      refine s_callVi [.int x1] [] hM hml hl.1 hW h21 rfl (by decide) (Ct_rd (c_X3_heldBy l G fu _ (a + 9) (S (a + 9)) _ h21 hr22)) (cwV 1 hM.2.2.2.1 (gV mk_RX12_169 im_X3_heldBy se_X3_heldBy it_RX3 cd_X3_heldBy) rfl rfl rfl (by decide +kernel) ⟨Nat.le_of_ble_eq_true rfl, Nat.le_of_ble_eq_true rfl⟩) rfl rfl (Nat.le_of_ble_eq_true rfl) ⟨Nat.zero_le _, Nat.zero_le _⟩ dX12_thief_93 (fun H locs hW hk => ?_)
      cases hf
      exact W.iret hx hb hr (b_ret0 hW (fun _ _ => rfl) _) hW.2.2.2 dX12_thief_96 hlk
    have hf := if_f c20 hf
    refine lv_tableOut (tgt := 97) hx hb dX12_thief_14 (sw_out (fun j h1 h2 hj => ?_)) (by decide) ?_
    · have hcases : j = 0 ∨ j = 1 ∨ j = 2 ∨ j = 3 ∨ j = 4 := by omega
      rcases hcases with rfl | rfl | rfl | rfl | rfl
      · exact c5 (Int32.toInt_inj.mp (hj.trans (by decide)))
      · exact c9 (Int32.toInt_inj.mp (hj.trans (by decide)))
      · exact c13 (Int32.toInt_inj.mp (hj.trans (by decide)))
      · exact c16 (Int32.toInt_inj.mp (hj.trans (by decide)))
      · exact c20 (Int32.toInt_inj.mp (hj.trans (by decide)))
    · refine lv_iconst (v := (-1 : Int32)) hx hb dX12_thief_97 (by decide) ?_
      cases hf
      exact W.iret hx hb hr (b_ret0 hW (fun _ _ => rfl) _) hW.2.2.2 dX12_thief_98 hlk
  · have hf := if_t c4 hf
    refine lv_iconst (v := (-1 : Int32)) hx hb dX12_thief_11 (by decide) ?_
    cases hf
    exact W.iret hx hb hr (b_ret0 hW (fun _ _ => rfl) _) hW.2.2.2 dX12_thief_12 hlk
noncomputable def f_X12_thief (fu : Nat) (S : ST) (a : Nat) (x1 : Int32) (x2 : Int32) : Option (Int32) := f_X12_thief_0 fu S a x1 x2
set_option maxHeartbeats 4000000 in
set_option maxRecDepth 100000 in
theorem c_X12_thief (l : Launch) (G : GG) (fu : Nat) (S : ST) (a : Nat) (x1 : Int32) (x2 : Int32) {z : Int32} (ha : gC (S a) = 11) (hf : f_X12_thief fu S a x1 x2 = some z) : Ct l yX12_thief w_X12_thief RM_X12_thief G S [.ref a, .int x1, .int x2] (some (.int z)) S 0 0 := by
  refine Met.ofW (cc := cX12_thief) (maxL := 3) (ret := (some .int)) (by decide) rfl ?_
  intro p e s m args below meth c s₁ B hml hv
  obtain ⟨rfl, hB, hK, hz⟩ := hv
  have hM : MC G p s m _ c cX12_thief w_X12_thief RX12 := ⟨B.exec, B.bytes, findClass_of_methodNamed B.named, atoms_spec (ws := w_X12_thief) B.pre, hK, hz⟩
  have hW : WB G S s s.heap [] := ⟨hB, va_S.rf⟩
  have hl := lv_entry ([.ref a, .int x1, .int x2]) (n := 3) (Nat.le_of_ble_eq_true rfl)
  rw [lg_entry_eq]
  generalize (lg_sl ([.ref a, .int x1, .int x2]) ++ List.replicate (3 - (lg_sl ([.ref a, .int x1, .int x2])).length) Slot.unset).toArray = ls at hl ⊢
  have hl : lv_has ls 3 [(0, .ref a), (1, .int x1), (2, .int x2)] := hl
  exact t_X12_thief_0 (fu := fu) hM hml B.returns B.notSynchronized ha hf _ _ hW _ (lv_sub hl [0, 1, 2] rfl)
abbrev RM_X12_count : Room := { frames := 1, cells := 0, slots := 0, locals := 22 }
abbrev w_X12_count : List Cond := Cond.code yX12_count cX12_count 2 (some .int) :: wsL_law0
noncomputable def f_X12_count_0 (fu : Nat)  (S : ST) (a : Nat) (x1 : Int32) : Option (Int32) :=
  if x1 = (0 : Int32) then
    (bd (gR (S a) 12) fun q2 =>
    ck (decide (gC (S q2) = 1)) <|
    some ((gI (S q2) 8)))
  else
  if x1 = (1 : Int32) then
    (ck (decide (gC (S (a + 9)) = 3)) <|
    some ((gI (S (a + 9)) 7)))
  else
  if x1 = (2 : Int32) then
    (bd (gR (S a) 12) fun q7 =>
    ck (decide (gC (S q7) = 1)) <|
    some ((gI (S q7) 9)))
  else
  if x1 = (3 : Int32) then
    (bd (gR (S a) 12) fun q10 =>
    ck (decide (gC (S q10) = 1)) <|
    some ((gI (S q10) 10)))
  else
  if x1 = (4 : Int32) then
    (ck (decide (gC (S (a + 9)) = 3)) <|
    some ((gI (S (a + 9)) 6)))
  else
  if x1 = (5 : Int32) then
    (ck (decide (gC (S (a + 9)) = 3)) <|
    some ((gI (S (a + 9)) 8)))
  else
  if x1 = (6 : Int32) then
    (ck (decide (gC (S (a + 9)) = 3)) <|
    bd (f_X3_allCoins fu (S (a + 9))) fun r18 =>
    some (r18))
  else
  if x1 = (7 : Int32) then
    (ck (decide (gC (S (a + 9)) = 3)) <|
    some ((gI (S (a + 9)) 9)))
  else
  if x1 = (8 : Int32) then
    (bd (gR (S a) 14) fun q22 =>
    ck (decide (gC (S q22) = 6)) <|
    some ((gI (S q22) 4)))
  else
  if x1 = (9 : Int32) then
    (ck (decide (gC (S (a + 9)) = 3)) <|
    some ((gI (S (a + 9)) 10)))
  else
  if x1 = (10 : Int32) then
    (some ((gI (S a) 17)))
  else
  if x1 = (11 : Int32) then
    (ck (decide (gC (S (a + 1)) = 8)) <|
    some ((gI (S (a + 1)) 6)))
  else
  (some ((-1 : Int32)))
set_option maxHeartbeats 4000000 in
set_option maxRecDepth 100000 in
theorem t_X12_count_0 {G : GG} {p : Program} {l : Launch} {e : Env} {s : State} {m : MethodId} {args : Array Value} {below : List Frame} {meth : Method} {c : Code} {S : ST} {fu : Nat} {z : Int32} {a : Nat}  {x1 : Int32} (hM : MC G p s m args c cX12_count w_X12_count RX12) (hml : c.maxLocals = 2) (hr : meth.sig.returnType = (some .int)) (hlk : meth.locks = false) (ha : gC (S a) = 11)  (hf : f_X12_count_0 fu  S a x1 = some z) : ∀ (H : Heap) (locs : List Loc), WB G S s H locs → ∀ (ls : Array Slot), lv_has ls 2 [(0, .ref a), (1, .int x1)] → W p l e RM_X12_count s m args below meth c H locs 0 0 (QR G below args s (some (.int z)) S S) (F0 m 0 ls []) := by
  intro  H locs hW ls hl
  have hx := hM.1
  have hb := hM.2.1
  refine lv_iload_n hx hb dX12_count_0 rfl (lv_at hl 1 rfl) ?_
  by_cases c1 : x1 = (0 : Int32)
  · have hf := if_t c1 hf
    refine lv_tableIn (off := 63) (tgt := 64) hx hb dX12_count_1 (by rw [c1]; decide) (by rw [c1]; decide) (by rw [c1]; rfl) (by decide) ?_
    refine lv_aload_n hx hb dX12_count_64 rfl (lv_at hl 0 rfl) ?_
    obtain ⟨q2, hq2, hf⟩ := bd_elim hf
    refine b_get hM (hW.at_ a) 10 12 ha rfl rfl (by decide) wi_X12 (wgm fk_RX12_76) (x := .ref q2) (by show va_rf _ = _; rw [hq2]; rfl) dX12_count_65 ?_
    obtain ⟨h3, hf⟩ := ck_elim hf
    have h3 := of_decide_eq_true h3
    refine b_get hM (hW.at_ q2) 0 8 h3 rfl rfl (by decide) wi_X1 (wgm fk_RX12_173) (x := .int (gI (S q2) 8)) rfl dX12_count_68 ?_
    cases hf
    exact W.iret hx hb hr (b_ret0 hW (fun _ _ => rfl) _) hW.2.2.2 dX12_count_71 hlk
  have hf := if_f c1 hf
  by_cases c4 : x1 = (1 : Int32)
  · have hf := if_t c4 hf
    refine lv_tableIn (off := 71) (tgt := 72) hx hb dX12_count_1 (by rw [c4]; decide) (by rw [c4]; decide) (by rw [c4]; rfl) (by decide) ?_
    refine lv_aload_n hx hb dX12_count_72 rfl (lv_at hl 0 rfl) ?_
    refine b_get hM (hW.at_ a) 10 2 ha rfl rfl (by decide) wi_X12 (wgm fk_RX12_28) (x := .ref (a + 9)) rfl dX12_count_73 ?_
    obtain ⟨h5, hf⟩ := ck_elim hf
    have h5 := of_decide_eq_true h5
    refine b_get hM (hW.at_ (a + 9)) 2 7 h5 rfl rfl (by decide) wi_X3 (wgm fk_RX12_176) (x := .int (gI (S (a + 9)) 7)) rfl dX12_count_76 ?_
    cases hf
    exact W.iret hx hb hr (b_ret0 hW (fun _ _ => rfl) _) hW.2.2.2 dX12_count_79 hlk
  have hf := if_f c4 hf
  by_cases c6 : x1 = (2 : Int32)
  · have hf := if_t c6 hf
    refine lv_tableIn (off := 79) (tgt := 80) hx hb dX12_count_1 (by rw [c6]; decide) (by rw [c6]; decide) (by rw [c6]; rfl) (by decide) ?_
    refine lv_aload_n hx hb dX12_count_80 rfl (lv_at hl 0 rfl) ?_
    obtain ⟨q7, hq7, hf⟩ := bd_elim hf
    refine b_get hM (hW.at_ a) 10 12 ha rfl rfl (by decide) wi_X12 (wgm fk_RX12_76) (x := .ref q7) (by show va_rf _ = _; rw [hq7]; rfl) dX12_count_81 ?_
    obtain ⟨h8, hf⟩ := ck_elim hf
    have h8 := of_decide_eq_true h8
    refine b_get hM (hW.at_ q7) 0 9 h8 rfl rfl (by decide) wi_X1 (wgm fk_RX12_179) (x := .int (gI (S q7) 9)) rfl dX12_count_84 ?_
    cases hf
    exact W.iret hx hb hr (b_ret0 hW (fun _ _ => rfl) _) hW.2.2.2 dX12_count_87 hlk
  have hf := if_f c6 hf
  by_cases c9 : x1 = (3 : Int32)
  · have hf := if_t c9 hf
    refine lv_tableIn (off := 87) (tgt := 88) hx hb dX12_count_1 (by rw [c9]; decide) (by rw [c9]; decide) (by rw [c9]; rfl) (by decide) ?_
    refine lv_aload_n hx hb dX12_count_88 rfl (lv_at hl 0 rfl) ?_
    obtain ⟨q10, hq10, hf⟩ := bd_elim hf
    refine b_get hM (hW.at_ a) 10 12 ha rfl rfl (by decide) wi_X12 (wgm fk_RX12_76) (x := .ref q10) (by show va_rf _ = _; rw [hq10]; rfl) dX12_count_89 ?_
    obtain ⟨h11, hf⟩ := ck_elim hf
    have h11 := of_decide_eq_true h11
    refine b_get hM (hW.at_ q10) 0 10 h11 rfl rfl (by decide) wi_X1 (wgm fk_RX12_182) (x := .int (gI (S q10) 10)) rfl dX12_count_92 ?_
    cases hf
    exact W.iret hx hb hr (b_ret0 hW (fun _ _ => rfl) _) hW.2.2.2 dX12_count_95 hlk
  have hf := if_f c9 hf
  by_cases c12 : x1 = (4 : Int32)
  · have hf := if_t c12 hf
    refine lv_tableIn (off := 95) (tgt := 96) hx hb dX12_count_1 (by rw [c12]; decide) (by rw [c12]; decide) (by rw [c12]; rfl) (by decide) ?_
    refine lv_aload_n hx hb dX12_count_96 rfl (lv_at hl 0 rfl) ?_
    refine b_get hM (hW.at_ a) 10 2 ha rfl rfl (by decide) wi_X12 (wgm fk_RX12_28) (x := .ref (a + 9)) rfl dX12_count_97 ?_
    obtain ⟨h13, hf⟩ := ck_elim hf
    have h13 := of_decide_eq_true h13
    refine b_get hM (hW.at_ (a + 9)) 2 6 h13 rfl rfl (by decide) wi_X3 (wgm fk_RX12_185) (x := .int (gI (S (a + 9)) 6)) rfl dX12_count_100 ?_
    cases hf
    exact W.iret hx hb hr (b_ret0 hW (fun _ _ => rfl) _) hW.2.2.2 dX12_count_103 hlk
  have hf := if_f c12 hf
  by_cases c14 : x1 = (5 : Int32)
  · have hf := if_t c14 hf
    refine lv_tableIn (off := 103) (tgt := 104) hx hb dX12_count_1 (by rw [c14]; decide) (by rw [c14]; decide) (by rw [c14]; rfl) (by decide) ?_
    refine lv_aload_n hx hb dX12_count_104 rfl (lv_at hl 0 rfl) ?_
    refine b_get hM (hW.at_ a) 10 2 ha rfl rfl (by decide) wi_X12 (wgm fk_RX12_28) (x := .ref (a + 9)) rfl dX12_count_105 ?_
    obtain ⟨h15, hf⟩ := ck_elim hf
    have h15 := of_decide_eq_true h15
    refine b_get hM (hW.at_ (a + 9)) 2 8 h15 rfl rfl (by decide) wi_X3 (wgm fk_RX12_188) (x := .int (gI (S (a + 9)) 8)) rfl dX12_count_108 ?_
    cases hf
    exact W.iret hx hb hr (b_ret0 hW (fun _ _ => rfl) _) hW.2.2.2 dX12_count_111 hlk
  have hf := if_f c14 hf
  by_cases c16 : x1 = (6 : Int32)
  · have hf := if_t c16 hf
    refine lv_tableIn (off := 111) (tgt := 112) hx hb dX12_count_1 (by rw [c16]; decide) (by rw [c16]; decide) (by rw [c16]; rfl) (by decide) ?_
    refine lv_aload_n hx hb dX12_count_112 rfl (lv_at hl 0 rfl) ?_
    refine b_get hM (hW.at_ a) 10 2 ha rfl rfl (by decide) wi_X12 (wgm fk_RX12_28) (x := .ref (a + 9)) rfl dX12_count_113 ?_
    obtain ⟨h17, hf⟩ := ck_elim hf
    have h17 := of_decide_eq_true h17
    obtain ⟨r18, hr18, hf⟩ := bd_elim hf
    refine s_callVi [] [] hM hml hl.1 hW h17 rfl (by decide) (Ct_rd (c_X3_allCoins l G fu _ (a + 9) (S (a + 9)) h17 hr18)) (cwV 0 hM.2.2.2.1 (gV mk_RX12_191 im_X3_allCoins se_X3_allCoins it_RX3 cd_X3_allCoins) rfl rfl rfl (by decide +kernel) ⟨Nat.le_of_ble_eq_true rfl, Nat.le_of_ble_eq_true rfl⟩) rfl rfl (Nat.le_of_ble_eq_true rfl) ⟨Nat.zero_le _, Nat.zero_le _⟩ dX12_count_116 (fun H locs hW hk => ?_)
    cases hf
    exact W.iret hx hb hr (b_ret0 hW (fun _ _ => rfl) _) hW.2.2.2 dX12_count_119 hlk
  have hf := if_f c16 hf
  by_cases c19 : x1 = (7 : Int32)
  · have hf := if_t c19 hf
    refine lv_tableIn (off := 119) (tgt := 120) hx hb dX12_count_1 (by rw [c19]; decide) (by rw [c19]; decide) (by rw [c19]; rfl) (by decide) ?_
    refine lv_aload_n hx hb dX12_count_120 rfl (lv_at hl 0 rfl) ?_
    refine b_get hM (hW.at_ a) 10 2 ha rfl rfl (by decide) wi_X12 (wgm fk_RX12_28) (x := .ref (a + 9)) rfl dX12_count_121 ?_
    obtain ⟨h20, hf⟩ := ck_elim hf
    have h20 := of_decide_eq_true h20
    refine b_get hM (hW.at_ (a + 9)) 2 9 h20 rfl rfl (by decide) wi_X3 (wgm fk_RX12_195) (x := .int (gI (S (a + 9)) 9)) rfl dX12_count_124 ?_
    cases hf
    exact W.iret hx hb hr (b_ret0 hW (fun _ _ => rfl) _) hW.2.2.2 dX12_count_127 hlk
  have hf := if_f c19 hf
  by_cases c21 : x1 = (8 : Int32)
  · have hf := if_t c21 hf
    refine lv_tableIn (off := 127) (tgt := 128) hx hb dX12_count_1 (by rw [c21]; decide) (by rw [c21]; decide) (by rw [c21]; rfl) (by decide) ?_
    refine lv_aload_n hx hb dX12_count_128 rfl (lv_at hl 0 rfl) ?_
    obtain ⟨q22, hq22, hf⟩ := bd_elim hf
    refine b_get hM (hW.at_ a) 10 14 ha rfl rfl (by decide) wi_X12 (wgm fk_RX12_86) (x := .ref q22) (by show va_rf _ = _; rw [hq22]; rfl) dX12_count_129 ?_
    obtain ⟨h23, hf⟩ := ck_elim hf
    have h23 := of_decide_eq_true h23
    refine b_get hM (hW.at_ q22) 5 4 h23 rfl rfl (by decide) wi_X6 (wgm fk_RX12_124) (x := .int (gI (S q22) 4)) rfl dX12_count_132 ?_
    cases hf
    exact W.iret hx hb hr (b_ret0 hW (fun _ _ => rfl) _) hW.2.2.2 dX12_count_135 hlk
  have hf := if_f c21 hf
  by_cases c24 : x1 = (9 : Int32)
  · have hf := if_t c24 hf
    refine lv_tableIn (off := 135) (tgt := 136) hx hb dX12_count_1 (by rw [c24]; decide) (by rw [c24]; decide) (by rw [c24]; rfl) (by decide) ?_
    refine lv_aload_n hx hb dX12_count_136 rfl (lv_at hl 0 rfl) ?_
    refine b_get hM (hW.at_ a) 10 2 ha rfl rfl (by decide) wi_X12 (wgm fk_RX12_28) (x := .ref (a + 9)) rfl dX12_count_137 ?_
    obtain ⟨h25, hf⟩ := ck_elim hf
    have h25 := of_decide_eq_true h25
    refine b_get hM (hW.at_ (a + 9)) 2 10 h25 rfl rfl (by decide) wi_X3 (wgm fk_RX12_198) (x := .int (gI (S (a + 9)) 10)) rfl dX12_count_140 ?_
    cases hf
    exact W.iret hx hb hr (b_ret0 hW (fun _ _ => rfl) _) hW.2.2.2 dX12_count_143 hlk
  have hf := if_f c24 hf
  by_cases c26 : x1 = (10 : Int32)
  · have hf := if_t c26 hf
    refine lv_tableIn (off := 143) (tgt := 144) hx hb dX12_count_1 (by rw [c26]; decide) (by rw [c26]; decide) (by rw [c26]; rfl) (by decide) ?_
    refine lv_aload_n hx hb dX12_count_144 rfl (lv_at hl 0 rfl) ?_
    refine b_get hM (hW.at_ a) 10 17 ha rfl rfl (by decide) wi_X12 (wgm fk_RX12_97) (x := .int (gI (S a) 17)) rfl dX12_count_145 ?_
    cases hf
    exact W.iret hx hb hr (b_ret0 hW (fun _ _ => rfl) _) hW.2.2.2 dX12_count_148 hlk
  have hf := if_f c26 hf
  by_cases c27 : x1 = (11 : Int32)
  · have hf := if_t c27 hf
    refine lv_tableIn (off := 148) (tgt := 149) hx hb dX12_count_1 (by rw [c27]; decide) (by rw [c27]; decide) (by rw [c27]; rfl) (by decide) ?_
    refine lv_aload_n hx hb dX12_count_149 rfl (lv_at hl 0 rfl) ?_
    refine b_get hM (hW.at_ a) 10 0 ha rfl rfl (by decide) wi_X12 (wgm fk_RX12_12) (x := .ref (a + 1)) rfl dX12_count_150 ?_
    obtain ⟨h28, hf⟩ := ck_elim hf
    have h28 := of_decide_eq_true h28
    refine b_get hM (hW.at_ (a + 1)) 7 6 h28 rfl rfl (by decide) wi_X8 (wgm fk_RX12_107) (x := .int (gI (S (a + 1)) 6)) rfl dX12_count_153 ?_
    cases hf
    exact W.iret hx hb hr (b_ret0 hW (fun _ _ => rfl) _) hW.2.2.2 dX12_count_156 hlk
  have hf := if_f c27 hf
  refine lv_tableOut (tgt := 157) hx hb dX12_count_1 (sw_out (fun j h1 h2 hj => ?_)) (by decide) ?_
  · have hcases : j = 0 ∨ j = 1 ∨ j = 2 ∨ j = 3 ∨ j = 4 ∨ j = 5 ∨ j = 6 ∨ j = 7 ∨ j = 8 ∨ j = 9 ∨ j = 10 ∨ j = 11 := by omega
    rcases hcases with rfl | rfl | rfl | rfl | rfl | rfl | rfl | rfl | rfl | rfl | rfl | rfl
    · exact c1 (Int32.toInt_inj.mp (hj.trans (by decide)))
    · exact c4 (Int32.toInt_inj.mp (hj.trans (by decide)))
    · exact c6 (Int32.toInt_inj.mp (hj.trans (by decide)))
    · exact c9 (Int32.toInt_inj.mp (hj.trans (by decide)))
    · exact c12 (Int32.toInt_inj.mp (hj.trans (by decide)))
    · exact c14 (Int32.toInt_inj.mp (hj.trans (by decide)))
    · exact c16 (Int32.toInt_inj.mp (hj.trans (by decide)))
    · exact c19 (Int32.toInt_inj.mp (hj.trans (by decide)))
    · exact c21 (Int32.toInt_inj.mp (hj.trans (by decide)))
    · exact c24 (Int32.toInt_inj.mp (hj.trans (by decide)))
    · exact c26 (Int32.toInt_inj.mp (hj.trans (by decide)))
    · exact c27 (Int32.toInt_inj.mp (hj.trans (by decide)))
  · refine lv_iconst (v := (-1 : Int32)) hx hb dX12_count_157 (by decide) ?_
    cases hf
    exact W.iret hx hb hr (b_ret0 hW (fun _ _ => rfl) _) hW.2.2.2 dX12_count_158 hlk
noncomputable def f_X12_count (fu : Nat) (S : ST) (a : Nat) (x1 : Int32) : Option (Int32) := f_X12_count_0 fu S a x1
set_option maxHeartbeats 4000000 in
set_option maxRecDepth 100000 in
theorem c_X12_count (l : Launch) (G : GG) (fu : Nat) (S : ST) (a : Nat) (x1 : Int32) {z : Int32} (ha : gC (S a) = 11) (hf : f_X12_count fu S a x1 = some z) : Ct l yX12_count w_X12_count RM_X12_count G S [.ref a, .int x1] (some (.int z)) S 0 0 := by
  refine Met.ofW (cc := cX12_count) (maxL := 2) (ret := (some .int)) (by decide) rfl ?_
  intro p e s m args below meth c s₁ B hml hv
  obtain ⟨rfl, hB, hK, hz⟩ := hv
  have hM : MC G p s m _ c cX12_count w_X12_count RX12 := ⟨B.exec, B.bytes, findClass_of_methodNamed B.named, atoms_spec (ws := w_X12_count) B.pre, hK, hz⟩
  have hW : WB G S s s.heap [] := ⟨hB, va_S.rf⟩
  have hl := lv_entry ([.ref a, .int x1]) (n := 2) (Nat.le_of_ble_eq_true rfl)
  rw [lg_entry_eq]
  generalize (lg_sl ([.ref a, .int x1]) ++ List.replicate (2 - (lg_sl ([.ref a, .int x1])).length) Slot.unset).toArray = ls at hl ⊢
  have hl : lv_has ls 2 [(0, .ref a), (1, .int x1)] := hl
  exact t_X12_count_0 (fu := fu) hM hml B.returns B.notSynchronized ha hf _ _ hW _ (lv_sub hl [0, 1] rfl)
abbrev RM_X12_pastRow : Room := { frames := 0, cells := 0, slots := 0, locals := 0 }
abbrev w_X12_pastRow : List Cond := Cond.code yX12_pastRow cX12_pastRow 2 (some .int) :: wsL_law0
noncomputable def f_X12_pastRow_0 (fu : Nat)  (v : GV) (x1 : Int32) : Option (Int32) :=
  some ((((gI v 16) + x1) - ((gI v 16) + x1) / (17 : Int32) * (17 : Int32)))
set_option maxHeartbeats 4000000 in
set_option maxRecDepth 100000 in
theorem t_X12_pastRow_0 {G : GG} {p : Program} {l : Launch} {e : Env} {s : State} {m : MethodId} {args : Array Value} {below : List Frame} {meth : Method} {c : Code} {S : ST} {fu : Nat} {z : Int32} {a : Nat} {v : GV}  {x1 : Int32} (hM : MC G p s m args c cX12_pastRow w_X12_pastRow RX12) (hml : c.maxLocals = 2) (hr : meth.sig.returnType = (some .int)) (hlk : meth.locks = false) (hc0 : gC v = 11)  (hf : f_X12_pastRow_0 fu  v  x1 = some z) : ∀ (H : Heap) (locs : List Loc), WB G (st S a v) s H locs → ∀ (ls : Array Slot), lv_has ls 2 [(0, .ref a), (1, .int x1)] → W p l e RM_X12_pastRow s m args below meth c H locs 0 0 (QR G below args s (some (.int z)) (st S a v) (st S a v)) (F0 m 0 ls []) := by
  intro  H locs hW ls hl
  have hx := hM.1
  have hb := hM.2.1
  have hc := hc0
  refine lv_aload_n hx hb dX12_pastRow_0 rfl (lv_at hl 0 rfl) ?_
  refine b_get hM hW 10 16 hc rfl rfl (by decide) wi_X12 (wgm fk_RX12_93) (x := .int (gI v 16)) rfl dX12_pastRow_1 ?_
  refine lv_iload_n hx hb dX12_pastRow_4 rfl (lv_at hl 1 rfl) ?_
  refine lv_iadd hx hb dX12_pastRow_5 ?_
  refine lv_bipush (v := (17 : Int32)) hx hb dX12_pastRow_6 (by decide) ?_
  refine lv_irem hx hb dX12_pastRow_8 (by decide) ?_
  cases hf
  exact W.iret hx hb hr (b_ret0 hW (fun _ _ => rfl) _) hW.2.2.2 dX12_pastRow_9 hlk
noncomputable def f_X12_pastRow (fu : Nat) (v : GV) (x1 : Int32) : Option (Int32) := f_X12_pastRow_0 fu v x1
set_option maxHeartbeats 4000000 in
set_option maxRecDepth 100000 in
theorem c_X12_pastRow (l : Launch) (G : GG) (fu : Nat) (S : ST) (a : Nat) (v : GV) (x1 : Int32) {z : Int32} (hc : gC v = 11) (hf : f_X12_pastRow fu v x1 = some z) : Ct l yX12_pastRow w_X12_pastRow RM_X12_pastRow G (st S a v) [.ref a, .int x1] (some (.int z)) (st S a v) 0 0 := by
  refine Met.ofW (cc := cX12_pastRow) (maxL := 2) (ret := (some .int)) (by decide) rfl ?_
  intro p e s m args below meth c s₁ B hml hv
  obtain ⟨rfl, hB, hK, hz⟩ := hv
  have hM : MC G p s m _ c cX12_pastRow w_X12_pastRow RX12 := ⟨B.exec, B.bytes, findClass_of_methodNamed B.named, atoms_spec (ws := w_X12_pastRow) B.pre, hK, hz⟩
  have hW : WB G (st S a v) s s.heap [] := ⟨hB, va_S.rf⟩
  have hl := lv_entry ([.ref a, .int x1]) (n := 2) (Nat.le_of_ble_eq_true rfl)
  rw [lg_entry_eq]
  generalize (lg_sl ([.ref a, .int x1]) ++ List.replicate (2 - (lg_sl ([.ref a, .int x1])).length) Slot.unset).toArray = ls at hl ⊢
  have hl : lv_has ls 2 [(0, .ref a), (1, .int x1)] := hl
  exact t_X12_pastRow_0 (fu := fu) hM hml B.returns B.notSynchronized hc hf _ _ hW _ (lv_sub hl [0, 1] rfl)
abbrev RM_X12_noteNow : Room := { frames := 2, cells := 0, slots := 0, locals := 81 }
abbrev w_X12_noteNow : List Cond := Cond.code yX12_noteNow cX12_noteNow 1 none :: wsL_law0
noncomputable def f_X12_noteNow_0 (fu : Nat)  (S : ST) (a : Nat) : Option (ST) :=
  bd (f_X12_pastRow fu (S a) (gI (S a) 17)) fun r1 =>
  ck (inb r1 17) <|
  bd (gQ (S a) 4 r1.toNatClampNeg) fun q3 =>
  ck (decide (gC (S q3) = 3)) <|
  ck (decide (gC (S (a + 9)) = 3)) <|
  bd (f_X3_takeNights fu S q3 (a + 9)) fun S7 =>
  some S7
set_option maxHeartbeats 4000000 in
set_option maxRecDepth 100000 in
theorem t_X12_noteNow_0 {G : GG} {p : Program} {l : Launch} {e : Env} {s : State} {m : MethodId} {args : Array Value} {below : List Frame} {meth : Method} {c : Code} {S0 : ST} {fu : Nat} {z : ST} {a : Nat}  {S : ST} (hM : MC G p s m args c cX12_noteNow w_X12_noteNow RX12) (hml : c.maxLocals = 1) (hr : meth.sig.returnType = none) (hlk : meth.locks = false)   (hf : f_X12_noteNow_0 fu  S a  = some z) : (gC (S a) = 11) → (∀ b, gC (S0 b) ≠ 0 → gC (S b) = gC (S0 b)) → ∀ (H : Heap) (locs : List Loc), WB G S s H locs → ∀ (ls : Array Slot), lv_has ls 1 [(0, .ref a)] → W p l e RM_X12_noteNow s m args below meth c H locs 0 0 (QR G below args s none S0 z) (F0 m 0 ls []) := by
  intro ha hK0 H locs hW ls hl
  have hx := hM.1
  have hb := hM.2.1
  refine lv_aload_n hx hb dX12_noteNow_0 rfl (lv_at hl 0 rfl) ?_
  refine b_get hM (hW.at_ a) 10 4 ha rfl rfl (by decide) wi_X12 (wgm fk_RX12_35) (x := .ref (a + 23)) rfl dX12_noteNow_1 ?_
  refine lv_aload_n hx hb dX12_noteNow_4 rfl (lv_at hl 0 rfl) ?_
  refine lv_aload_n hx hb dX12_noteNow_5 rfl (lv_at hl 0 rfl) ?_
  refine b_get hM (hW.at_ a) 10 17 ha rfl rfl (by decide) wi_X12 (wgm fk_RX12_97) (x := .int (gI (S a) 17)) rfl dX12_noteNow_6 ?_
  obtain ⟨r1, hr1, hf⟩ := bd_elim hf
  refine s_callVi [.int (gI (S a) 17)] [.ref (a + 23)] hM hml hl.1 hW ha rfl (by decide) (Ct_rd (c_X12_pastRow l G fu _ a (S a) _ ha hr1)) (cwV 1 hM.2.2.2.1 (gV mk_RX12_227 im_X12_pastRow se_X12_pastRow it_RX12 cd_X12_pastRow) rfl rfl rfl (by decide +kernel) ⟨Nat.le_of_ble_eq_true rfl, Nat.le_of_ble_eq_true rfl⟩) rfl rfl (Nat.le_of_ble_eq_true rfl) ⟨Nat.zero_le _, Nat.zero_le _⟩ dX12_noteNow_9 (fun H locs hW hk => ?_)
  obtain ⟨h2, hf⟩ := ck_elim hf
  obtain ⟨q3, hq3, hf⟩ := bd_elim hf
  refine b_aald (n := 17) hM (hW.at_ a) 10 4 ha (by decide) rfl rfl rfl rfl h2 hq3 dX12_noteNow_12 ?_
  obtain ⟨h4, hf⟩ := ck_elim hf
  have h4 := of_decide_eq_true h4
  refine lv_aload_n hx hb dX12_noteNow_13 rfl (lv_at hl 0 rfl) ?_
  refine b_get hM (hW.at_ a) 10 2 ha rfl rfl (by decide) wi_X12 (wgm fk_RX12_28) (x := .ref (a + 9)) rfl dX12_noteNow_14 ?_
  obtain ⟨h5, hf⟩ := ck_elim hf
  have h5 := of_decide_eq_true h5
  obtain ⟨S7, hr6, hf⟩ := bd_elim hf
  refine s_callVv [.ref (a + 9)] [] hM hml hl.1 hW h4 rfl (by decide) (c_X3_takeNights l G fu _ q3 _ h4 h5 hr6) (cwV 1 hM.2.2.2.1 (gV mk_RX12_230 im_X3_takeNights se_X3_takeNights it_RX3 cd_X3_takeNights) rfl rfl rfl (by decide +kernel) ⟨Nat.le_of_ble_eq_true rfl, Nat.le_of_ble_eq_true rfl⟩) rfl rfl (Nat.le_of_ble_eq_true rfl) ⟨Nat.zero_le _, Nat.zero_le _⟩ dX12_noteNow_17 (fun H locs hW hk => ?_)
  have ha := keep1 hk ha
  have h4 := keep1 hk h4
  have h5 := keep1 hk h5
  have hK0 := keep_tr hK0 hk
  cases hf
  exact W.vret hx hb hr (b_ret0 hW hK0 _) hW.2.2.2 dX12_noteNow_20 hlk
noncomputable def f_X12_noteNow (fu : Nat) (S : ST) (a : Nat) : Option (ST) := f_X12_noteNow_0 fu S a
set_option maxHeartbeats 4000000 in
set_option maxRecDepth 100000 in
theorem c_X12_noteNow (l : Launch) (G : GG) (fu : Nat) (S : ST) (a : Nat) {z : ST} (ha : gC (S a) = 11) (hf : f_X12_noteNow fu S a = some z) : Ct l yX12_noteNow w_X12_noteNow RM_X12_noteNow G S [.ref a] none z 0 0 := by
  refine Met.ofW (cc := cX12_noteNow) (maxL := 1) (ret := none) (by decide) rfl ?_
  intro p e s m args below meth c s₁ B hml hv
  obtain ⟨rfl, hB, hK, hz⟩ := hv
  have hM : MC G p s m _ c cX12_noteNow w_X12_noteNow RX12 := ⟨B.exec, B.bytes, findClass_of_methodNamed B.named, atoms_spec (ws := w_X12_noteNow) B.pre, hK, hz⟩
  have hW : WB G S s s.heap [] := ⟨hB, va_S.rf⟩
  have hl := lv_entry ([.ref a]) (n := 1) (Nat.le_of_ble_eq_true rfl)
  rw [lg_entry_eq]
  generalize (lg_sl ([.ref a]) ++ List.replicate (1 - (lg_sl ([.ref a])).length) Slot.unset).toArray = ls at hl ⊢
  have hl : lv_has ls 1 [(0, .ref a)] := hl
  exact t_X12_noteNow_0 (fu := fu) hM hml B.returns B.notSynchronized hf ha (fun _ _ => rfl) _ _ hW _ (lv_sub hl [0] rfl)
abbrev RM_X12_keepNoted : Room := { frames := 1, cells := 0, slots := 0, locals := 21 }
abbrev w_X12_keepNoted : List Cond := Cond.code yX12_keepNoted cX12_keepNoted 1 none :: wsL_law0
noncomputable def f_X12_keepNoted_0 (fu : Nat)  (v : GV) : Option (GV) :=
  if (16 : Int32) ≤ (gI v 17) then
    (bd (f_X12_pastRow fu v (1 : Int32)) fun r2 =>
    nm (sI v 16 r2) fun v3 =>
    some v3)
  else
    (nm (sI v 17 ((gI v 17) + (1 : Int32))) fun v4 =>
    some v4)
set_option maxHeartbeats 4000000 in
set_option maxRecDepth 100000 in
theorem t_X12_keepNoted_0 {G : GG} {p : Program} {l : Launch} {e : Env} {s : State} {m : MethodId} {args : Array Value} {below : List Frame} {meth : Method} {c : Code} {S : ST} {fu : Nat} {z : GV} {a : Nat} {v0 : GV}  {v : GV} (hM : MC G p s m args c cX12_keepNoted w_X12_keepNoted RX12) (hml : c.maxLocals = 1) (hr : meth.sig.returnType = none) (hlk : meth.locks = false) (hc0 : gC v0 = 11)  (hf : f_X12_keepNoted_0 fu  v   = some z) : (gC v = 11) → ∀ (H : Heap) (locs : List Loc), WB G (st S a v) s H locs → ∀ (ls : Array Slot), lv_has ls 1 [(0, .ref a)] → W p l e RM_X12_keepNoted s m args below meth c H locs 0 0 (QR G below args s none (st S a v0) (st S a z)) (F0 m 0 ls []) := by
  intro hc H locs hW ls hl
  have hx := hM.1
  have hb := hM.2.1
  refine lv_aload_n hx hb dX12_keepNoted_0 rfl (lv_at hl 0 rfl) ?_
  refine b_get hM hW 10 17 hc rfl rfl (by decide) wi_X12 (wgm fk_RX12_97) (x := .int (gI v 17)) rfl dX12_keepNoted_1 ?_
  refine lv_bipush (v := (16 : Int32)) hx hb dX12_keepNoted_4 (by decide) ?_
  refine lv_icmp_ge (tgt := 22) hx hb dX12_keepNoted_6 (by decide) (fun c1 => ?_) (fun c1 => ?_)
  · have hf := if_t c1 hf
    refine lv_aload_n hx hb dX12_keepNoted_22 rfl (lv_at hl 0 rfl) ?_
    refine lv_aload_n hx hb dX12_keepNoted_23 rfl (lv_at hl 0 rfl) ?_
    refine lv_iconst (v := (1 : Int32)) hx hb dX12_keepNoted_24 (by decide) ?_
    obtain ⟨r2, hr2, hf⟩ := bd_elim hf
    refine b_callVi [.int (1 : Int32)] [.ref a] hM hml hl.1 hW hc rfl (by decide) (c_X12_pastRow l G fu _ a v _ hc hr2) (cwV 1 hM.2.2.2.1 (gV mk_RX12_227 im_X12_pastRow se_X12_pastRow it_RX12 cd_X12_pastRow) rfl rfl rfl (by decide +kernel) ⟨Nat.le_of_ble_eq_true rfl, Nat.le_of_ble_eq_true rfl⟩) rfl rfl (Nat.le_of_ble_eq_true rfl) ⟨Nat.zero_le _, Nat.zero_le _⟩ dX12_keepNoted_25 (fun H locs hW hk => ?_)
    refine b_putI hM hW 10 16 hc rfl rfl (by decide) wi_X12 tyX12 tyX12_ok nmX12 (wgm fk_RX12_93) rfl rfl rfl dX12_keepNoted_28 (fun v3 ev3 hc H locs hW => ?_)
    have hf := nm_at ev3 hf
    cases hf
    exact W.vret hx hb hr (b_ret0 hW (keep_s2 hc0 hc) _) hW.2.2.2 dX12_keepNoted_31 hlk
  · have hf := if_f c1 hf
    refine lv_aload_n hx hb dX12_keepNoted_9 rfl (lv_at hl 0 rfl) ?_
    refine lv_dup hx hb dX12_keepNoted_10 rfl ?_
    refine b_get hM hW 10 17 hc rfl rfl (by decide) wi_X12 (wgm fk_RX12_97) (x := .int (gI v 17)) rfl dX12_keepNoted_11 ?_
    refine lv_iconst (v := (1 : Int32)) hx hb dX12_keepNoted_14 (by decide) ?_
    refine lv_iadd hx hb dX12_keepNoted_15 ?_
    refine b_putI hM hW 10 17 hc rfl rfl (by decide) wi_X12 tyX12 tyX12_ok nmX12 (wgm fk_RX12_97) rfl rfl rfl dX12_keepNoted_16 (fun v4 ev4 hc H locs hW => ?_)
    have hf := nm_at ev4 hf
    refine lv_goto (tgt := 31) hx hb dX12_keepNoted_19 (by decide) ?_
    cases hf
    exact W.vret hx hb hr (b_ret0 hW (keep_s2 hc0 hc) _) hW.2.2.2 dX12_keepNoted_31 hlk
noncomputable def f_X12_keepNoted (fu : Nat) (v : GV) : Option (GV) := f_X12_keepNoted_0 fu v
set_option maxHeartbeats 4000000 in
set_option maxRecDepth 100000 in
theorem c_X12_keepNoted (l : Launch) (G : GG) (fu : Nat) (S : ST) (a : Nat) (v : GV) {z : GV} (hc : gC v = 11) (hf : f_X12_keepNoted fu v = some z) : Ct l yX12_keepNoted w_X12_keepNoted RM_X12_keepNoted G (st S a v) [.ref a] none (st S a z) 0 0 := by
  refine Met.ofW (cc := cX12_keepNoted) (maxL := 1) (ret := none) (by decide) rfl ?_
  intro p e s m args below meth c s₁ B hml hv
  obtain ⟨rfl, hB, hK, hz⟩ := hv
  have hM : MC G p s m _ c cX12_keepNoted w_X12_keepNoted RX12 := ⟨B.exec, B.bytes, findClass_of_methodNamed B.named, atoms_spec (ws := w_X12_keepNoted) B.pre, hK, hz⟩
  have hW : WB G (st S a v) s s.heap [] := ⟨hB, va_S.rf⟩
  have hl := lv_entry ([.ref a]) (n := 1) (Nat.le_of_ble_eq_true rfl)
  rw [lg_entry_eq]
  generalize (lg_sl ([.ref a]) ++ List.replicate (1 - (lg_sl ([.ref a])).length) Slot.unset).toArray = ls at hl ⊢
  have hl : lv_has ls 1 [(0, .ref a)] := hl
  exact t_X12_keepNoted_0 (fu := fu) hM hml B.returns B.notSynchronized hc hf hc _ _ hW _ (lv_sub hl [0] rfl)
abbrev RM_X12_keptUnlessNone : Room := { frames := 2, cells := 0, slots := 0, locals := 41 }
abbrev w_X12_keptUnlessNone : List Cond := Cond.code yX12_keptUnlessNone cX12_keptUnlessNone 2 (some .int) :: wsL_law0
noncomputable def f_X12_keptUnlessNone_9 (fu : Nat)  (v : GV) (x1 : Int32) : Option (Int32 × GV) :=
  some (x1, v)
set_option maxHeartbeats 4000000 in
set_option maxRecDepth 100000 in
theorem t_X12_keptUnlessNone_9 {G : GG} {p : Program} {l : Launch} {e : Env} {s : State} {m : MethodId} {args : Array Value} {below : List Frame} {meth : Method} {c : Code} {S : ST} {fu : Nat} {z : Int32 × GV} {a : Nat} {v0 : GV}  {v : GV} {x1 : Int32} (hM : MC G p s m args c cX12_keptUnlessNone w_X12_keptUnlessNone RX12) (hml : c.maxLocals = 2) (hr : meth.sig.returnType = (some .int)) (hlk : meth.locks = false) (hc0 : gC v0 = 11)  (hf : f_X12_keptUnlessNone_9 fu  v  x1 = some z) : (gC v = 11) → ∀ (H : Heap) (locs : List Loc), WB G (st S a v) s H locs → ∀ (ls : Array Slot), lv_has ls 2 [(1, .int x1)] → W p l e RM_X12_keptUnlessNone s m args below meth c H locs 0 0 (QR G below args s (some (.int z.1)) (st S a v0) (st S a z.2)) (F0 m 9 ls []) := by
  intro hc H locs hW ls hl
  have hx := hM.1
  have hb := hM.2.1
  refine lv_iload_n hx hb dX12_keptUnlessNone_9 rfl (lv_at hl 0 rfl) ?_
  cases hf
  exact W.iret hx hb hr (b_ret0 hW (keep_s2 hc0 hc) _) hW.2.2.2 dX12_keptUnlessNone_10 hlk
noncomputable def f_X12_keptUnlessNone_0 (fu : Nat)  (v : GV) (x1 : Int32) : Option (Int32 × GV) :=
  if x1 = (-1 : Int32) then
    (f_X12_keptUnlessNone_9 fu v x1)
  else
    (bd (f_X12_keepNoted fu v) fun v3 =>
    f_X12_keptUnlessNone_9 fu v3 x1)
set_option maxHeartbeats 4000000 in
set_option maxRecDepth 100000 in
theorem t_X12_keptUnlessNone_0 {G : GG} {p : Program} {l : Launch} {e : Env} {s : State} {m : MethodId} {args : Array Value} {below : List Frame} {meth : Method} {c : Code} {S : ST} {fu : Nat} {z : Int32 × GV} {a : Nat} {v0 : GV}  {v : GV} {x1 : Int32} (hM : MC G p s m args c cX12_keptUnlessNone w_X12_keptUnlessNone RX12) (hml : c.maxLocals = 2) (hr : meth.sig.returnType = (some .int)) (hlk : meth.locks = false) (hc0 : gC v0 = 11)  (hf : f_X12_keptUnlessNone_0 fu  v  x1 = some z) : (gC v = 11) → ∀ (H : Heap) (locs : List Loc), WB G (st S a v) s H locs → ∀ (ls : Array Slot), lv_has ls 2 [(0, .ref a), (1, .int x1)] → W p l e RM_X12_keptUnlessNone s m args below meth c H locs 0 0 (QR G below args s (some (.int z.1)) (st S a v0) (st S a z.2)) (F0 m 0 ls []) := by
  intro hc H locs hW ls hl
  have hx := hM.1
  have hb := hM.2.1
  refine lv_iload_n hx hb dX12_keptUnlessNone_0 rfl (lv_at hl 1 rfl) ?_
  refine lv_iconst (v := (-1 : Int32)) hx hb dX12_keptUnlessNone_1 (by decide) ?_
  refine lv_icmp_eq (tgt := 9) hx hb dX12_keptUnlessNone_2 (by decide) (fun c1 => ?_) (fun c1 => ?_)
  · have hf := if_t c1 hf
    exact t_X12_keptUnlessNone_9 (fu := fu) hM hml hr hlk hc0 hf hc _ _ hW _ (lv_sub hl [1] rfl)
  · have hf := if_f c1 hf
    refine lv_aload_n hx hb dX12_keptUnlessNone_5 rfl (lv_at hl 0 rfl) ?_
    obtain ⟨v3, hr2, hf⟩ := bd_elim hf
    refine b_callVv [] [] hM hml hl.1 hW hc rfl (by decide) (c_X12_keepNoted l G fu _ a v hc hr2) (cwV 0 hM.2.2.2.1 (gV mk_RX12_221 im_X12_keepNoted se_X12_keepNoted it_RX12 cd_X12_keepNoted) rfl rfl rfl (by decide +kernel) ⟨Nat.le_of_ble_eq_true rfl, Nat.le_of_ble_eq_true rfl⟩) rfl rfl (Nat.le_of_ble_eq_true rfl) ⟨Nat.zero_le _, Nat.zero_le _⟩ dX12_keptUnlessNone_6 (fun H locs hW hk => ?_)
    have hc := keep_at hc hk
    exact t_X12_keptUnlessNone_9 (fu := fu) hM hml hr hlk hc0 hf hc _ _ hW _ (lv_sub hl [1] rfl)
noncomputable def f_X12_keptUnlessNone (fu : Nat) (v : GV) (x1 : Int32) : Option (Int32 × GV) := f_X12_keptUnlessNone_0 fu v x1
set_option maxHeartbeats 4000000 in
set_option maxRecDepth 100000 in
theorem c_X12_keptUnlessNone (l : Launch) (G : GG) (fu : Nat) (S : ST) (a : Nat) (v : GV) (x1 : Int32) {z : Int32} {w : GV} (hc : gC v = 11) (hf : f_X12_keptUnlessNone fu v x1 = some (z, w)) : Ct l yX12_keptUnlessNone w_X12_keptUnlessNone RM_X12_keptUnlessNone G (st S a v) [.ref a, .int x1] (some (.int z)) (st S a w) 0 0 := by
  refine Met.ofW (cc := cX12_keptUnlessNone) (maxL := 2) (ret := (some .int)) (by decide) rfl ?_
  intro p e s m args below meth c s₁ B hml hv
  obtain ⟨rfl, hB, hK, hz⟩ := hv
  have hM : MC G p s m _ c cX12_keptUnlessNone w_X12_keptUnlessNone RX12 := ⟨B.exec, B.bytes, findClass_of_methodNamed B.named, atoms_spec (ws := w_X12_keptUnlessNone) B.pre, hK, hz⟩
  have hW : WB G (st S a v) s s.heap [] := ⟨hB, va_S.rf⟩
  have hl := lv_entry ([.ref a, .int x1]) (n := 2) (Nat.le_of_ble_eq_true rfl)
  rw [lg_entry_eq]
  generalize (lg_sl ([.ref a, .int x1]) ++ List.replicate (2 - (lg_sl ([.ref a, .int x1])).length) Slot.unset).toArray = ls at hl ⊢
  have hl : lv_has ls 2 [(0, .ref a), (1, .int x1)] := hl
  exact t_X12_keptUnlessNone_0 (fu := fu) hM hml B.returns B.notSynchronized hc hf hc _ _ hW _ (lv_sub hl [0, 1] rfl)
abbrev RM_X12_steal : Room := { frames := 3, cells := 0, slots := 0, locals := 101 }
abbrev w_X12_steal : List Cond := Cond.code yX12_steal cX12_steal 3 (some .int) :: wsL_law0
noncomputable def f_X12_steal_0 (fu : Nat)  (S : ST) (a : Nat) (x1 : Int32) (x2 : Int32) : Option (Int32 × ST) :=
  bd (f_X12_noteNow fu S a) fun S2 =>
  ck (decide (gC (S2 (a + 9)) = 3)) <|
  bd (gR (S2 a) 12) fun q4 =>
  ck (decide (gC (S2 q4) = 1)) <|
  bd2 (f_X3_swap fu S2 (a + 9) q4 x1 x2) fun r6 S7 =>
  bd2 (f_X12_keptUnlessNone fu (S7 a) r6) fun r8 v9 =>
  nm (st S7 a v9) fun Sv9 =>
  some (r8, Sv9)
set_option maxHeartbeats 4000000 in
set_option maxRecDepth 100000 in
theorem t_X12_steal_0 {G : GG} {p : Program} {l : Launch} {e : Env} {s : State} {m : MethodId} {args : Array Value} {below : List Frame} {meth : Method} {c : Code} {S0 : ST} {fu : Nat} {z : Int32 × ST} {a : Nat}  {S : ST} {x1 : Int32} {x2 : Int32} (hM : MC G p s m args c cX12_steal w_X12_steal RX12) (hml : c.maxLocals = 3) (hr : meth.sig.returnType = (some .int)) (hlk : meth.locks = false)   (hf : f_X12_steal_0 fu  S a x1 x2 = some z) : (gC (S a) = 11) → (∀ b, gC (S0 b) ≠ 0 → gC (S b) = gC (S0 b)) → ∀ (H : Heap) (locs : List Loc), WB G S s H locs → ∀ (ls : Array Slot), lv_has ls 3 [(0, .ref a), (1, .int x1), (2, .int x2)] → W p l e RM_X12_steal s m args below meth c H locs 0 0 (QR G below args s (some (.int z.1)) S0 z.2) (F0 m 0 ls []) := by
  intro ha hK0 H locs hW ls hl
  have hx := hM.1
  have hb := hM.2.1
  refine lv_aload_n hx hb dX12_steal_0 rfl (lv_at hl 0 rfl) ?_
  obtain ⟨S2, hr1, hf⟩ := bd_elim hf
  refine s_callVv [] [] hM hml hl.1 hW ha rfl (by decide) (c_X12_noteNow l G fu _ a ha hr1) (cwV 0 hM.2.2.2.1 (gV mk_RX12_201 im_X12_noteNow se_X12_noteNow it_RX12 cd_X12_noteNow) rfl rfl rfl (by decide +kernel) ⟨Nat.le_of_ble_eq_true rfl, Nat.le_of_ble_eq_true rfl⟩) rfl rfl (Nat.le_of_ble_eq_true rfl) ⟨Nat.zero_le _, Nat.zero_le _⟩ dX12_steal_1 (fun H locs hW hk => ?_)
  have ha := keep1 hk ha
  have hK0 := keep_tr hK0 hk
  refine lv_aload_n hx hb dX12_steal_4 rfl (lv_at hl 0 rfl) ?_
  refine lv_aload_n hx hb dX12_steal_5 rfl (lv_at hl 0 rfl) ?_
  refine b_get hM (hW.at_ a) 10 2 ha rfl rfl (by decide) wi_X12 (wgm fk_RX12_28) (x := .ref (a + 9)) rfl dX12_steal_6 ?_
  obtain ⟨h3, hf⟩ := ck_elim hf
  have h3 := of_decide_eq_true h3
  refine lv_aload_n hx hb dX12_steal_9 rfl (lv_at hl 0 rfl) ?_
  obtain ⟨q4, hq4, hf⟩ := bd_elim hf
  refine b_get hM (hW.at_ a) 10 12 ha rfl rfl (by decide) wi_X12 (wgm fk_RX12_76) (x := .ref q4) (by show va_rf _ = _; rw [hq4]; rfl) dX12_steal_10 ?_
  obtain ⟨h5, hf⟩ := ck_elim hf
  have h5 := of_decide_eq_true h5
  refine lv_iload_n hx hb dX12_steal_13 rfl (lv_at hl 1 rfl) ?_
  refine lv_iload_n hx hb dX12_steal_14 rfl (lv_at hl 2 rfl) ?_
  obtain ⟨r6, S7, hr6, hf⟩ := bd2_elim hf
  refine s_callVi [.ref q4, .int x1, .int x2] [.ref a] hM hml hl.1 hW h3 rfl (by decide) (c_X3_swap l G fu _ (a + 9) _ _ _ h3 h5 hr6) (cwV 3 hM.2.2.2.1 (gV mk_RX12_204 im_X3_swap se_X3_swap it_RX3 cd_X3_swap) rfl rfl rfl (by decide +kernel) ⟨Nat.le_of_ble_eq_true rfl, Nat.le_of_ble_eq_true rfl⟩) rfl rfl (Nat.le_of_ble_eq_true rfl) ⟨Nat.zero_le _, Nat.zero_le _⟩ dX12_steal_15 (fun H locs hW hk => ?_)
  have ha := keep1 hk ha
  have h3 := keep1 hk h3
  have h5 := keep1 hk h5
  have hK0 := keep_tr hK0 hk
  obtain ⟨r8, v9, hr8, hf⟩ := bd2_elim hf
  refine s_callNi [.int r6] [] hM hml hl.1 hW ha rfl (by decide) (Ct_self (c_X12_keptUnlessNone l G fu _ a (S7 a) _ ha hr8)) (cwV 1 hM.2.2.2.1 (gV mk_RX12_208 im_X12_keptUnlessNone se_X12_keptUnlessNone it_RX12 cd_X12_keptUnlessNone) rfl rfl rfl (by decide +kernel) ⟨Nat.le_of_ble_eq_true rfl, Nat.le_of_ble_eq_true rfl⟩) rfl rfl (Nat.le_of_ble_eq_true rfl) ⟨Nat.zero_le _, Nat.zero_le _⟩ dX12_steal_18 (fun Sv9 ev9 hk H locs hW => ?_)
  have hf := nm_at ev9 hf
  have ha := keep1 hk ha
  have h3 := keep1 hk h3
  have h5 := keep1 hk h5
  have hK0 := keep_tr hK0 hk
  cases hf
  exact W.iret hx hb hr (b_ret0 hW hK0 _) hW.2.2.2 dX12_steal_21 hlk
noncomputable def f_X12_steal (fu : Nat) (S : ST) (a : Nat) (x1 : Int32) (x2 : Int32) : Option (Int32 × ST) := f_X12_steal_0 fu S a x1 x2
set_option maxHeartbeats 4000000 in
set_option maxRecDepth 100000 in
theorem c_X12_steal (l : Launch) (G : GG) (fu : Nat) (S : ST) (a : Nat) (x1 : Int32) (x2 : Int32) {z : Int32} {w : ST} (ha : gC (S a) = 11) (hf : f_X12_steal fu S a x1 x2 = some (z, w)) : Ct l yX12_steal w_X12_steal RM_X12_steal G S [.ref a, .int x1, .int x2] (some (.int z)) w 0 0 := by
  refine Met.ofW (cc := cX12_steal) (maxL := 3) (ret := (some .int)) (by decide) rfl ?_
  intro p e s m args below meth c s₁ B hml hv
  obtain ⟨rfl, hB, hK, hz⟩ := hv
  have hM : MC G p s m _ c cX12_steal w_X12_steal RX12 := ⟨B.exec, B.bytes, findClass_of_methodNamed B.named, atoms_spec (ws := w_X12_steal) B.pre, hK, hz⟩
  have hW : WB G S s s.heap [] := ⟨hB, va_S.rf⟩
  have hl := lv_entry ([.ref a, .int x1, .int x2]) (n := 3) (Nat.le_of_ble_eq_true rfl)
  rw [lg_entry_eq]
  generalize (lg_sl ([.ref a, .int x1, .int x2]) ++ List.replicate (3 - (lg_sl ([.ref a, .int x1, .int x2])).length) Slot.unset).toArray = ls at hl ⊢
  have hl : lv_has ls 3 [(0, .ref a), (1, .int x1), (2, .int x2)] := hl
  exact t_X12_steal_0 (fu := fu) hM hml B.returns B.notSynchronized hf ha (fun _ _ => rfl) _ _ hW _ (lv_sub hl [0, 1, 2] rfl)
abbrev RM_X12_paint : Room := { frames := 4, cells := 0, slots := 0, locals := 101 }
abbrev w_X12_paint : List Cond := Cond.code yX12_paint cX12_paint 4 (some .int) :: wsL_law0
noncomputable def f_X12_paint_0 (fu : Nat)  (S : ST) (a : Nat) (x1 : Int32) (x2 : Int32) (x3 : Int32) : Option (Int32 × ST) :=
  bd (f_X12_noteNow fu S a) fun S2 =>
  ck (decide (gC (S2 (a + 9)) = 3)) <|
  bd (gR (S2 a) 12) fun q4 =>
  ck (decide (gC (S2 q4) = 1)) <|
  bd2 (f_X3_copyOf fu S2 (a + 9) q4 x1 x2 x3) fun r6 S7 =>
  bd2 (f_X12_keptUnlessNone fu (S7 a) r6) fun r8 v9 =>
  nm (st S7 a v9) fun Sv9 =>
  some (r8, Sv9)
set_option maxHeartbeats 4000000 in
set_option maxRecDepth 100000 in
theorem t_X12_paint_0 {G : GG} {p : Program} {l : Launch} {e : Env} {s : State} {m : MethodId} {args : Array Value} {below : List Frame} {meth : Method} {c : Code} {S0 : ST} {fu : Nat} {z : Int32 × ST} {a : Nat}  {S : ST} {x1 : Int32} {x2 : Int32} {x3 : Int32} (hM : MC G p s m args c cX12_paint w_X12_paint RX12) (hml : c.maxLocals = 4) (hr : meth.sig.returnType = (some .int)) (hlk : meth.locks = false)   (hf : f_X12_paint_0 fu  S a x1 x2 x3 = some z) : (gC (S a) = 11) → (∀ b, gC (S0 b) ≠ 0 → gC (S b) = gC (S0 b)) → ∀ (H : Heap) (locs : List Loc), WB G S s H locs → ∀ (ls : Array Slot), lv_has ls 4 [(0, .ref a), (1, .int x1), (2, .int x2), (3, .int x3)] → W p l e RM_X12_paint s m args below meth c H locs 0 0 (QR G below args s (some (.int z.1)) S0 z.2) (F0 m 0 ls []) := by
  intro ha hK0 H locs hW ls hl
  have hx := hM.1
  have hb := hM.2.1
  refine lv_aload_n hx hb dX12_paint_0 rfl (lv_at hl 0 rfl) ?_
  obtain ⟨S2, hr1, hf⟩ := bd_elim hf
  refine s_callVv [] [] hM hml hl.1 hW ha rfl (by decide) (c_X12_noteNow l G fu _ a ha hr1) (cwV 0 hM.2.2.2.1 (gV mk_RX12_201 im_X12_noteNow se_X12_noteNow it_RX12 cd_X12_noteNow) rfl rfl rfl (by decide +kernel) ⟨Nat.le_of_ble_eq_true rfl, Nat.le_of_ble_eq_true rfl⟩) rfl rfl (Nat.le_of_ble_eq_true rfl) ⟨Nat.zero_le _, Nat.zero_le _⟩ dX12_paint_1 (fun H locs hW hk => ?_)
  have ha := keep1 hk ha
  have hK0 := keep_tr hK0 hk
  refine lv_aload_n hx hb dX12_paint_4 rfl (lv_at hl 0 rfl) ?_
  refine lv_aload_n hx hb dX12_paint_5 rfl (lv_at hl 0 rfl) ?_
  refine b_get hM (hW.at_ a) 10 2 ha rfl rfl (by decide) wi_X12 (wgm fk_RX12_28) (x := .ref (a + 9)) rfl dX12_paint_6 ?_
  obtain ⟨h3, hf⟩ := ck_elim hf
  have h3 := of_decide_eq_true h3
  refine lv_aload_n hx hb dX12_paint_9 rfl (lv_at hl 0 rfl) ?_
  obtain ⟨q4, hq4, hf⟩ := bd_elim hf
  refine b_get hM (hW.at_ a) 10 12 ha rfl rfl (by decide) wi_X12 (wgm fk_RX12_76) (x := .ref q4) (by show va_rf _ = _; rw [hq4]; rfl) dX12_paint_10 ?_
  obtain ⟨h5, hf⟩ := ck_elim hf
  have h5 := of_decide_eq_true h5
  refine lv_iload_n hx hb dX12_paint_13 rfl (lv_at hl 1 rfl) ?_
  refine lv_iload_n hx hb dX12_paint_14 rfl (lv_at hl 2 rfl) ?_
  refine lv_iload_n hx hb dX12_paint_15 rfl (lv_at hl 3 rfl) ?_
  obtain ⟨r6, S7, hr6, hf⟩ := bd2_elim hf
  refine s_callVi [.ref q4, .int x1, .int x2, .int x3] [.ref a] hM hml hl.1 hW h3 rfl (by decide) (c_X3_copyOf l G fu _ (a + 9) _ _ _ _ h3 h5 hr6) (cwV 4 hM.2.2.2.1 (gV mk_RX12_211 im_X3_copyOf se_X3_copyOf it_RX3 cd_X3_copyOf) rfl rfl rfl (by decide +kernel) ⟨Nat.le_of_ble_eq_true rfl, Nat.le_of_ble_eq_true rfl⟩) rfl rfl (Nat.le_of_ble_eq_true rfl) ⟨Nat.zero_le _, Nat.zero_le _⟩ dX12_paint_16 (fun H locs hW hk => ?_)
  have ha := keep1 hk ha
  have h3 := keep1 hk h3
  have h5 := keep1 hk h5
  have hK0 := keep_tr hK0 hk
  obtain ⟨r8, v9, hr8, hf⟩ := bd2_elim hf
  refine s_callNi [.int r6] [] hM hml hl.1 hW ha rfl (by decide) (Ct_self (c_X12_keptUnlessNone l G fu _ a (S7 a) _ ha hr8)) (cwV 1 hM.2.2.2.1 (gV mk_RX12_208 im_X12_keptUnlessNone se_X12_keptUnlessNone it_RX12 cd_X12_keptUnlessNone) rfl rfl rfl (by decide +kernel) ⟨Nat.le_of_ble_eq_true rfl, Nat.le_of_ble_eq_true rfl⟩) rfl rfl (Nat.le_of_ble_eq_true rfl) ⟨Nat.zero_le _, Nat.zero_le _⟩ dX12_paint_19 (fun Sv9 ev9 hk H locs hW => ?_)
  have hf := nm_at ev9 hf
  have ha := keep1 hk ha
  have h3 := keep1 hk h3
  have h5 := keep1 hk h5
  have hK0 := keep_tr hK0 hk
  cases hf
  exact W.iret hx hb hr (b_ret0 hW hK0 _) hW.2.2.2 dX12_paint_22 hlk
noncomputable def f_X12_paint (fu : Nat) (S : ST) (a : Nat) (x1 : Int32) (x2 : Int32) (x3 : Int32) : Option (Int32 × ST) := f_X12_paint_0 fu S a x1 x2 x3
set_option maxHeartbeats 4000000 in
set_option maxRecDepth 100000 in
theorem c_X12_paint (l : Launch) (G : GG) (fu : Nat) (S : ST) (a : Nat) (x1 : Int32) (x2 : Int32) (x3 : Int32) {z : Int32} {w : ST} (ha : gC (S a) = 11) (hf : f_X12_paint fu S a x1 x2 x3 = some (z, w)) : Ct l yX12_paint w_X12_paint RM_X12_paint G S [.ref a, .int x1, .int x2, .int x3] (some (.int z)) w 0 0 := by
  refine Met.ofW (cc := cX12_paint) (maxL := 4) (ret := (some .int)) (by decide) rfl ?_
  intro p e s m args below meth c s₁ B hml hv
  obtain ⟨rfl, hB, hK, hz⟩ := hv
  have hM : MC G p s m _ c cX12_paint w_X12_paint RX12 := ⟨B.exec, B.bytes, findClass_of_methodNamed B.named, atoms_spec (ws := w_X12_paint) B.pre, hK, hz⟩
  have hW : WB G S s s.heap [] := ⟨hB, va_S.rf⟩
  have hl := lv_entry ([.ref a, .int x1, .int x2, .int x3]) (n := 4) (Nat.le_of_ble_eq_true rfl)
  rw [lg_entry_eq]
  generalize (lg_sl ([.ref a, .int x1, .int x2, .int x3]) ++ List.replicate (4 - (lg_sl ([.ref a, .int x1, .int x2, .int x3])).length) Slot.unset).toArray = ls at hl ⊢
  have hl : lv_has ls 4 [(0, .ref a), (1, .int x1), (2, .int x2), (3, .int x3)] := hl
  exact t_X12_paint_0 (fu := fu) hM hml B.returns B.notSynchronized hf ha (fun _ _ => rfl) _ _ hW _ (lv_sub hl [0, 1, 2, 3] rfl)
abbrev RM_X12_sell : Room := { frames := 4, cells := 0, slots := 0, locals := 101 }
abbrev w_X12_sell : List Cond := Cond.code yX12_sell cX12_sell 3 (some .int) :: wsL_law0
noncomputable def f_X12_sell_0 (fu : Nat)  (S : ST) (a : Nat) (x1 : Int32) (x2 : Int32) : Option (Int32 × ST) :=
  bd (f_X12_noteNow fu S a) fun S2 =>
  ck (decide (gC (S2 (a + 9)) = 3)) <|
  bd (gR (S2 a) 12) fun q4 =>
  ck (decide (gC (S2 q4) = 1)) <|
  bd2 (f_X3_sale fu S2 (a + 9) q4 x1 x2) fun r6 S7 =>
  bd2 (f_X12_keptUnlessNone fu (S7 a) r6) fun r8 v9 =>
  nm (st S7 a v9) fun Sv9 =>
  some (r8, Sv9)
set_option maxHeartbeats 4000000 in
set_option maxRecDepth 100000 in
theorem t_X12_sell_0 {G : GG} {p : Program} {l : Launch} {e : Env} {s : State} {m : MethodId} {args : Array Value} {below : List Frame} {meth : Method} {c : Code} {S0 : ST} {fu : Nat} {z : Int32 × ST} {a : Nat}  {S : ST} {x1 : Int32} {x2 : Int32} (hM : MC G p s m args c cX12_sell w_X12_sell RX12) (hml : c.maxLocals = 3) (hr : meth.sig.returnType = (some .int)) (hlk : meth.locks = false)   (hf : f_X12_sell_0 fu  S a x1 x2 = some z) : (gC (S a) = 11) → (∀ b, gC (S0 b) ≠ 0 → gC (S b) = gC (S0 b)) → ∀ (H : Heap) (locs : List Loc), WB G S s H locs → ∀ (ls : Array Slot), lv_has ls 3 [(0, .ref a), (1, .int x1), (2, .int x2)] → W p l e RM_X12_sell s m args below meth c H locs 0 0 (QR G below args s (some (.int z.1)) S0 z.2) (F0 m 0 ls []) := by
  intro ha hK0 H locs hW ls hl
  have hx := hM.1
  have hb := hM.2.1
  refine lv_aload_n hx hb dX12_sell_0 rfl (lv_at hl 0 rfl) ?_
  obtain ⟨S2, hr1, hf⟩ := bd_elim hf
  refine s_callVv [] [] hM hml hl.1 hW ha rfl (by decide) (c_X12_noteNow l G fu _ a ha hr1) (cwV 0 hM.2.2.2.1 (gV mk_RX12_201 im_X12_noteNow se_X12_noteNow it_RX12 cd_X12_noteNow) rfl rfl rfl (by decide +kernel) ⟨Nat.le_of_ble_eq_true rfl, Nat.le_of_ble_eq_true rfl⟩) rfl rfl (Nat.le_of_ble_eq_true rfl) ⟨Nat.zero_le _, Nat.zero_le _⟩ dX12_sell_1 (fun H locs hW hk => ?_)
  have ha := keep1 hk ha
  have hK0 := keep_tr hK0 hk
  refine lv_aload_n hx hb dX12_sell_4 rfl (lv_at hl 0 rfl) ?_
  refine lv_aload_n hx hb dX12_sell_5 rfl (lv_at hl 0 rfl) ?_
  refine b_get hM (hW.at_ a) 10 2 ha rfl rfl (by decide) wi_X12 (wgm fk_RX12_28) (x := .ref (a + 9)) rfl dX12_sell_6 ?_
  obtain ⟨h3, hf⟩ := ck_elim hf
  have h3 := of_decide_eq_true h3
  refine lv_aload_n hx hb dX12_sell_9 rfl (lv_at hl 0 rfl) ?_
  obtain ⟨q4, hq4, hf⟩ := bd_elim hf
  refine b_get hM (hW.at_ a) 10 12 ha rfl rfl (by decide) wi_X12 (wgm fk_RX12_76) (x := .ref q4) (by show va_rf _ = _; rw [hq4]; rfl) dX12_sell_10 ?_
  obtain ⟨h5, hf⟩ := ck_elim hf
  have h5 := of_decide_eq_true h5
  refine lv_iload_n hx hb dX12_sell_13 rfl (lv_at hl 1 rfl) ?_
  refine lv_iload_n hx hb dX12_sell_14 rfl (lv_at hl 2 rfl) ?_
  obtain ⟨r6, S7, hr6, hf⟩ := bd2_elim hf
  refine s_callVi [.ref q4, .int x1, .int x2] [.ref a] hM hml hl.1 hW h3 rfl (by decide) (c_X3_sale l G fu _ (a + 9) _ _ _ h3 h5 hr6) (cwV 3 hM.2.2.2.1 (gV mk_RX12_215 im_X3_sale se_X3_sale it_RX3 cd_X3_sale) rfl rfl rfl (by decide +kernel) ⟨Nat.le_of_ble_eq_true rfl, Nat.le_of_ble_eq_true rfl⟩) rfl rfl (Nat.le_of_ble_eq_true rfl) ⟨Nat.zero_le _, Nat.zero_le _⟩ dX12_sell_15 (fun H locs hW hk => ?_)
  have ha := keep1 hk ha
  have h3 := keep1 hk h3
  have h5 := keep1 hk h5
  have hK0 := keep_tr hK0 hk
  obtain ⟨r8, v9, hr8, hf⟩ := bd2_elim hf
  refine s_callNi [.int r6] [] hM hml hl.1 hW ha rfl (by decide) (Ct_self (c_X12_keptUnlessNone l G fu _ a (S7 a) _ ha hr8)) (cwV 1 hM.2.2.2.1 (gV mk_RX12_208 im_X12_keptUnlessNone se_X12_keptUnlessNone it_RX12 cd_X12_keptUnlessNone) rfl rfl rfl (by decide +kernel) ⟨Nat.le_of_ble_eq_true rfl, Nat.le_of_ble_eq_true rfl⟩) rfl rfl (Nat.le_of_ble_eq_true rfl) ⟨Nat.zero_le _, Nat.zero_le _⟩ dX12_sell_18 (fun Sv9 ev9 hk H locs hW => ?_)
  have hf := nm_at ev9 hf
  have ha := keep1 hk ha
  have h3 := keep1 hk h3
  have h5 := keep1 hk h5
  have hK0 := keep_tr hK0 hk
  cases hf
  exact W.iret hx hb hr (b_ret0 hW hK0 _) hW.2.2.2 dX12_sell_21 hlk
noncomputable def f_X12_sell (fu : Nat) (S : ST) (a : Nat) (x1 : Int32) (x2 : Int32) : Option (Int32 × ST) := f_X12_sell_0 fu S a x1 x2
set_option maxHeartbeats 4000000 in
set_option maxRecDepth 100000 in
theorem c_X12_sell (l : Launch) (G : GG) (fu : Nat) (S : ST) (a : Nat) (x1 : Int32) (x2 : Int32) {z : Int32} {w : ST} (ha : gC (S a) = 11) (hf : f_X12_sell fu S a x1 x2 = some (z, w)) : Ct l yX12_sell w_X12_sell RM_X12_sell G S [.ref a, .int x1, .int x2] (some (.int z)) w 0 0 := by
  refine Met.ofW (cc := cX12_sell) (maxL := 3) (ret := (some .int)) (by decide) rfl ?_
  intro p e s m args below meth c s₁ B hml hv
  obtain ⟨rfl, hB, hK, hz⟩ := hv
  have hM : MC G p s m _ c cX12_sell w_X12_sell RX12 := ⟨B.exec, B.bytes, findClass_of_methodNamed B.named, atoms_spec (ws := w_X12_sell) B.pre, hK, hz⟩
  have hW : WB G S s s.heap [] := ⟨hB, va_S.rf⟩
  have hl := lv_entry ([.ref a, .int x1, .int x2]) (n := 3) (Nat.le_of_ble_eq_true rfl)
  rw [lg_entry_eq]
  generalize (lg_sl ([.ref a, .int x1, .int x2]) ++ List.replicate (3 - (lg_sl ([.ref a, .int x1, .int x2])).length) Slot.unset).toArray = ls at hl ⊢
  have hl : lv_has ls 3 [(0, .ref a), (1, .int x1), (2, .int x2)] := hl
  exact t_X12_sell_0 (fu := fu) hM hml B.returns B.notSynchronized hf ha (fun _ _ => rfl) _ _ hW _ (lv_sub hl [0, 1, 2] rfl)
abbrev RM_X12_guard : Room := { frames := 3, cells := 0, slots := 0, locals := 101 }
abbrev w_X12_guard : List Cond := Cond.code yX12_guard cX12_guard 3 (some .boolean) :: wsL_law0
noncomputable def f_X12_guard_21 (fu : Nat)  (S : ST) (a : Nat) (x2 : Int32) : Option (Int32 × ST) :=
  ck (isB x2) <|
  some (x2, S)
set_option maxHeartbeats 4000000 in
set_option maxRecDepth 100000 in
theorem t_X12_guard_21 {G : GG} {p : Program} {l : Launch} {e : Env} {s : State} {m : MethodId} {args : Array Value} {below : List Frame} {meth : Method} {c : Code} {S0 : ST} {fu : Nat} {z : Int32 × ST} {a : Nat}  {S : ST} {x2 : Int32} (hM : MC G p s m args c cX12_guard w_X12_guard RX12) (hml : c.maxLocals = 3) (hr : meth.sig.returnType = (some .boolean)) (hlk : meth.locks = false)   (hf : f_X12_guard_21 fu  S a x2 = some z) : (gC (S a) = 11) → (∀ b, gC (S0 b) ≠ 0 → gC (S b) = gC (S0 b)) → ∀ (H : Heap) (locs : List Loc), WB G S s H locs → ∀ (ls : Array Slot), lv_has ls 3 [(2, .int x2)] → W p l e RM_X12_guard s m args below meth c H locs 0 0 (QR G below args s (some (.int z.1)) S0 z.2) (F0 m 21 ls []) := by
  intro ha hK0 H locs hW ls hl
  have hx := hM.1
  have hb := hM.2.1
  refine lv_iload_n hx hb dX12_guard_21 rfl (lv_at hl 0 rfl) ?_
  obtain ⟨h1, hf⟩ := ck_elim hf
  cases hf
  exact W.zret (v := _) hx hb hr (isB_nar h1) (b_ret0 hW hK0 _) hW.2.2.2 dX12_guard_22 hlk
noncomputable def f_X12_guard_0 (fu : Nat)  (S : ST) (a : Nat) (x1 : Int32) : Option (Int32 × ST) :=
  bd (f_X12_noteNow fu S a) fun S2 =>
  ck (decide (gC (S2 (a + 9)) = 3)) <|
  bd2 (f_X3_setGuard fu (S2 (a + 9)) x1) fun r4 v5 =>
  nm (st S2 (a + 9) v5) fun Sv5 =>
  if r4 = 0 then
    (f_X12_guard_21 fu Sv5 a r4)
  else
    (bd (f_X12_keepNoted fu (Sv5 a)) fun v8 =>
    nm (st Sv5 a v8) fun Sv8 =>
    f_X12_guard_21 fu Sv8 a r4)
set_option maxHeartbeats 4000000 in
set_option maxRecDepth 100000 in
theorem t_X12_guard_0 {G : GG} {p : Program} {l : Launch} {e : Env} {s : State} {m : MethodId} {args : Array Value} {below : List Frame} {meth : Method} {c : Code} {S0 : ST} {fu : Nat} {z : Int32 × ST} {a : Nat}  {S : ST} {x1 : Int32} (hM : MC G p s m args c cX12_guard w_X12_guard RX12) (hml : c.maxLocals = 3) (hr : meth.sig.returnType = (some .boolean)) (hlk : meth.locks = false)   (hf : f_X12_guard_0 fu  S a x1 = some z) : (gC (S a) = 11) → (∀ b, gC (S0 b) ≠ 0 → gC (S b) = gC (S0 b)) → ∀ (H : Heap) (locs : List Loc), WB G S s H locs → ∀ (ls : Array Slot), lv_has ls 3 [(0, .ref a), (1, .int x1)] → W p l e RM_X12_guard s m args below meth c H locs 0 0 (QR G below args s (some (.int z.1)) S0 z.2) (F0 m 0 ls []) := by
  intro ha hK0 H locs hW ls hl
  have hx := hM.1
  have hb := hM.2.1
  refine lv_aload_n hx hb dX12_guard_0 rfl (lv_at hl 0 rfl) ?_
  obtain ⟨S2, hr1, hf⟩ := bd_elim hf
  refine s_callVv [] [] hM hml hl.1 hW ha rfl (by decide) (c_X12_noteNow l G fu _ a ha hr1) (cwV 0 hM.2.2.2.1 (gV mk_RX12_201 im_X12_noteNow se_X12_noteNow it_RX12 cd_X12_noteNow) rfl rfl rfl (by decide +kernel) ⟨Nat.le_of_ble_eq_true rfl, Nat.le_of_ble_eq_true rfl⟩) rfl rfl (Nat.le_of_ble_eq_true rfl) ⟨Nat.zero_le _, Nat.zero_le _⟩ dX12_guard_1 (fun H locs hW hk => ?_)
  have ha := keep1 hk ha
  have hK0 := keep_tr hK0 hk
  refine lv_aload_n hx hb dX12_guard_4 rfl (lv_at hl 0 rfl) ?_
  refine b_get hM (hW.at_ a) 10 2 ha rfl rfl (by decide) wi_X12 (wgm fk_RX12_28) (x := .ref (a + 9)) rfl dX12_guard_5 ?_
  obtain ⟨h3, hf⟩ := ck_elim hf
  have h3 := of_decide_eq_true h3
  refine lv_iload_n hx hb dX12_guard_8 rfl (lv_at hl 1 rfl) ?_
  obtain ⟨r4, v5, hr4, hf⟩ := bd2_elim hf
  refine s_callNi [.int x1] [] hM hml hl.1 hW h3 rfl (by decide) (Ct_self (c_X3_setGuard l G fu _ (a + 9) (S2 (a + 9)) _ h3 hr4)) (cwV 1 hM.2.2.2.1 (gV mk_RX12_218 im_X3_setGuard se_X3_setGuard it_RX3 cd_X3_setGuard) rfl rfl rfl (by decide +kernel) ⟨Nat.le_of_ble_eq_true rfl, Nat.le_of_ble_eq_true rfl⟩) rfl rfl (Nat.le_of_ble_eq_true rfl) ⟨Nat.zero_le _, Nat.zero_le _⟩ dX12_guard_9 (fun Sv5 ev5 hk H locs hW => ?_)
  have hf := nm_at ev5 hf
  have ha := keep1 hk ha
  have h3 := keep1 hk h3
  have hK0 := keep_tr hK0 hk
  refine lv_istore_n (lv' := [(2, .int r4), (0, .ref a), (1, .int x1)]) hx hb dX12_guard_12 rfl hl (by decide) rfl (fun ls hl => ?_)
  refine lv_iload_n hx hb dX12_guard_13 rfl (lv_at hl 0 rfl) ?_
  refine lv_if_eq (tgt := 21) hx hb dX12_guard_14 (by decide) (fun c6 => ?_) (fun c6 => ?_)
  · have hf := if_t c6 hf
    exact t_X12_guard_21 (fu := fu) hM hml hr hlk hf ha hK0 _ _ hW _ (lv_sub hl [0] rfl)
  · have hf := if_f c6 hf
    refine lv_aload_n hx hb dX12_guard_17 rfl (lv_at hl 1 rfl) ?_
    obtain ⟨v8, hr7, hf⟩ := bd_elim hf
    refine s_callNv [] [] hM hml hl.1 hW ha rfl (by decide) (Ct_self (c_X12_keepNoted l G fu _ a (Sv5 a) ha hr7)) (cwV 0 hM.2.2.2.1 (gV mk_RX12_221 im_X12_keepNoted se_X12_keepNoted it_RX12 cd_X12_keepNoted) rfl rfl rfl (by decide +kernel) ⟨Nat.le_of_ble_eq_true rfl, Nat.le_of_ble_eq_true rfl⟩) rfl rfl (Nat.le_of_ble_eq_true rfl) ⟨Nat.zero_le _, Nat.zero_le _⟩ dX12_guard_18 (fun Sv8 ev8 hk H locs hW => ?_)
    have hf := nm_at ev8 hf
    have ha := keep1 hk ha
    have h3 := keep1 hk h3
    have hK0 := keep_tr hK0 hk
    exact t_X12_guard_21 (fu := fu) hM hml hr hlk hf ha hK0 _ _ hW _ (lv_sub hl [0] rfl)
noncomputable def f_X12_guard (fu : Nat) (S : ST) (a : Nat) (x1 : Int32) : Option (Int32 × ST) := f_X12_guard_0 fu S a x1
set_option maxHeartbeats 4000000 in
set_option maxRecDepth 100000 in
theorem c_X12_guard (l : Launch) (G : GG) (fu : Nat) (S : ST) (a : Nat) (x1 : Int32) {z : Int32} {w : ST} (ha : gC (S a) = 11) (hf : f_X12_guard fu S a x1 = some (z, w)) : Ct l yX12_guard w_X12_guard RM_X12_guard G S [.ref a, .int x1] (some (.int z)) w 0 0 := by
  refine Met.ofW (cc := cX12_guard) (maxL := 3) (ret := (some .boolean)) (by decide) rfl ?_
  intro p e s m args below meth c s₁ B hml hv
  obtain ⟨rfl, hB, hK, hz⟩ := hv
  have hM : MC G p s m _ c cX12_guard w_X12_guard RX12 := ⟨B.exec, B.bytes, findClass_of_methodNamed B.named, atoms_spec (ws := w_X12_guard) B.pre, hK, hz⟩
  have hW : WB G S s s.heap [] := ⟨hB, va_S.rf⟩
  have hl := lv_entry ([.ref a, .int x1]) (n := 3) (Nat.le_of_ble_eq_true rfl)
  rw [lg_entry_eq]
  generalize (lg_sl ([.ref a, .int x1]) ++ List.replicate (3 - (lg_sl ([.ref a, .int x1])).length) Slot.unset).toArray = ls at hl ⊢
  have hl : lv_has ls 3 [(0, .ref a), (1, .int x1)] := hl
  exact t_X12_guard_0 (fu := fu) hM hml B.returns B.notSynchronized hf ha (fun _ _ => rfl) _ _ hW _ (lv_sub hl [0, 1] rfl)
abbrev RM_X12_night : Room := { frames := 3, cells := 0, slots := 0, locals := 101 }
abbrev w_X12_night : List Cond := Cond.code yX12_night cX12_night 1 (some .int) :: wsL_law0
noncomputable def f_X12_night_0 (fu : Nat)  (S : ST) (a : Nat) : Option (Int32 × ST) :=
  bd (f_X12_noteNow fu S a) fun S2 =>
  bd (f_X12_keepNoted fu (S2 a)) fun v4 =>
  nm (st S2 a v4) fun Sv4 =>
  ck (decide (gC (Sv4 (a + 9)) = 3)) <|
  bd (f_X3_passNight fu (Sv4 (a + 9))) fun v7 =>
  nm (st Sv4 (a + 9) v7) fun Sv7 =>
  some ((gI (Sv7 (a + 9)) 6), Sv7)
set_option maxHeartbeats 4000000 in
set_option maxRecDepth 100000 in
theorem t_X12_night_0 {G : GG} {p : Program} {l : Launch} {e : Env} {s : State} {m : MethodId} {args : Array Value} {below : List Frame} {meth : Method} {c : Code} {S0 : ST} {fu : Nat} {z : Int32 × ST} {a : Nat}  {S : ST} (hM : MC G p s m args c cX12_night w_X12_night RX12) (hml : c.maxLocals = 1) (hr : meth.sig.returnType = (some .int)) (hlk : meth.locks = false)   (hf : f_X12_night_0 fu  S a  = some z) : (gC (S a) = 11) → (∀ b, gC (S0 b) ≠ 0 → gC (S b) = gC (S0 b)) → ∀ (H : Heap) (locs : List Loc), WB G S s H locs → ∀ (ls : Array Slot), lv_has ls 1 [(0, .ref a)] → W p l e RM_X12_night s m args below meth c H locs 0 0 (QR G below args s (some (.int z.1)) S0 z.2) (F0 m 0 ls []) := by
  intro ha hK0 H locs hW ls hl
  have hx := hM.1
  have hb := hM.2.1
  refine lv_aload_n hx hb dX12_night_0 rfl (lv_at hl 0 rfl) ?_
  obtain ⟨S2, hr1, hf⟩ := bd_elim hf
  refine s_callVv [] [] hM hml hl.1 hW ha rfl (by decide) (c_X12_noteNow l G fu _ a ha hr1) (cwV 0 hM.2.2.2.1 (gV mk_RX12_201 im_X12_noteNow se_X12_noteNow it_RX12 cd_X12_noteNow) rfl rfl rfl (by decide +kernel) ⟨Nat.le_of_ble_eq_true rfl, Nat.le_of_ble_eq_true rfl⟩) rfl rfl (Nat.le_of_ble_eq_true rfl) ⟨Nat.zero_le _, Nat.zero_le _⟩ dX12_night_1 (fun H locs hW hk => ?_)
  have ha := keep1 hk ha
  have hK0 := keep_tr hK0 hk
  refine lv_aload_n hx hb dX12_night_4 rfl (lv_at hl 0 rfl) ?_
  obtain ⟨v4, hr3, hf⟩ := bd_elim hf
  refine s_callNv [] [] hM hml hl.1 hW ha rfl (by decide) (Ct_self (c_X12_keepNoted l G fu _ a (S2 a) ha hr3)) (cwV 0 hM.2.2.2.1 (gV mk_RX12_221 im_X12_keepNoted se_X12_keepNoted it_RX12 cd_X12_keepNoted) rfl rfl rfl (by decide +kernel) ⟨Nat.le_of_ble_eq_true rfl, Nat.le_of_ble_eq_true rfl⟩) rfl rfl (Nat.le_of_ble_eq_true rfl) ⟨Nat.zero_le _, Nat.zero_le _⟩ dX12_night_5 (fun Sv4 ev4 hk H locs hW => ?_)
  have hf := nm_at ev4 hf
  have ha := keep1 hk ha
  have hK0 := keep_tr hK0 hk
  refine lv_aload_n hx hb dX12_night_8 rfl (lv_at hl 0 rfl) ?_
  refine b_get hM (hW.at_ a) 10 2 ha rfl rfl (by decide) wi_X12 (wgm fk_RX12_28) (x := .ref (a + 9)) rfl dX12_night_9 ?_
  obtain ⟨h5, hf⟩ := ck_elim hf
  have h5 := of_decide_eq_true h5
  obtain ⟨v7, hr6, hf⟩ := bd_elim hf
  refine s_callNv [] [] hM hml hl.1 hW h5 rfl (by decide) (Ct_self (c_X3_passNight l G fu _ (a + 9) (Sv4 (a + 9)) h5 hr6)) (cwV 0 hM.2.2.2.1 (gV mk_RX12_224 im_X3_passNight se_X3_passNight it_RX3 cd_X3_passNight) rfl rfl rfl (by decide +kernel) ⟨Nat.le_of_ble_eq_true rfl, Nat.le_of_ble_eq_true rfl⟩) rfl rfl (Nat.le_of_ble_eq_true rfl) ⟨Nat.zero_le _, Nat.zero_le _⟩ dX12_night_12 (fun Sv7 ev7 hk H locs hW => ?_)
  have hf := nm_at ev7 hf
  have ha := keep1 hk ha
  have h5 := keep1 hk h5
  have hK0 := keep_tr hK0 hk
  refine lv_aload_n hx hb dX12_night_15 rfl (lv_at hl 0 rfl) ?_
  refine b_get hM (hW.at_ a) 10 2 ha rfl rfl (by decide) wi_X12 (wgm fk_RX12_28) (x := .ref (a + 9)) rfl dX12_night_16 ?_
  refine b_get hM (hW.at_ (a + 9)) 2 6 h5 rfl rfl (by decide) wi_X3 (wgm fk_RX12_185) (x := .int (gI (Sv7 (a + 9)) 6)) rfl dX12_night_19 ?_
  cases hf
  exact W.iret hx hb hr (b_ret0 hW hK0 _) hW.2.2.2 dX12_night_22 hlk
noncomputable def f_X12_night (fu : Nat) (S : ST) (a : Nat) : Option (Int32 × ST) := f_X12_night_0 fu S a
set_option maxHeartbeats 4000000 in
set_option maxRecDepth 100000 in
theorem c_X12_night (l : Launch) (G : GG) (fu : Nat) (S : ST) (a : Nat) {z : Int32} {w : ST} (ha : gC (S a) = 11) (hf : f_X12_night fu S a = some (z, w)) : Ct l yX12_night w_X12_night RM_X12_night G S [.ref a] (some (.int z)) w 0 0 := by
  refine Met.ofW (cc := cX12_night) (maxL := 1) (ret := (some .int)) (by decide) rfl ?_
  intro p e s m args below meth c s₁ B hml hv
  obtain ⟨rfl, hB, hK, hz⟩ := hv
  have hM : MC G p s m _ c cX12_night w_X12_night RX12 := ⟨B.exec, B.bytes, findClass_of_methodNamed B.named, atoms_spec (ws := w_X12_night) B.pre, hK, hz⟩
  have hW : WB G S s s.heap [] := ⟨hB, va_S.rf⟩
  have hl := lv_entry ([.ref a]) (n := 1) (Nat.le_of_ble_eq_true rfl)
  rw [lg_entry_eq]
  generalize (lg_sl ([.ref a]) ++ List.replicate (1 - (lg_sl ([.ref a])).length) Slot.unset).toArray = ls at hl ⊢
  have hl : lv_has ls 1 [(0, .ref a)] := hl
  exact t_X12_night_0 (fu := fu) hM hml B.returns B.notSynchronized hf ha (fun _ _ => rfl) _ _ hW _ (lv_sub hl [0] rfl)
abbrev RM_X12_undo : Room := { frames := 2, cells := 0, slots := 0, locals := 81 }
abbrev w_X12_undo : List Cond := Cond.code yX12_undo cX12_undo 1 (some .boolean) :: wsL_law0
noncomputable def f_X12_undo_0 (fu : Nat)  (S : ST) (a : Nat) : Option (Int32 × ST) :=
  if 0 < (gI (S a) 17) then
    (nm (st S a (sI (S a) 17 ((gI (S a) 17) - (1 : Int32)))) fun S2 =>
    ck (decide (gC (S2 (a + 9)) = 3)) <|
    bd (f_X12_pastRow fu (S2 a) (gI (S2 a) 17)) fun r4 =>
    ck (inb r4 17) <|
    bd (gQ (S2 a) 4 r4.toNatClampNeg) fun q6 =>
    ck (decide (gC (S2 q6) = 3)) <|
    bd (f_X3_takeNights fu S2 (a + 9) q6) fun S9 =>
    some ((1 : Int32), S9))
  else
    (some ((0 : Int32), S))
set_option maxHeartbeats 4000000 in
set_option maxRecDepth 100000 in
theorem t_X12_undo_0 {G : GG} {p : Program} {l : Launch} {e : Env} {s : State} {m : MethodId} {args : Array Value} {below : List Frame} {meth : Method} {c : Code} {S0 : ST} {fu : Nat} {z : Int32 × ST} {a : Nat}  {S : ST} (hM : MC G p s m args c cX12_undo w_X12_undo RX12) (hml : c.maxLocals = 1) (hr : meth.sig.returnType = (some .boolean)) (hlk : meth.locks = false)   (hf : f_X12_undo_0 fu  S a  = some z) : (gC (S a) = 11) → (∀ b, gC (S0 b) ≠ 0 → gC (S b) = gC (S0 b)) → ∀ (H : Heap) (locs : List Loc), WB G S s H locs → ∀ (ls : Array Slot), lv_has ls 1 [(0, .ref a)] → W p l e RM_X12_undo s m args below meth c H locs 0 0 (QR G below args s (some (.int z.1)) S0 z.2) (F0 m 0 ls []) := by
  intro ha hK0 H locs hW ls hl
  have hx := hM.1
  have hb := hM.2.1
  refine lv_aload_n hx hb dX12_undo_0 rfl (lv_at hl 0 rfl) ?_
  refine b_get hM (hW.at_ a) 10 17 ha rfl rfl (by decide) wi_X12 (wgm fk_RX12_97) (x := .int (gI (S a) 17)) rfl dX12_undo_1 ?_
  refine lv_if_gt (tgt := 9) hx hb dX12_undo_4 (by decide) (fun c1 => ?_) (fun c1 => ?_)
  · have hf := if_t c1 hf
    refine lv_aload_n hx hb dX12_undo_9 rfl (lv_at hl 0 rfl) ?_
    refine lv_dup hx hb dX12_undo_10 rfl ?_
    refine b_get hM (hW.at_ a) 10 17 ha rfl rfl (by decide) wi_X12 (wgm fk_RX12_97) (x := .int (gI (S a) 17)) rfl dX12_undo_11 ?_
    refine lv_iconst (v := (1 : Int32)) hx hb dX12_undo_14 (by decide) ?_
    refine lv_isub hx hb dX12_undo_15 ?_
    refine s_putI hM hW 10 17 ha rfl rfl (by decide) wi_X12 tyX12 tyX12_ok nmX12 (wgm fk_RX12_97) rfl rfl rfl dX12_undo_16 (fun S2 eS2 hk H locs hW => ?_)
    have hf := nm_at eS2 hf
    have ha := keep1 hk ha
    have hK0 := keep_tr hK0 hk
    refine lv_aload_n hx hb dX12_undo_19 rfl (lv_at hl 0 rfl) ?_
    refine b_get hM (hW.at_ a) 10 2 ha rfl rfl (by decide) wi_X12 (wgm fk_RX12_28) (x := .ref (a + 9)) rfl dX12_undo_20 ?_
    obtain ⟨h3, hf⟩ := ck_elim hf
    have h3 := of_decide_eq_true h3
    refine lv_aload_n hx hb dX12_undo_23 rfl (lv_at hl 0 rfl) ?_
    refine b_get hM (hW.at_ a) 10 4 ha rfl rfl (by decide) wi_X12 (wgm fk_RX12_35) (x := .ref (a + 23)) rfl dX12_undo_24 ?_
    refine lv_aload_n hx hb dX12_undo_27 rfl (lv_at hl 0 rfl) ?_
    refine lv_aload_n hx hb dX12_undo_28 rfl (lv_at hl 0 rfl) ?_
    refine b_get hM (hW.at_ a) 10 17 ha rfl rfl (by decide) wi_X12 (wgm fk_RX12_97) (x := .int (gI (S2 a) 17)) rfl dX12_undo_29 ?_
    obtain ⟨r4, hr4, hf⟩ := bd_elim hf
    refine s_callVi [.int (gI (S2 a) 17)] [.ref (a + 23), .ref (a + 9)] hM hml hl.1 hW ha rfl (by decide) (Ct_rd (c_X12_pastRow l G fu _ a (S2 a) _ ha hr4)) (cwV 1 hM.2.2.2.1 (gV mk_RX12_227 im_X12_pastRow se_X12_pastRow it_RX12 cd_X12_pastRow) rfl rfl rfl (by decide +kernel) ⟨Nat.le_of_ble_eq_true rfl, Nat.le_of_ble_eq_true rfl⟩) rfl rfl (Nat.le_of_ble_eq_true rfl) ⟨Nat.zero_le _, Nat.zero_le _⟩ dX12_undo_32 (fun H locs hW hk => ?_)
    obtain ⟨h5, hf⟩ := ck_elim hf
    obtain ⟨q6, hq6, hf⟩ := bd_elim hf
    refine b_aald (n := 17) hM (hW.at_ a) 10 4 ha (by decide) rfl rfl rfl rfl h5 hq6 dX12_undo_35 ?_
    obtain ⟨h7, hf⟩ := ck_elim hf
    have h7 := of_decide_eq_true h7
    obtain ⟨S9, hr8, hf⟩ := bd_elim hf
    refine s_callVv [.ref q6] [] hM hml hl.1 hW h3 rfl (by decide) (c_X3_takeNights l G fu _ (a + 9) _ h3 h7 hr8) (cwV 1 hM.2.2.2.1 (gV mk_RX12_230 im_X3_takeNights se_X3_takeNights it_RX3 cd_X3_takeNights) rfl rfl rfl (by decide +kernel) ⟨Nat.le_of_ble_eq_true rfl, Nat.le_of_ble_eq_true rfl⟩) rfl rfl (Nat.le_of_ble_eq_true rfl) ⟨Nat.zero_le _, Nat.zero_le _⟩ dX12_undo_36 (fun H locs hW hk => ?_)
    have ha := keep1 hk ha
    have h3 := keep1 hk h3
    have h7 := keep1 hk h7
    have hK0 := keep_tr hK0 hk
    refine lv_iconst (v := (1 : Int32)) hx hb dX12_undo_39 (by decide) ?_
    cases hf
    exact W.zret (v := (1 : Int32)) hx hb hr (by decide) (b_ret0 hW hK0 _) hW.2.2.2 dX12_undo_40 hlk
  · have hf := if_f c1 hf
    refine lv_iconst (v := (0 : Int32)) hx hb dX12_undo_7 (by decide) ?_
    cases hf
    exact W.zret (v := (0 : Int32)) hx hb hr (by decide) (b_ret0 hW hK0 _) hW.2.2.2 dX12_undo_8 hlk
noncomputable def f_X12_undo (fu : Nat) (S : ST) (a : Nat) : Option (Int32 × ST) := f_X12_undo_0 fu S a
set_option maxHeartbeats 4000000 in
set_option maxRecDepth 100000 in
theorem c_X12_undo (l : Launch) (G : GG) (fu : Nat) (S : ST) (a : Nat) {z : Int32} {w : ST} (ha : gC (S a) = 11) (hf : f_X12_undo fu S a = some (z, w)) : Ct l yX12_undo w_X12_undo RM_X12_undo G S [.ref a] (some (.int z)) w 0 0 := by
  refine Met.ofW (cc := cX12_undo) (maxL := 1) (ret := (some .boolean)) (by decide) rfl ?_
  intro p e s m args below meth c s₁ B hml hv
  obtain ⟨rfl, hB, hK, hz⟩ := hv
  have hM : MC G p s m _ c cX12_undo w_X12_undo RX12 := ⟨B.exec, B.bytes, findClass_of_methodNamed B.named, atoms_spec (ws := w_X12_undo) B.pre, hK, hz⟩
  have hW : WB G S s s.heap [] := ⟨hB, va_S.rf⟩
  have hl := lv_entry ([.ref a]) (n := 1) (Nat.le_of_ble_eq_true rfl)
  rw [lg_entry_eq]
  generalize (lg_sl ([.ref a]) ++ List.replicate (1 - (lg_sl ([.ref a])).length) Slot.unset).toArray = ls at hl ⊢
  have hl : lv_has ls 1 [(0, .ref a)] := hl
  exact t_X12_undo_0 (fu := fu) hM hml B.returns B.notSynchronized hf ha (fun _ _ => rfl) _ _ hW _ (lv_sub hl [0] rfl)
abbrev RM_X12_mark : Room := { frames := 3, cells := 0, slots := 0, locals := 102 }
abbrev w_X12_mark : List Cond := Cond.code yX12_mark cX12_mark 3 (some .boolean) :: wsL_law0
noncomputable def f_X12_mark_9 (fu : Nat)  (S : ST) (a : Nat) : Option (Int32 × ST) :=
  some ((0 : Int32), S)
set_option maxHeartbeats 4000000 in
set_option maxRecDepth 100000 in
theorem t_X12_mark_9 {G : GG} {p : Program} {l : Launch} {e : Env} {s : State} {m : MethodId} {args : Array Value} {below : List Frame} {meth : Method} {c : Code} {S0 : ST} {fu : Nat} {z : Int32 × ST} {a : Nat}  {S : ST} (hM : MC G p s m args c cX12_mark w_X12_mark RX12) (hml : c.maxLocals = 3) (hr : meth.sig.returnType = (some .boolean)) (hlk : meth.locks = false)   (hf : f_X12_mark_9 fu  S a  = some z) : (gC (S a) = 11) → (∀ b, gC (S0 b) ≠ 0 → gC (S b) = gC (S0 b)) → ∀ (H : Heap) (locs : List Loc), WB G S s H locs → ∀ (ls : Array Slot), lv_has ls 3 [] → W p l e RM_X12_mark s m args below meth c H locs 0 0 (QR G below args s (some (.int z.1)) S0 z.2) (F0 m 9 ls []) := by
  intro ha hK0 H locs hW ls hl
  have hx := hM.1
  have hb := hM.2.1
  refine lv_iconst (v := (0 : Int32)) hx hb dX12_mark_9 (by decide) ?_
  cases hf
  exact W.zret (v := (0 : Int32)) hx hb hr (by decide) (b_ret0 hW hK0 _) hW.2.2.2 dX12_mark_10 hlk
noncomputable def f_X12_mark_0 (fu : Nat)  (S : ST) (a : Nat) (x1 : Int32) (x2 : Int32) : Option (Int32 × ST) :=
  if x1 < 0 then
    (f_X12_mark_9 fu S a)
  else
    (if x1 < (4 : Int32) then
      (if x2 = 0 then
        (ck (inb x1 4) <|
        bd (gQ (S a) 5 x1.toNatClampNeg) fun q13 =>
        ck (decide (gC (S q13) = 3)) <|
        ck (decide (gC (S (a + 9)) = 3)) <|
        bd (f_X3_takeAll fu S q13 (a + 9)) fun S17 =>
        nm (st S17 a (sI (S17 a) 18 ((gI (S17 a) 18) ||| ((1 : Int32) <<< (x1 &&& 31))))) fun S18 =>
        some ((1 : Int32), S18))
      else
        (if (((gI (S a) 18) >>> (x1 &&& 31)) &&& (1 : Int32)) = 0 then
          (some ((0 : Int32), S))
        else
          (ck (decide (gC (S (a + 9)) = 3)) <|
          ck (inb x1 4) <|
          bd (gQ (S a) 5 x1.toNatClampNeg) fun q7 =>
          ck (decide (gC (S q7) = 3)) <|
          bd (f_X3_takeAll fu S (a + 9) q7) fun S10 =>
          nm (st S10 a (sI (S10 a) 17 (0 : Int32))) fun S11 =>
          some ((1 : Int32), S11))))
    else
      (f_X12_mark_9 fu S a))
set_option maxHeartbeats 4000000 in
set_option maxRecDepth 100000 in
theorem t_X12_mark_0 {G : GG} {p : Program} {l : Launch} {e : Env} {s : State} {m : MethodId} {args : Array Value} {below : List Frame} {meth : Method} {c : Code} {S0 : ST} {fu : Nat} {z : Int32 × ST} {a : Nat}  {S : ST} {x1 : Int32} {x2 : Int32} (hM : MC G p s m args c cX12_mark w_X12_mark RX12) (hml : c.maxLocals = 3) (hr : meth.sig.returnType = (some .boolean)) (hlk : meth.locks = false)   (hf : f_X12_mark_0 fu  S a x1 x2 = some z) : (gC (S a) = 11) → (∀ b, gC (S0 b) ≠ 0 → gC (S b) = gC (S0 b)) → ∀ (H : Heap) (locs : List Loc), WB G S s H locs → ∀ (ls : Array Slot), lv_has ls 3 [(0, .ref a), (1, .int x1), (2, .int x2)] → W p l e RM_X12_mark s m args below meth c H locs 0 0 (QR G below args s (some (.int z.1)) S0 z.2) (F0 m 0 ls []) := by
  intro ha hK0 H locs hW ls hl
  have hx := hM.1
  have hb := hM.2.1
  refine lv_iload_n hx hb dX12_mark_0 rfl (lv_at hl 1 rfl) ?_
  refine lv_if_lt (tgt := 9) hx hb dX12_mark_1 (by decide) (fun c1 => ?_) (fun c1 => ?_)
  · have hf := if_t c1 hf
    exact t_X12_mark_9 (fu := fu) hM hml hr hlk hf ha hK0 _ _ hW _ (lv_sub hl [] rfl)
  · have hf := if_f c1 hf
    refine lv_iload_n hx hb dX12_mark_4 rfl (lv_at hl 1 rfl) ?_
    refine lv_iconst (v := (4 : Int32)) hx hb dX12_mark_5 (by decide) ?_
    refine lv_icmp_lt (tgt := 11) hx hb dX12_mark_6 (by decide) (fun c2 => ?_) (fun c2 => ?_)
    · have hf := if_t c2 hf
      refine lv_iload_n hx hb dX12_mark_11 rfl (lv_at hl 2 rfl) ?_
      refine lv_if_ne (tgt := 42) hx hb dX12_mark_12 (by decide) (fun c3 => ?_) (fun c3 => ?_)
      · have hf := if_f c3 hf
        refine lv_aload_n hx hb dX12_mark_42 rfl (lv_at hl 0 rfl) ?_
        refine b_get hM (hW.at_ a) 10 18 ha rfl rfl (by decide) wi_X12 (wgm fk_RX12_100) (x := .int (gI (S a) 18)) rfl dX12_mark_43 ?_
        refine lv_iload_n hx hb dX12_mark_46 rfl (lv_at hl 1 rfl) ?_
        refine lv_ishr hx hb dX12_mark_47 ?_
        refine lv_iconst (v := (1 : Int32)) hx hb dX12_mark_48 (by decide) ?_
        refine lv_iand hx hb dX12_mark_49 ?_
        refine lv_if_ne (tgt := 55) hx hb dX12_mark_50 (by decide) (fun c4 => ?_) (fun c4 => ?_)
        · have hf := if_f c4 hf
          refine lv_aload_n hx hb dX12_mark_55 rfl (lv_at hl 0 rfl) ?_
          refine b_get hM (hW.at_ a) 10 2 ha rfl rfl (by decide) wi_X12 (wgm fk_RX12_28) (x := .ref (a + 9)) rfl dX12_mark_56 ?_
          obtain ⟨h5, hf⟩ := ck_elim hf
          have h5 := of_decide_eq_true h5
          refine lv_aload_n hx hb dX12_mark_59 rfl (lv_at hl 0 rfl) ?_
          refine b_get hM (hW.at_ a) 10 5 ha rfl rfl (by decide) wi_X12 (wgm fk_RX12_39) (x := .ref (a + 24)) rfl dX12_mark_60 ?_
          refine lv_iload_n hx hb dX12_mark_63 rfl (lv_at hl 1 rfl) ?_
          obtain ⟨h6, hf⟩ := ck_elim hf
          obtain ⟨q7, hq7, hf⟩ := bd_elim hf
          refine b_aald (n := 4) hM (hW.at_ a) 10 5 ha (by decide) rfl rfl rfl rfl h6 hq7 dX12_mark_64 ?_
          obtain ⟨h8, hf⟩ := ck_elim hf
          have h8 := of_decide_eq_true h8
          obtain ⟨S10, hr9, hf⟩ := bd_elim hf
          refine s_callVv [.ref q7] [] hM hml hl.1 hW h5 rfl (by decide) (c_X3_takeAll l G fu _ (a + 9) _ h5 h8 hr9) (cwV 1 hM.2.2.2.1 (gV mk_RX12_120 im_X3_takeAll se_X3_takeAll it_RX3 cd_X3_takeAll) rfl rfl rfl (by decide +kernel) ⟨Nat.le_of_ble_eq_true rfl, Nat.le_of_ble_eq_true rfl⟩) rfl rfl (Nat.le_of_ble_eq_true rfl) ⟨Nat.zero_le _, Nat.zero_le _⟩ dX12_mark_65 (fun H locs hW hk => ?_)
          have ha := keep1 hk ha
          have h5 := keep1 hk h5
          have h8 := keep1 hk h8
          have hK0 := keep_tr hK0 hk
          refine lv_aload_n hx hb dX12_mark_68 rfl (lv_at hl 0 rfl) ?_
          refine lv_iconst (v := (0 : Int32)) hx hb dX12_mark_69 (by decide) ?_
          refine s_putI hM hW 10 17 ha rfl rfl (by decide) wi_X12 tyX12 tyX12_ok nmX12 (wgm fk_RX12_97) rfl rfl rfl dX12_mark_70 (fun S11 eS11 hk H locs hW => ?_)
          have hf := nm_at eS11 hf
          have ha := keep1 hk ha
          have h5 := keep1 hk h5
          have h8 := keep1 hk h8
          have hK0 := keep_tr hK0 hk
          refine lv_iconst (v := (1 : Int32)) hx hb dX12_mark_73 (by decide) ?_
          cases hf
          exact W.zret (v := (1 : Int32)) hx hb hr (by decide) (b_ret0 hW hK0 _) hW.2.2.2 dX12_mark_74 hlk
        · have hf := if_t c4 hf
          refine lv_iconst (v := (0 : Int32)) hx hb dX12_mark_53 (by decide) ?_
          cases hf
          exact W.zret (v := (0 : Int32)) hx hb hr (by decide) (b_ret0 hW hK0 _) hW.2.2.2 dX12_mark_54 hlk
      · have hf := if_t c3 hf
        refine lv_aload_n hx hb dX12_mark_15 rfl (lv_at hl 0 rfl) ?_
        refine b_get hM (hW.at_ a) 10 5 ha rfl rfl (by decide) wi_X12 (wgm fk_RX12_39) (x := .ref (a + 24)) rfl dX12_mark_16 ?_
        refine lv_iload_n hx hb dX12_mark_19 rfl (lv_at hl 1 rfl) ?_
        obtain ⟨h12, hf⟩ := ck_elim hf
        obtain ⟨q13, hq13, hf⟩ := bd_elim hf
        refine b_aald (n := 4) hM (hW.at_ a) 10 5 ha (by decide) rfl rfl rfl rfl h12 hq13 dX12_mark_20 ?_
        obtain ⟨h14, hf⟩ := ck_elim hf
        have h14 := of_decide_eq_true h14
        refine lv_aload_n hx hb dX12_mark_21 rfl (lv_at hl 0 rfl) ?_
        refine b_get hM (hW.at_ a) 10 2 ha rfl rfl (by decide) wi_X12 (wgm fk_RX12_28) (x := .ref (a + 9)) rfl dX12_mark_22 ?_
        obtain ⟨h15, hf⟩ := ck_elim hf
        have h15 := of_decide_eq_true h15
        obtain ⟨S17, hr16, hf⟩ := bd_elim hf
        refine s_callVv [.ref (a + 9)] [] hM hml hl.1 hW h14 rfl (by decide) (c_X3_takeAll l G fu _ q13 _ h14 h15 hr16) (cwV 1 hM.2.2.2.1 (gV mk_RX12_120 im_X3_takeAll se_X3_takeAll it_RX3 cd_X3_takeAll) rfl rfl rfl (by decide +kernel) ⟨Nat.le_of_ble_eq_true rfl, Nat.le_of_ble_eq_true rfl⟩) rfl rfl (Nat.le_of_ble_eq_true rfl) ⟨Nat.zero_le _, Nat.zero_le _⟩ dX12_mark_25 (fun H locs hW hk => ?_)
        have ha := keep1 hk ha
        have h14 := keep1 hk h14
        have h15 := keep1 hk h15
        have hK0 := keep_tr hK0 hk
        refine lv_aload_n hx hb dX12_mark_28 rfl (lv_at hl 0 rfl) ?_
        refine lv_dup hx hb dX12_mark_29 rfl ?_
        refine b_get hM (hW.at_ a) 10 18 ha rfl rfl (by decide) wi_X12 (wgm fk_RX12_100) (x := .int (gI (S17 a) 18)) rfl dX12_mark_30 ?_
        refine lv_iconst (v := (1 : Int32)) hx hb dX12_mark_33 (by decide) ?_
        refine lv_iload_n hx hb dX12_mark_34 rfl (lv_at hl 1 rfl) ?_
        refine lv_ishl hx hb dX12_mark_35 ?_
        refine lv_ior hx hb dX12_mark_36 ?_
        refine s_putI hM hW 10 18 ha rfl rfl (by decide) wi_X12 tyX12 tyX12_ok nmX12 (wgm fk_RX12_100) rfl rfl rfl dX12_mark_37 (fun S18 eS18 hk H locs hW => ?_)
        have hf := nm_at eS18 hf
        have ha := keep1 hk ha
        have h14 := keep1 hk h14
        have h15 := keep1 hk h15
        have hK0 := keep_tr hK0 hk
        refine lv_iconst (v := (1 : Int32)) hx hb dX12_mark_40 (by decide) ?_
        cases hf
        exact W.zret (v := (1 : Int32)) hx hb hr (by decide) (b_ret0 hW hK0 _) hW.2.2.2 dX12_mark_41 hlk
    · have hf := if_f c2 hf
      exact t_X12_mark_9 (fu := fu) hM hml hr hlk hf ha hK0 _ _ hW _ (lv_sub hl [] rfl)
noncomputable def f_X12_mark (fu : Nat) (S : ST) (a : Nat) (x1 : Int32) (x2 : Int32) : Option (Int32 × ST) := f_X12_mark_0 fu S a x1 x2
set_option maxHeartbeats 4000000 in
set_option maxRecDepth 100000 in
theorem c_X12_mark (l : Launch) (G : GG) (fu : Nat) (S : ST) (a : Nat) (x1 : Int32) (x2 : Int32) {z : Int32} {w : ST} (ha : gC (S a) = 11) (hf : f_X12_mark fu S a x1 x2 = some (z, w)) : Ct l yX12_mark w_X12_mark RM_X12_mark G S [.ref a, .int x1, .int x2] (some (.int z)) w 0 0 := by
  refine Met.ofW (cc := cX12_mark) (maxL := 3) (ret := (some .boolean)) (by decide) rfl ?_
  intro p e s m args below meth c s₁ B hml hv
  obtain ⟨rfl, hB, hK, hz⟩ := hv
  have hM : MC G p s m _ c cX12_mark w_X12_mark RX12 := ⟨B.exec, B.bytes, findClass_of_methodNamed B.named, atoms_spec (ws := w_X12_mark) B.pre, hK, hz⟩
  have hW : WB G S s s.heap [] := ⟨hB, va_S.rf⟩
  have hl := lv_entry ([.ref a, .int x1, .int x2]) (n := 3) (Nat.le_of_ble_eq_true rfl)
  rw [lg_entry_eq]
  generalize (lg_sl ([.ref a, .int x1, .int x2]) ++ List.replicate (3 - (lg_sl ([.ref a, .int x1, .int x2])).length) Slot.unset).toArray = ls at hl ⊢
  have hl : lv_has ls 3 [(0, .ref a), (1, .int x1), (2, .int x2)] := hl
  exact t_X12_mark_0 (fu := fu) hM hml B.returns B.notSynchronized hf ha (fun _ _ => rfl) _ _ hW _ (lv_sub hl [0, 1, 2] rfl)
abbrev RM_X12_judged : Room := { frames := 6, cells := 0, slots := 0, locals := 145 }
abbrev w_X12_judged : List Cond := Cond.code yX12_judged cX12_judged 3 (some .int) :: wsL_law0
noncomputable def f_X12_judged_9 (fu : Nat)  (S : ST) (a : Nat) : Option (Int32 × ST) :=
  some ((-2 : Int32), S)
set_option maxHeartbeats 4000000 in
set_option maxRecDepth 100000 in
theorem t_X12_judged_9 {G : GG} {p : Program} {l : Launch} {e : Env} {s : State} {m : MethodId} {args : Array Value} {below : List Frame} {meth : Method} {c : Code} {S0 : ST} {fu : Nat} {z : Int32 × ST} {a : Nat}  {S : ST} (hM : MC G p s m args c cX12_judged w_X12_judged RX12) (hml : c.maxLocals = 3) (hr : meth.sig.returnType = (some .int)) (hlk : meth.locks = false)   (hf : f_X12_judged_9 fu  S a  = some z) : (gC (S a) = 11) → (∀ b, gC (S0 b) ≠ 0 → gC (S b) = gC (S0 b)) → ∀ (H : Heap) (locs : List Loc), WB G S s H locs → ∀ (ls : Array Slot), lv_has ls 3 [] → W p l e RM_X12_judged s m args below meth c H locs 0 0 (QR G below args s (some (.int z.1)) S0 z.2) (F0 m 9 ls []) := by
  intro ha hK0 H locs hW ls hl
  have hx := hM.1
  have hb := hM.2.1
  refine lv_bipush (v := (-2 : Int32)) hx hb dX12_judged_9 (by decide) ?_
  cases hf
  exact W.iret hx hb hr (b_ret0 hW hK0 _) hW.2.2.2 dX12_judged_11 hlk
noncomputable def f_X12_judged_0 (fu : Nat)  (S : ST) (a : Nat) (x1 : Int32) : Option (Int32 × ST) :=
  if x1 < 0 then
    (f_X12_judged_9 fu S a)
  else
    (if x1 ≤ (2 : Int32) then
      (ck (decide (gC (S (a + 16)) = 3)) <|
      bd (gR (S a) 12) fun q4 =>
      ck (decide (gC (S q4) = 1)) <|
      ck (decide (gC (S (q4 + 8)) = 3)) <|
      bd (f_X3_takeAll fu S (a + 16) (q4 + 8)) fun S8 =>
      bd (gR (S8 a) 14) fun q9 =>
      ck (decide (gC (S8 q9) = 6)) <|
      bd (gR (S8 a) 12) fun q11 =>
      ck (decide (gC (S8 q11) = 1)) <|
      bd2 (f_X6_play fu S8 q9 (a + 16) q11) fun r13 S14 =>
      if x1 = 0 then
        (some (r13, S14))
      else
        (if x1 = (1 : Int32) then
          (some ((gI (S14 (a + 16)) 8), S14))
        else
          (bd (f_X3_allCoins fu (S14 (a + 16))) fun r17 =>
          some (r17, S14))))
    else
      (f_X12_judged_9 fu S a))
set_option maxHeartbeats 4000000 in
set_option maxRecDepth 100000 in
theorem t_X12_judged_0 {G : GG} {p : Program} {l : Launch} {e : Env} {s : State} {m : MethodId} {args : Array Value} {below : List Frame} {meth : Method} {c : Code} {S0 : ST} {fu : Nat} {z : Int32 × ST} {a : Nat}  {S : ST} {x1 : Int32} (hM : MC G p s m args c cX12_judged w_X12_judged RX12) (hml : c.maxLocals = 3) (hr : meth.sig.returnType = (some .int)) (hlk : meth.locks = false)   (hf : f_X12_judged_0 fu  S a x1 = some z) : (gC (S a) = 11) → (∀ b, gC (S0 b) ≠ 0 → gC (S b) = gC (S0 b)) → ∀ (H : Heap) (locs : List Loc), WB G S s H locs → ∀ (ls : Array Slot), lv_has ls 3 [(0, .ref a), (1, .int x1)] → W p l e RM_X12_judged s m args below meth c H locs 0 0 (QR G below args s (some (.int z.1)) S0 z.2) (F0 m 0 ls []) := by
  intro ha hK0 H locs hW ls hl
  have hx := hM.1
  have hb := hM.2.1
  refine lv_iload_n hx hb dX12_judged_0 rfl (lv_at hl 1 rfl) ?_
  refine lv_if_lt (tgt := 9) hx hb dX12_judged_1 (by decide) (fun c1 => ?_) (fun c1 => ?_)
  · have hf := if_t c1 hf
    exact t_X12_judged_9 (fu := fu) hM hml hr hlk hf ha hK0 _ _ hW _ (lv_sub hl [] rfl)
  · have hf := if_f c1 hf
    refine lv_iload_n hx hb dX12_judged_4 rfl (lv_at hl 1 rfl) ?_
    refine lv_iconst (v := (2 : Int32)) hx hb dX12_judged_5 (by decide) ?_
    refine lv_icmp_le (tgt := 12) hx hb dX12_judged_6 (by decide) (fun c2 => ?_) (fun c2 => ?_)
    · have hf := if_t c2 hf
      refine lv_aload_n hx hb dX12_judged_12 rfl (lv_at hl 0 rfl) ?_
      refine b_get hM (hW.at_ a) 10 3 ha rfl rfl (by decide) wi_X12 (wgm fk_RX12_32) (x := .ref (a + 16)) rfl dX12_judged_13 ?_
      obtain ⟨h3, hf⟩ := ck_elim hf
      have h3 := of_decide_eq_true h3
      refine lv_aload_n hx hb dX12_judged_16 rfl (lv_at hl 0 rfl) ?_
      obtain ⟨q4, hq4, hf⟩ := bd_elim hf
      refine b_get hM (hW.at_ a) 10 12 ha rfl rfl (by decide) wi_X12 (wgm fk_RX12_76) (x := .ref q4) (by show va_rf _ = _; rw [hq4]; rfl) dX12_judged_17 ?_
      obtain ⟨h5, hf⟩ := ck_elim hf
      have h5 := of_decide_eq_true h5
      refine b_get hM (hW.at_ q4) 0 7 h5 rfl rfl (by decide) wi_X1 (wgm fk_RX12_117) (x := .ref (q4 + 8)) rfl dX12_judged_20 ?_
      obtain ⟨h6, hf⟩ := ck_elim hf
      have h6 := of_decide_eq_true h6
      obtain ⟨S8, hr7, hf⟩ := bd_elim hf
      refine s_callVv [.ref (q4 + 8)] [] hM hml hl.1 hW h3 rfl (by decide) (c_X3_takeAll l G fu _ (a + 16) _ h3 h6 hr7) (cwV 1 hM.2.2.2.1 (gV mk_RX12_120 im_X3_takeAll se_X3_takeAll it_RX3 cd_X3_takeAll) rfl rfl rfl (by decide +kernel) ⟨Nat.le_of_ble_eq_true rfl, Nat.le_of_ble_eq_true rfl⟩) rfl rfl (Nat.le_of_ble_eq_true rfl) ⟨Nat.zero_le _, Nat.zero_le _⟩ dX12_judged_23 (fun H locs hW hk => ?_)
      have ha := keep1 hk ha
      have h3 := keep1 hk h3
      have h5 := keep1 hk h5
      have h6 := keep1 hk h6
      have hK0 := keep_tr hK0 hk
      refine lv_aload_n hx hb dX12_judged_26 rfl (lv_at hl 0 rfl) ?_
      obtain ⟨q9, hq9, hf⟩ := bd_elim hf
      refine b_get hM (hW.at_ a) 10 14 ha rfl rfl (by decide) wi_X12 (wgm fk_RX12_86) (x := .ref q9) (by show va_rf _ = _; rw [hq9]; rfl) dX12_judged_27 ?_
      obtain ⟨h10, hf⟩ := ck_elim hf
      have h10 := of_decide_eq_true h10
      refine lv_aload_n hx hb dX12_judged_30 rfl (lv_at hl 0 rfl) ?_
      refine b_get hM (hW.at_ a) 10 3 ha rfl rfl (by decide) wi_X12 (wgm fk_RX12_32) (x := .ref (a + 16)) rfl dX12_judged_31 ?_
      refine lv_aload_n hx hb dX12_judged_34 rfl (lv_at hl 0 rfl) ?_
      obtain ⟨q11, hq11, hf⟩ := bd_elim hf
      refine b_get hM (hW.at_ a) 10 12 ha rfl rfl (by decide) wi_X12 (wgm fk_RX12_76) (x := .ref q11) (by show va_rf _ = _; rw [hq11]; rfl) dX12_judged_35 ?_
      obtain ⟨h12, hf⟩ := ck_elim hf
      have h12 := of_decide_eq_true h12
      obtain ⟨r13, S14, hr13, hf⟩ := bd2_elim hf
      refine s_callVi [.ref (a + 16), .ref q11] [] hM hml hl.1 hW h10 rfl (by decide) (c_X6_play l G fu _ q9 _ _ h10 h3 h12 hr13) (cwV 2 hM.2.2.2.1 (gV mk_RX12_233 im_X6_play se_X6_play it_RX6 cd_X6_play) rfl rfl rfl (by decide +kernel) ⟨Nat.le_of_ble_eq_true rfl, Nat.le_of_ble_eq_true rfl⟩) rfl rfl (Nat.le_of_ble_eq_true rfl) ⟨Nat.zero_le _, Nat.zero_le _⟩ dX12_judged_38 (fun H locs hW hk => ?_)
      have ha := keep1 hk ha
      have h3 := keep1 hk h3
      have h5 := keep1 hk h5
      have h6 := keep1 hk h6
      have h10 := keep1 hk h10
      have h12 := keep1 hk h12
      have hK0 := keep_tr hK0 hk
      refine lv_istore_n (lv' := [(2, .int r13), (0, .ref a), (1, .int x1)]) hx hb dX12_judged_41 rfl hl (by decide) rfl (fun ls hl => ?_)
      refine lv_iload_n hx hb dX12_judged_42 rfl (lv_at hl 2 rfl) ?_
      refine lv_if_ne (tgt := 48) hx hb dX12_judged_43 (by decide) (fun c15 => ?_) (fun c15 => ?_)
      · have hf := if_f c15 hf
        refine lv_iload_n hx hb dX12_judged_48 rfl (lv_at hl 2 rfl) ?_
        refine lv_iconst (v := (1 : Int32)) hx hb dX12_judged_49 (by decide) ?_
        refine lv_icmp_ne (tgt := 63) hx hb dX12_judged_50 (by decide) (fun c16 => ?_) (fun c16 => ?_)
        · have hf := if_f c16 hf
          refine lv_aload_n hx hb dX12_judged_63 rfl (lv_at hl 1 rfl) ?_
          refine b_get hM (hW.at_ a) 10 3 ha rfl rfl (by decide) wi_X12 (wgm fk_RX12_32) (x := .ref (a + 16)) rfl dX12_judged_64 ?_
          obtain ⟨r17, hr17, hf⟩ := bd_elim hf
          refine s_callVi [] [] hM hml hl.1 hW h3 rfl (by decide) (Ct_rd (c_X3_allCoins l G fu _ (a + 16) (S14 (a + 16)) h3 hr17)) (cwV 0 hM.2.2.2.1 (gV mk_RX12_191 im_X3_allCoins se_X3_allCoins it_RX3 cd_X3_allCoins) rfl rfl rfl (by decide +kernel) ⟨Nat.le_of_ble_eq_true rfl, Nat.le_of_ble_eq_true rfl⟩) rfl rfl (Nat.le_of_ble_eq_true rfl) ⟨Nat.zero_le _, Nat.zero_le _⟩ dX12_judged_67 (fun H locs hW hk => ?_)
          cases hf
          exact W.iret hx hb hr (b_ret0 hW hK0 _) hW.2.2.2 dX12_judged_70 hlk
        · have hf := if_t c16 hf
          refine lv_aload_n hx hb dX12_judged_53 rfl (lv_at hl 1 rfl) ?_
          refine b_get hM (hW.at_ a) 10 3 ha rfl rfl (by decide) wi_X12 (wgm fk_RX12_32) (x := .ref (a + 16)) rfl dX12_judged_54 ?_
          refine b_get hM (hW.at_ (a + 16)) 2 8 h3 rfl rfl (by decide) wi_X3 (wgm fk_RX12_188) (x := .int (gI (S14 (a + 16)) 8)) rfl dX12_judged_57 ?_
          refine lv_goto (tgt := 70) hx hb dX12_judged_60 (by decide) ?_
          cases hf
          exact W.iret hx hb hr (b_ret0 hW hK0 _) hW.2.2.2 dX12_judged_70 hlk
      · have hf := if_t c15 hf
        refine lv_iload_n hx hb dX12_judged_46 rfl (lv_at hl 0 rfl) ?_
        cases hf
        exact W.iret hx hb hr (b_ret0 hW hK0 _) hW.2.2.2 dX12_judged_47 hlk
    · have hf := if_f c2 hf
      exact t_X12_judged_9 (fu := fu) hM hml hr hlk hf ha hK0 _ _ hW _ (lv_sub hl [] rfl)
noncomputable def f_X12_judged (fu : Nat) (S : ST) (a : Nat) (x1 : Int32) : Option (Int32 × ST) := f_X12_judged_0 fu S a x1
set_option maxHeartbeats 4000000 in
set_option maxRecDepth 100000 in
theorem c_X12_judged (l : Launch) (G : GG) (fu : Nat) (S : ST) (a : Nat) (x1 : Int32) {z : Int32} {w : ST} (ha : gC (S a) = 11) (hf : f_X12_judged fu S a x1 = some (z, w)) : Ct l yX12_judged w_X12_judged RM_X12_judged G S [.ref a, .int x1] (some (.int z)) w 0 0 := by
  refine Met.ofW (cc := cX12_judged) (maxL := 3) (ret := (some .int)) (by decide) rfl ?_
  intro p e s m args below meth c s₁ B hml hv
  obtain ⟨rfl, hB, hK, hz⟩ := hv
  have hM : MC G p s m _ c cX12_judged w_X12_judged RX12 := ⟨B.exec, B.bytes, findClass_of_methodNamed B.named, atoms_spec (ws := w_X12_judged) B.pre, hK, hz⟩
  have hW : WB G S s s.heap [] := ⟨hB, va_S.rf⟩
  have hl := lv_entry ([.ref a, .int x1]) (n := 3) (Nat.le_of_ble_eq_true rfl)
  rw [lg_entry_eq]
  generalize (lg_sl ([.ref a, .int x1]) ++ List.replicate (3 - (lg_sl ([.ref a, .int x1])).length) Slot.unset).toArray = ls at hl ⊢
  have hl : lv_has ls 3 [(0, .ref a), (1, .int x1)] := hl
  exact t_X12_judged_0 (fu := fu) hM hml B.returns B.notSynchronized hf ha (fun _ _ => rfl) _ _ hW _ (lv_sub hl [0, 1] rfl)
