abbrev RM_X2_takeHour : Room := { frames := 3, cells := 0, slots := 0, locals := 66 }
abbrev w_X2_takeHour : List Cond := Cond.code yX2_takeHour cX2_takeHour 3 (some .int) :: wsL_law0
noncomputable def f_X2_takeHour_0 (fu : Nat)  (S : ST) (a : Nat) (x1 : Int32) : Option (Int32 × ST) :=
  bd (gR (S a) 0) fun q1 =>
  ck (decide (gC (S q1) = 8)) <|
  bd (f_X8_isNumber fu (S q1)) fun r3 =>
  if r3 = 0 then
    (bd (gR (S a) 0) fun q19 =>
    ck (decide (gC (S q19) = 8)) <|
    bd (f_X8_fail fu (S q19) (1 : Int32)) fun v22 =>
    nm (st S q19 v22) fun Sv22 =>
    some ((0 : Int32), Sv22))
  else
    (bd (gR (S a) 0) fun q5 =>
    ck (decide (gC (S q5) = 8)) <|
    bd (f_X8_number fu (S q5)) fun r7 =>
    if r7 < (24 : Int32) then
      (bd (gR (S a) 0) fun q9 =>
      ck (decide (gC (S q9) = 8)) <|
      bd (f_X8_number fu (S q9)) fun r11 =>
      nm (((1 : Int32) <<< (r11 &&& 31))) fun y12 =>
      bd (f_X2_takeOnce fu S a x1 y12 (4 : Int32)) fun S14 =>
      some (y12, S14))
    else
      (bd (gR (S a) 0) fun q15 =>
      ck (decide (gC (S q15) = 8)) <|
      bd (f_X8_fail fu (S q15) (4 : Int32)) fun v18 =>
      nm (st S q15 v18) fun Sv18 =>
      some ((0 : Int32), Sv18)))
set_option maxHeartbeats 4000000 in
set_option maxRecDepth 100000 in
theorem t_X2_takeHour_0 {G : GG} {p : Program} {l : Launch} {e : Env} {s : State} {m : MethodId} {args : Array Value} {below : List Frame} {meth : Method} {c : Code} {S0 : ST} {fu : Nat} {z : Int32 × ST} {a : Nat}  {S : ST} {x1 : Int32} (hM : MC G p s m args c cX2_takeHour w_X2_takeHour RX2) (hml : c.maxLocals = 3) (hr : meth.sig.returnType = (some .int)) (hlk : meth.locks = false)   (hf : f_X2_takeHour_0 fu  S a x1 = some z) : (gC (S a) = 2) → (∀ b, gC (S0 b) ≠ 0 → gC (S b) = gC (S0 b)) → ∀ (H : Heap) (locs : List Loc), WB G S s H locs → ∀ (ls : Array Slot), lv_has ls 3 [(0, .ref a), (1, .int x1)] → W p l e RM_X2_takeHour s m args below meth c H locs 0 0 (QR G below args s (some (.int z.1)) S0 z.2) (F0 m 0 ls []) := by
  intro ha hK0 H locs hW ls hl
  have hx := hM.1
  have hb := hM.2.1
  refine lv_aload_n hx hb dX2_takeHour_0 rfl (lv_at hl 0 rfl) ?_
  obtain ⟨q1, hq1, hf⟩ := bd_elim hf
  refine b_get hM (hW.at_ a) 1 0 ha rfl rfl (by decide) wi_X2 (wgm fk_RX2_9) (x := .ref q1) (by show va_rf _ = _; rw [hq1]; rfl) dX2_takeHour_1 ?_
  obtain ⟨h2, hf⟩ := ck_elim hf
  have h2 := of_decide_eq_true h2
  obtain ⟨r3, hr3, hf⟩ := bd_elim hf
  refine s_callVi [] [] hM hml hl.1 hW h2 rfl (by decide) (Ct_rd (c_X8_isNumber l G fu _ q1 (S q1) h2 hr3)) (cwV 0 hM.2.2.2.1 (gV mk_RX2_151 im_X8_isNumber se_X8_isNumber it_RX8 cd_X8_isNumber) rfl rfl rfl (by decide +kernel) ⟨Nat.le_of_ble_eq_true rfl, Nat.le_of_ble_eq_true rfl⟩) rfl rfl (Nat.le_of_ble_eq_true rfl) ⟨Nat.zero_le _, Nat.zero_le _⟩ dX2_takeHour_4 (fun H locs hW hk => ?_)
  refine lv_if_ne (tgt := 20) hx hb dX2_takeHour_7 (by decide) (fun c4 => ?_) (fun c4 => ?_)
  · have hf := if_f c4 hf
    refine lv_aload_n hx hb dX2_takeHour_20 rfl (lv_at hl 0 rfl) ?_
    obtain ⟨q5, hq5, hf⟩ := bd_elim hf
    refine b_get hM (hW.at_ a) 1 0 ha rfl rfl (by decide) wi_X2 (wgm fk_RX2_9) (x := .ref q5) (by show va_rf _ = _; rw [hq5]; rfl) dX2_takeHour_21 ?_
    obtain ⟨h6, hf⟩ := ck_elim hf
    have h6 := of_decide_eq_true h6
    obtain ⟨r7, hr7, hf⟩ := bd_elim hf
    refine s_callVi [] [] hM hml hl.1 hW h6 rfl (by decide) (Ct_rd (c_X8_number l G fu _ q5 (S q5) h6 hr7)) (cwV 0 hM.2.2.2.1 (gV mk_RX2_154 im_X8_number se_X8_number it_RX8 cd_X8_number) rfl rfl rfl (by decide +kernel) ⟨Nat.le_of_ble_eq_true rfl, Nat.le_of_ble_eq_true rfl⟩) rfl rfl (Nat.le_of_ble_eq_true rfl) ⟨Nat.zero_le _, Nat.zero_le _⟩ dX2_takeHour_24 (fun H locs hW hk => ?_)
    refine lv_bipush (v := (24 : Int32)) hx hb dX2_takeHour_27 (by decide) ?_
    refine lv_icmp_lt (tgt := 42) hx hb dX2_takeHour_29 (by decide) (fun c8 => ?_) (fun c8 => ?_)
    · have hf := if_t c8 hf
      refine lv_iconst (v := (1 : Int32)) hx hb dX2_takeHour_42 (by decide) ?_
      refine lv_aload_n hx hb dX2_takeHour_43 rfl (lv_at hl 0 rfl) ?_
      obtain ⟨q9, hq9, hf⟩ := bd_elim hf
      refine b_get hM (hW.at_ a) 1 0 ha rfl rfl (by decide) wi_X2 (wgm fk_RX2_9) (x := .ref q9) (by show va_rf _ = _; rw [hq9]; rfl) dX2_takeHour_44 ?_
      obtain ⟨h10, hf⟩ := ck_elim hf
      have h10 := of_decide_eq_true h10
      obtain ⟨r11, hr11, hf⟩ := bd_elim hf
      refine s_callVi [] [.int (1 : Int32)] hM hml hl.1 hW h10 rfl (by decide) (Ct_rd (c_X8_number l G fu _ q9 (S q9) h10 hr11)) (cwV 0 hM.2.2.2.1 (gV mk_RX2_154 im_X8_number se_X8_number it_RX8 cd_X8_number) rfl rfl rfl (by decide +kernel) ⟨Nat.le_of_ble_eq_true rfl, Nat.le_of_ble_eq_true rfl⟩) rfl rfl (Nat.le_of_ble_eq_true rfl) ⟨Nat.zero_le _, Nat.zero_le _⟩ dX2_takeHour_47 (fun H locs hW hk => ?_)
      refine lv_ishl hx hb dX2_takeHour_50 ?_
      refine lv_topi (fun y12 ey12 => ?_)
      have hf := nm_at ey12 hf
      refine lv_istore_n (lv' := [(2, .int y12), (0, .ref a), (1, .int x1)]) hx hb dX2_takeHour_51 rfl hl (by decide) rfl (fun ls hl => ?_)
      refine lv_aload_n hx hb dX2_takeHour_52 rfl (lv_at hl 1 rfl) ?_
      refine lv_iload_n hx hb dX2_takeHour_53 rfl (lv_at hl 2 rfl) ?_
      refine lv_iload_n hx hb dX2_takeHour_54 rfl (lv_at hl 0 rfl) ?_
      refine lv_iconst (v := (4 : Int32)) hx hb dX2_takeHour_55 (by decide) ?_
      obtain ⟨S14, hr13, hf⟩ := bd_elim hf
      refine s_callVv [.int x1, .int y12, .int (4 : Int32)] [] hM hml hl.1 hW ha rfl (by decide) (c_X2_takeOnce l G fu _ a _ _ _ ha hr13) (cwV 3 hM.2.2.2.1 (gV mk_RX2_157 im_X2_takeOnce se_X2_takeOnce it_RX2 cd_X2_takeOnce) rfl rfl rfl (by decide +kernel) ⟨Nat.le_of_ble_eq_true rfl, Nat.le_of_ble_eq_true rfl⟩) rfl rfl (Nat.le_of_ble_eq_true rfl) ⟨Nat.zero_le _, Nat.zero_le _⟩ dX2_takeHour_56 (fun H locs hW hk => ?_)
      have ha := keep1 hk ha
      have h2 := keep1 hk h2
      have h6 := keep1 hk h6
      have h10 := keep1 hk h10
      have hK0 := keep_tr hK0 hk
      refine lv_iload_n hx hb dX2_takeHour_59 rfl (lv_at hl 0 rfl) ?_
      cases hf
      exact W.iret hx hb hr (b_ret0 hW hK0 _) hW.2.2.2 dX2_takeHour_60 hlk
    · have hf := if_f c8 hf
      refine lv_aload_n hx hb dX2_takeHour_32 rfl (lv_at hl 0 rfl) ?_
      obtain ⟨q15, hq15, hf⟩ := bd_elim hf
      refine b_get hM (hW.at_ a) 1 0 ha rfl rfl (by decide) wi_X2 (wgm fk_RX2_9) (x := .ref q15) (by show va_rf _ = _; rw [hq15]; rfl) dX2_takeHour_33 ?_
      obtain ⟨h16, hf⟩ := ck_elim hf
      have h16 := of_decide_eq_true h16
      refine lv_iconst (v := (4 : Int32)) hx hb dX2_takeHour_36 (by decide) ?_
      obtain ⟨v18, hr17, hf⟩ := bd_elim hf
      refine s_callNv [.int (4 : Int32)] [] hM hml hl.1 hW h16 rfl (by decide) (Ct_self (c_X8_fail l G fu _ q15 (S q15) _ h16 hr17)) (cwV 1 hM.2.2.2.1 (gV mk_RX2_73 im_X8_fail se_X8_fail it_RX8 cd_X8_fail) rfl rfl rfl (by decide +kernel) ⟨Nat.le_of_ble_eq_true rfl, Nat.le_of_ble_eq_true rfl⟩) rfl rfl (Nat.le_of_ble_eq_true rfl) ⟨Nat.zero_le _, Nat.zero_le _⟩ dX2_takeHour_37 (fun Sv18 ev18 hk H locs hW => ?_)
      have hf := nm_at ev18 hf
      have ha := keep1 hk ha
      have h2 := keep1 hk h2
      have h6 := keep1 hk h6
      have h16 := keep1 hk h16
      have hK0 := keep_tr hK0 hk
      refine lv_iconst (v := (0 : Int32)) hx hb dX2_takeHour_40 (by decide) ?_
      cases hf
      exact W.iret hx hb hr (b_ret0 hW hK0 _) hW.2.2.2 dX2_takeHour_41 hlk
  · have hf := if_t c4 hf
    refine lv_aload_n hx hb dX2_takeHour_10 rfl (lv_at hl 0 rfl) ?_
    obtain ⟨q19, hq19, hf⟩ := bd_elim hf
    refine b_get hM (hW.at_ a) 1 0 ha rfl rfl (by decide) wi_X2 (wgm fk_RX2_9) (x := .ref q19) (by show va_rf _ = _; rw [hq19]; rfl) dX2_takeHour_11 ?_
    obtain ⟨h20, hf⟩ := ck_elim hf
    have h20 := of_decide_eq_true h20
    refine lv_iconst (v := (1 : Int32)) hx hb dX2_takeHour_14 (by decide) ?_
    obtain ⟨v22, hr21, hf⟩ := bd_elim hf
    refine s_callNv [.int (1 : Int32)] [] hM hml hl.1 hW h20 rfl (by decide) (Ct_self (c_X8_fail l G fu _ q19 (S q19) _ h20 hr21)) (cwV 1 hM.2.2.2.1 (gV mk_RX2_73 im_X8_fail se_X8_fail it_RX8 cd_X8_fail) rfl rfl rfl (by decide +kernel) ⟨Nat.le_of_ble_eq_true rfl, Nat.le_of_ble_eq_true rfl⟩) rfl rfl (Nat.le_of_ble_eq_true rfl) ⟨Nat.zero_le _, Nat.zero_le _⟩ dX2_takeHour_15 (fun Sv22 ev22 hk H locs hW => ?_)
    have hf := nm_at ev22 hf
    have ha := keep1 hk ha
    have h2 := keep1 hk h2
    have h20 := keep1 hk h20
    have hK0 := keep_tr hK0 hk
    refine lv_iconst (v := (0 : Int32)) hx hb dX2_takeHour_18 (by decide) ?_
    cases hf
    exact W.iret hx hb hr (b_ret0 hW hK0 _) hW.2.2.2 dX2_takeHour_19 hlk
noncomputable def f_X2_takeHour (fu : Nat) (S : ST) (a : Nat) (x1 : Int32) : Option (Int32 × ST) := f_X2_takeHour_0 fu S a x1
set_option maxHeartbeats 4000000 in
set_option maxRecDepth 100000 in
theorem c_X2_takeHour (l : Launch) (G : GG) (fu : Nat) (S : ST) (a : Nat) (x1 : Int32) {z : Int32} {w : ST} (ha : gC (S a) = 2) (hf : f_X2_takeHour fu S a x1 = some (z, w)) : Ct l yX2_takeHour w_X2_takeHour RM_X2_takeHour G S [.ref a, .int x1] (some (.int z)) w 0 0 := by
  refine Met.ofW (cc := cX2_takeHour) (maxL := 3) (ret := (some .int)) (by decide) rfl ?_
  intro p e s m args below meth c s₁ B hml hv
  obtain ⟨rfl, hB, hK, hz⟩ := hv
  have hM : MC G p s m _ c cX2_takeHour w_X2_takeHour RX2 := ⟨B.exec, B.bytes, findClass_of_methodNamed B.named, atoms_spec (ws := w_X2_takeHour) B.pre, hK, hz⟩
  have hW : WB G S s s.heap [] := ⟨hB, va_S.rf⟩
  have hl := lv_entry ([.ref a, .int x1]) (n := 3) (Nat.le_of_ble_eq_true rfl)
  rw [lg_entry_eq]
  generalize (lg_sl ([.ref a, .int x1]) ++ List.replicate (3 - (lg_sl ([.ref a, .int x1])).length) Slot.unset).toArray = ls at hl ⊢
  have hl : lv_has ls 3 [(0, .ref a), (1, .int x1)] := hl
  exact t_X2_takeHour_0 (fu := fu) hM hml B.returns B.notSynchronized hf ha (fun _ _ => rfl) _ _ hW _ (lv_sub hl [0, 1] rfl)
abbrev RM_X2_takeHours : Room := { frames := 4, cells := 0, slots := 0, locals := 88 }
abbrev w_X2_takeHours : List Cond := Cond.code yX2_takeHours cX2_takeHours 3 (some .int) :: wsL_law0
noncomputable def f_X2_takeHours_37 (fu : Nat)  (S : ST) (a : Nat) (x1 : Int32) : Option (Int32 × ST) :=
  some (x1, S)
set_option maxHeartbeats 4000000 in
set_option maxRecDepth 100000 in
theorem t_X2_takeHours_37 {G : GG} {p : Program} {l : Launch} {e : Env} {s : State} {m : MethodId} {args : Array Value} {below : List Frame} {meth : Method} {c : Code} {S0 : ST} {fu : Nat} {z : Int32 × ST} {a : Nat}  {S : ST} {x1 : Int32} (hM : MC G p s m args c cX2_takeHours w_X2_takeHours RX2) (hml : c.maxLocals = 3) (hr : meth.sig.returnType = (some .int)) (hlk : meth.locks = false)   (hf : f_X2_takeHours_37 fu  S a x1 = some z) : (gC (S a) = 2) → (∀ b, gC (S0 b) ≠ 0 → gC (S b) = gC (S0 b)) → ∀ (H : Heap) (locs : List Loc), WB G S s H locs → ∀ (ls : Array Slot), lv_has ls 3 [(1, .int x1)] → W p l e RM_X2_takeHours s m args below meth c H locs 0 0 (QR G below args s (some (.int z.1)) S0 z.2) (F0 m 37 ls []) := by
  intro ha hK0 H locs hW ls hl
  have hx := hM.1
  have hb := hM.2.1
  refine lv_iload_n hx hb dX2_takeHours_37 rfl (lv_at hl 0 rfl) ?_
  cases hf
  exact W.iret hx hb hr (b_ret0 hW hK0 _) hW.2.2.2 dX2_takeHours_38 hlk
noncomputable def f_X2_takeHours_8s (fu : Nat)  (k8 : Int32 → Int32 → ST → Option (Int32 × ST)) (a : Nat) (x1 : Int32) (x2 : Int32) (S : ST) : Option (Int32 × ST) :=
  if (4 : Int32) ≤ x2 then
    (f_X2_takeHours_37 fu S a x1)
  else
    (bd (gR (S a) 0) fun q2 =>
    ck (decide (gC (S q2) = 8)) <|
    bd (f_X8_isNumber fu (S q2)) fun r4 =>
    if r4 = 0 then
      (f_X2_takeHours_37 fu S a x1)
    else
      (bd2 (f_X2_takeHour fu S a x1) fun r6 S7 =>
      nm ((x1 ||| r6)) fun y8 =>
      nm (x2 + (1 : Int32)) fun y9 =>
      k8 y8 y9 S7))
noncomputable def f_X2_takeHours_8 (fu n : Nat)  (a : Nat) : Int32 → Int32 → ST → Option (Int32 × ST) :=
  lq_3 (fun k8 => f_X2_takeHours_8s fu  k8  a) n
set_option maxHeartbeats 4000000 in
set_option maxRecDepth 100000 in
theorem t_X2_takeHours_8s {G : GG} {p : Program} {l : Launch} {e : Env} {s : State} {m : MethodId} {args : Array Value} {below : List Frame} {meth : Method} {c : Code} {S0 : ST} {fu : Nat} {z : Int32 × ST} {a : Nat}  {k8 : Int32 → Int32 → ST → Option (Int32 × ST)} (hM : MC G p s m args c cX2_takeHours w_X2_takeHours RX2) (hml : c.maxLocals = 3) (hr : meth.sig.returnType = (some .int)) (hlk : meth.locks = false)   (hk8 : ∀ (x1 : Int32) (x2 : Int32) (S : ST), k8 x1 x2 S = some z → (gC (S a) = 2) → (∀ b, gC (S0 b) ≠ 0 → gC (S b) = gC (S0 b)) → ∀ (H : Heap) (locs : List Loc), WB G S s H locs → ∀ (ls : Array Slot), lv_has ls 3 [(0, .ref a), (1, .int x1), (2, .int x2)] → W p l e RM_X2_takeHours s m args below meth c H locs 0 0 (QR G below args s (some (.int z.1)) S0 z.2) (F0 m 8 ls [])) : ∀ (x1 : Int32) (x2 : Int32) (S : ST), f_X2_takeHours_8s fu  k8  a x1 x2 S = some z → (gC (S a) = 2) → (∀ b, gC (S0 b) ≠ 0 → gC (S b) = gC (S0 b)) → ∀ (H : Heap) (locs : List Loc), WB G S s H locs → ∀ (ls : Array Slot), lv_has ls 3 [(0, .ref a), (1, .int x1), (2, .int x2)] → W p l e RM_X2_takeHours s m args below meth c H locs 0 0 (QR G below args s (some (.int z.1)) S0 z.2) (F0 m 8 ls []) := by
  intro x1 x2 S hf ha hK0 H locs hW ls hl
  have hx := hM.1
  have hb := hM.2.1
  refine lv_iload_n hx hb dX2_takeHours_8 rfl (lv_at hl 2 rfl) ?_
  refine lv_iconst (v := (4 : Int32)) hx hb dX2_takeHours_9 (by decide) ?_
  refine lv_icmp_ge (tgt := 37) hx hb dX2_takeHours_10 (by decide) (fun c1 => ?_) (fun c1 => ?_)
  · have hf := if_t c1 hf
    exact t_X2_takeHours_37 (fu := fu) hM hml hr hlk hf ha hK0 _ _ hW _ (lv_sub hl [1] rfl)
  · have hf := if_f c1 hf
    refine lv_aload_n hx hb dX2_takeHours_13 rfl (lv_at hl 0 rfl) ?_
    obtain ⟨q2, hq2, hf⟩ := bd_elim hf
    refine b_get hM (hW.at_ a) 1 0 ha rfl rfl (by decide) wi_X2 (wgm fk_RX2_9) (x := .ref q2) (by show va_rf _ = _; rw [hq2]; rfl) dX2_takeHours_14 ?_
    obtain ⟨h3, hf⟩ := ck_elim hf
    have h3 := of_decide_eq_true h3
    obtain ⟨r4, hr4, hf⟩ := bd_elim hf
    refine s_callVi [] [] hM hml hl.1 hW h3 rfl (by decide) (Ct_rd (c_X8_isNumber l G fu _ q2 (S q2) h3 hr4)) (cwV 0 hM.2.2.2.1 (gV mk_RX2_151 im_X8_isNumber se_X8_isNumber it_RX8 cd_X8_isNumber) rfl rfl rfl (by decide +kernel) ⟨Nat.le_of_ble_eq_true rfl, Nat.le_of_ble_eq_true rfl⟩) rfl rfl (Nat.le_of_ble_eq_true rfl) ⟨Nat.zero_le _, Nat.zero_le _⟩ dX2_takeHours_17 (fun H locs hW hk => ?_)
    refine lv_if_eq (tgt := 37) hx hb dX2_takeHours_20 (by decide) (fun c5 => ?_) (fun c5 => ?_)
    · have hf := if_t c5 hf
      exact t_X2_takeHours_37 (fu := fu) hM hml hr hlk hf ha hK0 _ _ hW _ (lv_sub hl [1] rfl)
    · have hf := if_f c5 hf
      refine lv_iload_n hx hb dX2_takeHours_23 rfl (lv_at hl 1 rfl) ?_
      refine lv_aload_n hx hb dX2_takeHours_24 rfl (lv_at hl 0 rfl) ?_
      refine lv_iload_n hx hb dX2_takeHours_25 rfl (lv_at hl 1 rfl) ?_
      obtain ⟨r6, S7, hr6, hf⟩ := bd2_elim hf
      refine s_callVi [.int x1] [.int x1] hM hml hl.1 hW ha rfl (by decide) (c_X2_takeHour l G fu _ a _ ha hr6) (cwV 1 hM.2.2.2.1 (gV mk_RX2_148 im_X2_takeHour se_X2_takeHour it_RX2 cd_X2_takeHour) rfl rfl rfl (by decide +kernel) ⟨Nat.le_of_ble_eq_true rfl, Nat.le_of_ble_eq_true rfl⟩) rfl rfl (Nat.le_of_ble_eq_true rfl) ⟨Nat.zero_le _, Nat.zero_le _⟩ dX2_takeHours_26 (fun H locs hW hk => ?_)
      have ha := keep1 hk ha
      have h3 := keep1 hk h3
      have hK0 := keep_tr hK0 hk
      refine lv_ior hx hb dX2_takeHours_29 ?_
      refine lv_topi (fun y8 ey8 => ?_)
      have hf := nm_at ey8 hf
      refine lv_istore_n (lv' := [(1, .int y8), (0, .ref a), (2, .int x2)]) hx hb dX2_takeHours_30 rfl hl (by decide) rfl (fun ls hl => ?_)
      obtain ⟨y9, ey9⟩ : ∃ y : Int32, y = x2 + (1 : Int32) := ⟨_, rfl⟩
      have hf := nm_at ey9 hf
      refine lv_iinc (v := y9) (lv' := [(2, .int y9), (1, .int y8), (0, .ref a)]) hx hb dX2_takeHours_31 hl (k := 2) rfl (by rw [ey9]; rfl) (by decide) rfl (fun ls hl => ?_)
      refine lv_goto (tgt := 8) hx hb dX2_takeHours_34 (by decide) ?_
      exact hk8 _ _ _ hf ha hK0 _ _ hW _ (lv_sub hl [2, 1, 0] rfl)
theorem t_X2_takeHours_8 {G : GG} {p : Program} {l : Launch} {e : Env} {s : State} {m : MethodId} {args : Array Value} {below : List Frame} {meth : Method} {c : Code} {S0 : ST} {fu : Nat} {z : Int32 × ST} {a : Nat}  (hM : MC G p s m args c cX2_takeHours w_X2_takeHours RX2) (hml : c.maxLocals = 3) (hr : meth.sig.returnType = (some .int)) (hlk : meth.locks = false)   : ∀ {n : Nat} (x1 : Int32) (x2 : Int32) (S : ST), f_X2_takeHours_8 fu n   a x1 x2 S = some z → (gC (S a) = 2) → (∀ b, gC (S0 b) ≠ 0 → gC (S b) = gC (S0 b)) → ∀ (H : Heap) (locs : List Loc), WB G S s H locs → ∀ (ls : Array Slot), lv_has ls 3 [(0, .ref a), (1, .int x1), (2, .int x2)] → W p l e RM_X2_takeHours s m args below meth c H locs 0 0 (QR G below args s (some (.int z.1)) S0 z.2) (F0 m 8 ls []) := by
  intro n
  induction n with
  | zero => intro x1 x2 S hf; cases hf
  | succ n ih => intro x1 x2 S hf; exact t_X2_takeHours_8s (fu := fu) hM hml hr hlk (k8 := f_X2_takeHours_8 fu n   a) ih _ _ _ hf
noncomputable def f_X2_takeHours_0 (fu : Nat)  (S : ST) (a : Nat) : Option (Int32 × ST) :=
  bd2 (f_X2_takeHour fu S a (0 : Int32)) fun r1 S2 =>
  f_X2_takeHours_8 fu fu a r1 (0 : Int32) S2
set_option maxHeartbeats 4000000 in
set_option maxRecDepth 100000 in
theorem t_X2_takeHours_0 {G : GG} {p : Program} {l : Launch} {e : Env} {s : State} {m : MethodId} {args : Array Value} {below : List Frame} {meth : Method} {c : Code} {S0 : ST} {fu : Nat} {z : Int32 × ST} {a : Nat}  {S : ST} (hM : MC G p s m args c cX2_takeHours w_X2_takeHours RX2) (hml : c.maxLocals = 3) (hr : meth.sig.returnType = (some .int)) (hlk : meth.locks = false)   (hf : f_X2_takeHours_0 fu  S a  = some z) : (gC (S a) = 2) → (∀ b, gC (S0 b) ≠ 0 → gC (S b) = gC (S0 b)) → ∀ (H : Heap) (locs : List Loc), WB G S s H locs → ∀ (ls : Array Slot), lv_has ls 3 [(0, .ref a)] → W p l e RM_X2_takeHours s m args below meth c H locs 0 0 (QR G below args s (some (.int z.1)) S0 z.2) (F0 m 0 ls []) := by
  intro ha hK0 H locs hW ls hl
  have hx := hM.1
  have hb := hM.2.1
  refine lv_aload_n hx hb dX2_takeHours_0 rfl (lv_at hl 0 rfl) ?_
  refine lv_iconst (v := (0 : Int32)) hx hb dX2_takeHours_1 (by decide) ?_
  obtain ⟨r1, S2, hr1, hf⟩ := bd2_elim hf
  refine s_callVi [.int (0 : Int32)] [] hM hml hl.1 hW ha rfl (by decide) (c_X2_takeHour l G fu _ a _ ha hr1) (cwV 1 hM.2.2.2.1 (gV mk_RX2_148 im_X2_takeHour se_X2_takeHour it_RX2 cd_X2_takeHour) rfl rfl rfl (by decide +kernel) ⟨Nat.le_of_ble_eq_true rfl, Nat.le_of_ble_eq_true rfl⟩) rfl rfl (Nat.le_of_ble_eq_true rfl) ⟨Nat.zero_le _, Nat.zero_le _⟩ dX2_takeHours_2 (fun H locs hW hk => ?_)
  have ha := keep1 hk ha
  have hK0 := keep_tr hK0 hk
  refine lv_istore_n (lv' := [(1, .int r1), (0, .ref a)]) hx hb dX2_takeHours_5 rfl hl (by decide) rfl (fun ls hl => ?_)
  refine lv_iconst (v := (0 : Int32)) hx hb dX2_takeHours_6 (by decide) ?_
  refine lv_istore_n (lv' := [(2, .int (0 : Int32)), (1, .int r1), (0, .ref a)]) hx hb dX2_takeHours_7 rfl hl (by decide) rfl (fun ls hl => ?_)
  exact t_X2_takeHours_8 (fu := fu) hM hml hr hlk _ _ _ hf ha hK0 _ _ hW _ (lv_sub hl [2, 1, 0] rfl)
noncomputable def f_X2_takeHours (fu : Nat) (S : ST) (a : Nat) : Option (Int32 × ST) := f_X2_takeHours_0 fu S a
set_option maxHeartbeats 4000000 in
set_option maxRecDepth 100000 in
theorem c_X2_takeHours (l : Launch) (G : GG) (fu : Nat) (S : ST) (a : Nat) {z : Int32} {w : ST} (ha : gC (S a) = 2) (hf : f_X2_takeHours fu S a = some (z, w)) : Ct l yX2_takeHours w_X2_takeHours RM_X2_takeHours G S [.ref a] (some (.int z)) w 0 0 := by
  refine Met.ofW (cc := cX2_takeHours) (maxL := 3) (ret := (some .int)) (by decide) rfl ?_
  intro p e s m args below meth c s₁ B hml hv
  obtain ⟨rfl, hB, hK, hz⟩ := hv
  have hM : MC G p s m _ c cX2_takeHours w_X2_takeHours RX2 := ⟨B.exec, B.bytes, findClass_of_methodNamed B.named, atoms_spec (ws := w_X2_takeHours) B.pre, hK, hz⟩
  have hW : WB G S s s.heap [] := ⟨hB, va_S.rf⟩
  have hl := lv_entry ([.ref a]) (n := 3) (Nat.le_of_ble_eq_true rfl)
  rw [lg_entry_eq]
  generalize (lg_sl ([.ref a]) ++ List.replicate (3 - (lg_sl ([.ref a])).length) Slot.unset).toArray = ls at hl ⊢
  have hl : lv_has ls 3 [(0, .ref a)] := hl
  exact t_X2_takeHours_0 (fu := fu) hM hml B.returns B.notSynchronized hf ha (fun _ _ => rfl) _ _ hW _ (lv_sub hl [0] rfl)
abbrev RM_X2_readThief : Room := { frames := 5, cells := 0, slots := 0, locals := 110 }
abbrev w_X2_readThief : List Cond := Cond.code yX2_readThief cX2_readThief 8 none :: wsL_law0
noncomputable def f_X2_readThief_17 (fu : Nat)  (S : ST) (a : Nat) (g1 : Nat) (t0 : Nat) (t1 : Int32) : Option (ST) :=
  bd (f_X8_stepOrFail fu (S t0) t1 (5 : Int32)) fun v2 =>
  nm (st S t0 v2) fun Sv2 =>
  bd2 (f_X2_takeNewName fu Sv2 a g1) fun r3 S4 =>
  bd2 (f_X2_takeKind fu S4 a) fun r5 S6 =>
  bd (gR (S6 a) 0) fun q7 =>
  ck (decide (gC (S6 q7) = 8)) <|
  bd (f_X8_need_ fu (S6 q7) 3) fun v10 =>
  nm (st S6 q7 v10) fun Sv10 =>
  bd (gR (Sv10 a) 0) fun q11 =>
  ck (decide (gC (Sv10 q11) = 8)) <|
  bd2 (f_X8_takeNumberBelow fu (Sv10 q11) (100 : Int32)) fun r13 v14 =>
  nm (st Sv10 q11 v14) fun Sv14 =>
  bd (gR (Sv14 a) 0) fun q15 =>
  ck (decide (gC (Sv14 q15) = 8)) <|
  bd (f_X8_need_ fu (Sv14 q15) 4) fun v18 =>
  nm (st Sv14 q15 v18) fun Sv18 =>
  bd (gR (Sv18 a) 0) fun q19 =>
  ck (decide (gC (Sv18 q19) = 8)) <|
  bd2 (f_X8_takeNumberBelow fu (Sv18 q19) (1000 : Int32)) fun r21 v22 =>
  nm (st Sv18 q19 v22) fun Sv22 =>
  bd (gR (Sv22 a) 0) fun q23 =>
  ck (decide (gC (Sv22 q23) = 8)) <|
  bd (f_X8_need_ fu (Sv22 q23) 5) fun v26 =>
  nm (st Sv22 q23 v26) fun Sv26 =>
  bd2 (f_X2_takeHours fu Sv26 a) fun r27 S28 =>
  bd (gR (S28 a) 0) fun q29 =>
  ck (decide (gC (S28 q29) = 8)) <|
  bd (f_X8_need fu (S28 q29) (59 : Int32)) fun v32 =>
  nm (st S28 q29 v32) fun Sv32 =>
  bd (gR (Sv32 a) 0) fun q33 =>
  ck (decide (gC (Sv32 q33) = 8)) <|
  if (gI (Sv32 q33) 7) = 0 then
    (bd (f_X1_addThief fu Sv32 g1 r3 r5 r13 r21 r27) fun S37 =>
    some S37)
  else
    (some Sv32)
set_option maxHeartbeats 4000000 in
set_option maxRecDepth 100000 in
theorem t_X2_readThief_17 {G : GG} {p : Program} {l : Launch} {e : Env} {s : State} {m : MethodId} {args : Array Value} {below : List Frame} {meth : Method} {c : Code} {S0 : ST} {fu : Nat} {z : ST} {a : Nat} {g1 : Nat}  {S : ST} {t0 : Nat} {t1 : Int32} (hM : MC G p s m args c cX2_readThief w_X2_readThief RX2) (hml : c.maxLocals = 8) (hr : meth.sig.returnType = none) (hlk : meth.locks = false)   (hf : f_X2_readThief_17 fu  S a g1 t0 t1 = some z) : (gC (S a) = 2) → (gC (S g1) = 1) → (∀ b, gC (S0 b) ≠ 0 → gC (S b) = gC (S0 b)) → (gC (S t0) = 8) → ∀ (H : Heap) (locs : List Loc), WB G S s H locs → ∀ (ls : Array Slot), lv_has ls 8 [(0, .ref a), (1, .ref g1)] → W p l e RM_X2_readThief s m args below meth c H locs 0 0 (QR G below args s none S0 z) (F0 m 17 ls [.int t1, .ref t0]) := by
  intro ha hg1 hK0 ht0 H locs hW ls hl
  have hx := hM.1
  have hb := hM.2.1
  refine lv_iconst (v := (5 : Int32)) hx hb dX2_readThief_17 (by decide) ?_
  obtain ⟨v2, hr1, hf⟩ := bd_elim hf
  refine s_callNv [.int t1, .int (5 : Int32)] [] hM hml hl.1 hW ht0 rfl (by decide) (Ct_self (c_X8_stepOrFail l G fu _ t0 (S t0) _ _ ht0 hr1)) (cwV 2 hM.2.2.2.1 (gV mk_RX2_91 im_X8_stepOrFail se_X8_stepOrFail it_RX8 cd_X8_stepOrFail) rfl rfl rfl (by decide +kernel) ⟨Nat.le_of_ble_eq_true rfl, Nat.le_of_ble_eq_true rfl⟩) rfl rfl (Nat.le_of_ble_eq_true rfl) ⟨Nat.zero_le _, Nat.zero_le _⟩ dX2_readThief_18 (fun Sv2 ev2 hk H locs hW => ?_)
  have hf := nm_at ev2 hf
  have ha := keep1 hk ha
  have hg1 := keep1 hk hg1
  have ht0 := keep1 hk ht0
  have hK0 := keep_tr hK0 hk
  refine lv_aload_n hx hb dX2_readThief_21 rfl (lv_at hl 0 rfl) ?_
  refine lv_aload_n hx hb dX2_readThief_22 rfl (lv_at hl 1 rfl) ?_
  obtain ⟨r3, S4, hr3, hf⟩ := bd2_elim hf
  refine s_callVl [.ref g1] [] hM hml hl.1 hW ha rfl (by decide) (c_X2_takeNewName l G fu _ a _ ha hg1 hr3) (cwV 1 hM.2.2.2.1 (gV mk_RX2_99 im_X2_takeNewName se_X2_takeNewName it_RX2 cd_X2_takeNewName) rfl rfl rfl (by decide +kernel) ⟨Nat.le_of_ble_eq_true rfl, Nat.le_of_ble_eq_true rfl⟩) rfl rfl (Nat.le_of_ble_eq_true rfl) ⟨Nat.zero_le _, Nat.zero_le _⟩ dX2_readThief_23 (fun H locs hW hk => ?_)
  have ha := keep1 hk ha
  have hg1 := keep1 hk hg1
  have ht0 := keep1 hk ht0
  have hK0 := keep_tr hK0 hk
  refine lv_lstore_n (lv' := [(2, .long r3), (0, .ref a), (1, .ref g1)]) hx hb dX2_readThief_26 rfl hl (by decide) rfl (fun ls hl => ?_)
  refine lv_aload_n hx hb dX2_readThief_27 rfl (lv_at hl 1 rfl) ?_
  obtain ⟨r5, S6, hr5, hf⟩ := bd2_elim hf
  refine s_callVi [] [] hM hml hl.1 hW ha rfl (by decide) (c_X2_takeKind l G fu _ a ha hr5) (cwV 0 hM.2.2.2.1 (gV mk_RX2_117 im_X2_takeKind se_X2_takeKind it_RX2 cd_X2_takeKind) rfl rfl rfl (by decide +kernel) ⟨Nat.le_of_ble_eq_true rfl, Nat.le_of_ble_eq_true rfl⟩) rfl rfl (Nat.le_of_ble_eq_true rfl) ⟨Nat.zero_le _, Nat.zero_le _⟩ dX2_readThief_28 (fun H locs hW hk => ?_)
  have ha := keep1 hk ha
  have hg1 := keep1 hk hg1
  have ht0 := keep1 hk ht0
  have hK0 := keep_tr hK0 hk
  refine lv_istore (lv' := [(4, .int r5), (2, .long r3), (0, .ref a), (1, .ref g1)]) hx hb dX2_readThief_31 hl (by decide) rfl (fun ls hl => ?_)
  refine lv_aload_n hx hb dX2_readThief_33 rfl (lv_at hl 2 rfl) ?_
  obtain ⟨q7, hq7, hf⟩ := bd_elim hf
  refine b_get hM (hW.at_ a) 1 0 ha rfl rfl (by decide) wi_X2 (wgm fk_RX2_9) (x := .ref q7) (by show va_rf _ = _; rw [hq7]; rfl) dX2_readThief_34 ?_
  obtain ⟨h8, hf⟩ := ck_elim hf
  have h8 := of_decide_eq_true h8
  refine k_word hM hW 3 (by decide) (wgm fk_RX2_120) dX2_readThief_37 ?_
  obtain ⟨v10, hr9, hf⟩ := bd_elim hf
  refine s_callNv [.ref (kAd G 3)] [] hM hml hl.1 hW h8 rfl (by decide) (Ct_self (c_X8_need_ l G fu _ q7 (S6 q7) _ h8 (by decide) hr9)) (cwV 1 hM.2.2.2.1 (gV mk_RX2_124 im_X8_need_ se_X8_need_ it_RX8 cd_X8_need_) rfl rfl rfl (by decide +kernel) ⟨Nat.le_of_ble_eq_true rfl, Nat.le_of_ble_eq_true rfl⟩) rfl rfl (Nat.le_of_ble_eq_true rfl) ⟨Nat.zero_le _, Nat.zero_le _⟩ dX2_readThief_40 (fun Sv10 ev10 hk H locs hW => ?_)
  have hf := nm_at ev10 hf
  have ha := keep1 hk ha
  have hg1 := keep1 hk hg1
  have ht0 := keep1 hk ht0
  have h8 := keep1 hk h8
  have hK0 := keep_tr hK0 hk
  refine lv_aload_n hx hb dX2_readThief_43 rfl (lv_at hl 2 rfl) ?_
  obtain ⟨q11, hq11, hf⟩ := bd_elim hf
  refine b_get hM (hW.at_ a) 1 0 ha rfl rfl (by decide) wi_X2 (wgm fk_RX2_9) (x := .ref q11) (by show va_rf _ = _; rw [hq11]; rfl) dX2_readThief_44 ?_
  obtain ⟨h12, hf⟩ := ck_elim hf
  have h12 := of_decide_eq_true h12
  refine lv_bipush (v := (100 : Int32)) hx hb dX2_readThief_47 (by decide) ?_
  obtain ⟨r13, v14, hr13, hf⟩ := bd2_elim hf
  refine s_callNi [.int (100 : Int32)] [] hM hml hl.1 hW h12 rfl (by decide) (Ct_self (c_X8_takeNumberBelow l G fu _ q11 (Sv10 q11) _ h12 hr13)) (cwV 1 hM.2.2.2.1 (gV mk_RX2_127 im_X8_takeNumberBelow se_X8_takeNumberBelow it_RX8 cd_X8_takeNumberBelow) rfl rfl rfl (by decide +kernel) ⟨Nat.le_of_ble_eq_true rfl, Nat.le_of_ble_eq_true rfl⟩) rfl rfl (Nat.le_of_ble_eq_true rfl) ⟨Nat.zero_le _, Nat.zero_le _⟩ dX2_readThief_49 (fun Sv14 ev14 hk H locs hW => ?_)
  have hf := nm_at ev14 hf
  have ha := keep1 hk ha
  have hg1 := keep1 hk hg1
  have ht0 := keep1 hk ht0
  have h8 := keep1 hk h8
  have h12 := keep1 hk h12
  have hK0 := keep_tr hK0 hk
  refine lv_istore (lv' := [(5, .int r13), (4, .int r5), (2, .long r3), (0, .ref a), (1, .ref g1)]) hx hb dX2_readThief_52 hl (by decide) rfl (fun ls hl => ?_)
  refine lv_aload_n hx hb dX2_readThief_54 rfl (lv_at hl 3 rfl) ?_
  obtain ⟨q15, hq15, hf⟩ := bd_elim hf
  refine b_get hM (hW.at_ a) 1 0 ha rfl rfl (by decide) wi_X2 (wgm fk_RX2_9) (x := .ref q15) (by show va_rf _ = _; rw [hq15]; rfl) dX2_readThief_55 ?_
  obtain ⟨h16, hf⟩ := ck_elim hf
  have h16 := of_decide_eq_true h16
  refine k_word hM hW 4 (by decide) (wgm fk_RX2_131) dX2_readThief_58 ?_
  obtain ⟨v18, hr17, hf⟩ := bd_elim hf
  refine s_callNv [.ref (kAd G 4)] [] hM hml hl.1 hW h16 rfl (by decide) (Ct_self (c_X8_need_ l G fu _ q15 (Sv14 q15) _ h16 (by decide) hr17)) (cwV 1 hM.2.2.2.1 (gV mk_RX2_124 im_X8_need_ se_X8_need_ it_RX8 cd_X8_need_) rfl rfl rfl (by decide +kernel) ⟨Nat.le_of_ble_eq_true rfl, Nat.le_of_ble_eq_true rfl⟩) rfl rfl (Nat.le_of_ble_eq_true rfl) ⟨Nat.zero_le _, Nat.zero_le _⟩ dX2_readThief_61 (fun Sv18 ev18 hk H locs hW => ?_)
  have hf := nm_at ev18 hf
  have ha := keep1 hk ha
  have hg1 := keep1 hk hg1
  have ht0 := keep1 hk ht0
  have h8 := keep1 hk h8
  have h12 := keep1 hk h12
  have h16 := keep1 hk h16
  have hK0 := keep_tr hK0 hk
  refine lv_aload_n hx hb dX2_readThief_64 rfl (lv_at hl 3 rfl) ?_
  obtain ⟨q19, hq19, hf⟩ := bd_elim hf
  refine b_get hM (hW.at_ a) 1 0 ha rfl rfl (by decide) wi_X2 (wgm fk_RX2_9) (x := .ref q19) (by show va_rf _ = _; rw [hq19]; rfl) dX2_readThief_65 ?_
  obtain ⟨h20, hf⟩ := ck_elim hf
  have h20 := of_decide_eq_true h20
  refine lv_sipush (v := (1000 : Int32)) hx hb dX2_readThief_68 (by decide) ?_
  obtain ⟨r21, v22, hr21, hf⟩ := bd2_elim hf
  refine s_callNi [.int (1000 : Int32)] [] hM hml hl.1 hW h20 rfl (by decide) (Ct_self (c_X8_takeNumberBelow l G fu _ q19 (Sv18 q19) _ h20 hr21)) (cwV 1 hM.2.2.2.1 (gV mk_RX2_127 im_X8_takeNumberBelow se_X8_takeNumberBelow it_RX8 cd_X8_takeNumberBelow) rfl rfl rfl (by decide +kernel) ⟨Nat.le_of_ble_eq_true rfl, Nat.le_of_ble_eq_true rfl⟩) rfl rfl (Nat.le_of_ble_eq_true rfl) ⟨Nat.zero_le _, Nat.zero_le _⟩ dX2_readThief_71 (fun Sv22 ev22 hk H locs hW => ?_)
  have hf := nm_at ev22 hf
  have ha := keep1 hk ha
  have hg1 := keep1 hk hg1
  have ht0 := keep1 hk ht0
  have h8 := keep1 hk h8
  have h12 := keep1 hk h12
  have h16 := keep1 hk h16
  have h20 := keep1 hk h20
  have hK0 := keep_tr hK0 hk
  refine lv_istore (lv' := [(6, .int r21), (5, .int r13), (4, .int r5), (2, .long r3), (0, .ref a), (1, .ref g1)]) hx hb dX2_readThief_74 hl (by decide) rfl (fun ls hl => ?_)
  refine lv_aload_n hx hb dX2_readThief_76 rfl (lv_at hl 4 rfl) ?_
  obtain ⟨q23, hq23, hf⟩ := bd_elim hf
  refine b_get hM (hW.at_ a) 1 0 ha rfl rfl (by decide) wi_X2 (wgm fk_RX2_9) (x := .ref q23) (by show va_rf _ = _; rw [hq23]; rfl) dX2_readThief_77 ?_
  obtain ⟨h24, hf⟩ := ck_elim hf
  have h24 := of_decide_eq_true h24
  refine k_word hM hW 5 (by decide) (wgm fk_RX2_134) dX2_readThief_80 ?_
  obtain ⟨v26, hr25, hf⟩ := bd_elim hf
  refine s_callNv [.ref (kAd G 5)] [] hM hml hl.1 hW h24 rfl (by decide) (Ct_self (c_X8_need_ l G fu _ q23 (Sv22 q23) _ h24 (by decide) hr25)) (cwV 1 hM.2.2.2.1 (gV mk_RX2_124 im_X8_need_ se_X8_need_ it_RX8 cd_X8_need_) rfl rfl rfl (by decide +kernel) ⟨Nat.le_of_ble_eq_true rfl, Nat.le_of_ble_eq_true rfl⟩) rfl rfl (Nat.le_of_ble_eq_true rfl) ⟨Nat.zero_le _, Nat.zero_le _⟩ dX2_readThief_83 (fun Sv26 ev26 hk H locs hW => ?_)
  have hf := nm_at ev26 hf
  have ha := keep1 hk ha
  have hg1 := keep1 hk hg1
  have ht0 := keep1 hk ht0
  have h8 := keep1 hk h8
  have h12 := keep1 hk h12
  have h16 := keep1 hk h16
  have h20 := keep1 hk h20
  have h24 := keep1 hk h24
  have hK0 := keep_tr hK0 hk
  refine lv_aload_n hx hb dX2_readThief_86 rfl (lv_at hl 4 rfl) ?_
  obtain ⟨r27, S28, hr27, hf⟩ := bd2_elim hf
  refine s_callVi [] [] hM hml hl.1 hW ha rfl (by decide) (c_X2_takeHours l G fu _ a ha hr27) (cwV 0 hM.2.2.2.1 (gV mk_RX2_137 im_X2_takeHours se_X2_takeHours it_RX2 cd_X2_takeHours) rfl rfl rfl (by decide +kernel) ⟨Nat.le_of_ble_eq_true rfl, Nat.le_of_ble_eq_true rfl⟩) rfl rfl (Nat.le_of_ble_eq_true rfl) ⟨Nat.zero_le _, Nat.zero_le _⟩ dX2_readThief_87 (fun H locs hW hk => ?_)
  have ha := keep1 hk ha
  have hg1 := keep1 hk hg1
  have ht0 := keep1 hk ht0
  have h8 := keep1 hk h8
  have h12 := keep1 hk h12
  have h16 := keep1 hk h16
  have h20 := keep1 hk h20
  have h24 := keep1 hk h24
  have hK0 := keep_tr hK0 hk
  refine lv_istore (lv' := [(7, .int r27), (6, .int r21), (5, .int r13), (4, .int r5), (2, .long r3), (0, .ref a), (1, .ref g1)]) hx hb dX2_readThief_90 hl (by decide) rfl (fun ls hl => ?_)
  refine lv_aload_n hx hb dX2_readThief_92 rfl (lv_at hl 5 rfl) ?_
  obtain ⟨q29, hq29, hf⟩ := bd_elim hf
  refine b_get hM (hW.at_ a) 1 0 ha rfl rfl (by decide) wi_X2 (wgm fk_RX2_9) (x := .ref q29) (by show va_rf _ = _; rw [hq29]; rfl) dX2_readThief_93 ?_
  obtain ⟨h30, hf⟩ := ck_elim hf
  have h30 := of_decide_eq_true h30
  refine lv_bipush (v := (59 : Int32)) hx hb dX2_readThief_96 (by decide) ?_
  obtain ⟨v32, hr31, hf⟩ := bd_elim hf
  refine s_callNv [.int (59 : Int32)] [] hM hml hl.1 hW h30 rfl (by decide) (Ct_self (c_X8_need l G fu _ q29 (S28 q29) _ h30 hr31)) (cwV 1 hM.2.2.2.1 (gV mk_RX2_103 im_X8_need se_X8_need it_RX8 cd_X8_need) rfl rfl rfl (by decide +kernel) ⟨Nat.le_of_ble_eq_true rfl, Nat.le_of_ble_eq_true rfl⟩) rfl rfl (Nat.le_of_ble_eq_true rfl) ⟨Nat.zero_le _, Nat.zero_le _⟩ dX2_readThief_98 (fun Sv32 ev32 hk H locs hW => ?_)
  have hf := nm_at ev32 hf
  have ha := keep1 hk ha
  have hg1 := keep1 hk hg1
  have ht0 := keep1 hk ht0
  have h8 := keep1 hk h8
  have h12 := keep1 hk h12
  have h16 := keep1 hk h16
  have h20 := keep1 hk h20
  have h24 := keep1 hk h24
  have h30 := keep1 hk h30
  have hK0 := keep_tr hK0 hk
  refine lv_aload_n hx hb dX2_readThief_101 rfl (lv_at hl 5 rfl) ?_
  obtain ⟨q33, hq33, hf⟩ := bd_elim hf
  refine b_get hM (hW.at_ a) 1 0 ha rfl rfl (by decide) wi_X2 (wgm fk_RX2_9) (x := .ref q33) (by show va_rf _ = _; rw [hq33]; rfl) dX2_readThief_102 ?_
  obtain ⟨h34, hf⟩ := ck_elim hf
  have h34 := of_decide_eq_true h34
  refine b_get hM (hW.at_ q33) 7 7 h34 rfl rfl (by decide) wi_X8 (wgm fk_RX2_107) (x := .int (gI (Sv32 q33) 7)) rfl dX2_readThief_105 ?_
  refine lv_if_ne (tgt := 124) hx hb dX2_readThief_108 (by decide) (fun c35 => ?_) (fun c35 => ?_)
  · have hf := if_f c35 hf
    cases hf
    exact W.vret hx hb hr (b_ret0 hW hK0 _) hW.2.2.2 dX2_readThief_124 hlk
  · have hf := if_t c35 hf
    refine lv_aload_n hx hb dX2_readThief_111 rfl (lv_at hl 6 rfl) ?_
    refine lv_lload_n hx hb dX2_readThief_112 rfl (lv_at hl 4 rfl) ?_
    refine lv_iload hx hb dX2_readThief_113 (lv_at hl 3 rfl) ?_
    refine lv_iload hx hb dX2_readThief_115 (lv_at hl 2 rfl) ?_
    refine lv_iload hx hb dX2_readThief_117 (lv_at hl 1 rfl) ?_
    refine lv_iload hx hb dX2_readThief_119 (lv_at hl 0 rfl) ?_
    obtain ⟨S37, hr36, hf⟩ := bd_elim hf
    refine s_callVv [.long r3, .int r5, .int r13, .int r21, .int r27] [] hM hml hl.1 hW hg1 rfl (by decide) (c_X1_addThief l G fu _ g1 _ _ _ _ _ hg1 hr36) (cwV 5 hM.2.2.2.1 (gV mk_RX2_140 im_X1_addThief se_X1_addThief it_RX1 cd_X1_addThief) rfl rfl rfl (by decide +kernel) ⟨Nat.le_of_ble_eq_true rfl, Nat.le_of_ble_eq_true rfl⟩) rfl rfl (Nat.le_of_ble_eq_true rfl) ⟨Nat.zero_le _, Nat.zero_le _⟩ dX2_readThief_121 (fun H locs hW hk => ?_)
    have ha := keep1 hk ha
    have hg1 := keep1 hk hg1
    have ht0 := keep1 hk ht0
    have h8 := keep1 hk h8
    have h12 := keep1 hk h12
    have h16 := keep1 hk h16
    have h20 := keep1 hk h20
    have h24 := keep1 hk h24
    have h30 := keep1 hk h30
    have h34 := keep1 hk h34
    have hK0 := keep_tr hK0 hk
    cases hf
    exact W.vret hx hb hr (b_ret0 hW hK0 _) hW.2.2.2 dX2_readThief_124 hlk
noncomputable def f_X2_readThief_0 (fu : Nat)  (S : ST) (a : Nat) (g1 : Nat) : Option (ST) :=
  bd (gR (S a) 0) fun q1 =>
  ck (decide (gC (S q1) = 8)) <|
  if (5 : Int32) ≤ (gI (S g1) 9) then
    (f_X2_readThief_17 fu S a g1 q1 (0 : Int32))
  else
    (f_X2_readThief_17 fu S a g1 q1 (1 : Int32))
set_option maxHeartbeats 4000000 in
set_option maxRecDepth 100000 in
theorem t_X2_readThief_0 {G : GG} {p : Program} {l : Launch} {e : Env} {s : State} {m : MethodId} {args : Array Value} {below : List Frame} {meth : Method} {c : Code} {S0 : ST} {fu : Nat} {z : ST} {a : Nat} {g1 : Nat}  {S : ST} (hM : MC G p s m args c cX2_readThief w_X2_readThief RX2) (hml : c.maxLocals = 8) (hr : meth.sig.returnType = none) (hlk : meth.locks = false)   (hf : f_X2_readThief_0 fu  S a g1  = some z) : (gC (S a) = 2) → (gC (S g1) = 1) → (∀ b, gC (S0 b) ≠ 0 → gC (S b) = gC (S0 b)) → ∀ (H : Heap) (locs : List Loc), WB G S s H locs → ∀ (ls : Array Slot), lv_has ls 8 [(0, .ref a), (1, .ref g1)] → W p l e RM_X2_readThief s m args below meth c H locs 0 0 (QR G below args s none S0 z) (F0 m 0 ls []) := by
  intro ha hg1 hK0 H locs hW ls hl
  have hx := hM.1
  have hb := hM.2.1
  refine lv_aload_n hx hb dX2_readThief_0 rfl (lv_at hl 0 rfl) ?_
  obtain ⟨q1, hq1, hf⟩ := bd_elim hf
  refine b_get hM (hW.at_ a) 1 0 ha rfl rfl (by decide) wi_X2 (wgm fk_RX2_9) (x := .ref q1) (by show va_rf _ = _; rw [hq1]; rfl) dX2_readThief_1 ?_
  obtain ⟨h2, hf⟩ := ck_elim hf
  have h2 := of_decide_eq_true h2
  refine lv_aload_n hx hb dX2_readThief_4 rfl (lv_at hl 1 rfl) ?_
  refine b_get hM (hW.at_ g1) 0 9 hg1 rfl rfl (by decide) wi_X1 (wgm fk_RX2_114) (x := .int (gI (S g1) 9)) rfl dX2_readThief_5 ?_
  refine lv_iconst (v := (5 : Int32)) hx hb dX2_readThief_8 (by decide) ?_
  refine lv_icmp_ge (tgt := 16) hx hb dX2_readThief_9 (by decide) (fun c3 => ?_) (fun c3 => ?_)
  · have hf := if_t c3 hf
    refine lv_iconst (v := (0 : Int32)) hx hb dX2_readThief_16 (by decide) ?_
    exact t_X2_readThief_17 (fu := fu) hM hml hr hlk hf ha hg1 hK0 h2 _ _ hW _ (lv_sub hl [0, 1] rfl)
  · have hf := if_f c3 hf
    refine lv_iconst (v := (1 : Int32)) hx hb dX2_readThief_12 (by decide) ?_
    refine lv_goto (tgt := 17) hx hb dX2_readThief_13 (by decide) ?_
    exact t_X2_readThief_17 (fu := fu) hM hml hr hlk hf ha hg1 hK0 h2 _ _ hW _ (lv_sub hl [0, 1] rfl)
noncomputable def f_X2_readThief (fu : Nat) (S : ST) (a : Nat) (g1 : Nat) : Option (ST) := f_X2_readThief_0 fu S a g1
set_option maxHeartbeats 4000000 in
set_option maxRecDepth 100000 in
theorem c_X2_readThief (l : Launch) (G : GG) (fu : Nat) (S : ST) (a : Nat) (g1 : Nat) {z : ST} (ha : gC (S a) = 2) (hg1 : gC (S g1) = 1) (hf : f_X2_readThief fu S a g1 = some z) : Ct l yX2_readThief w_X2_readThief RM_X2_readThief G S [.ref a, .ref g1] none z 0 0 := by
  refine Met.ofW (cc := cX2_readThief) (maxL := 8) (ret := none) (by decide) rfl ?_
  intro p e s m args below meth c s₁ B hml hv
  obtain ⟨rfl, hB, hK, hz⟩ := hv
  have hM : MC G p s m _ c cX2_readThief w_X2_readThief RX2 := ⟨B.exec, B.bytes, findClass_of_methodNamed B.named, atoms_spec (ws := w_X2_readThief) B.pre, hK, hz⟩
  have hW : WB G S s s.heap [] := ⟨hB, va_S.rf⟩
  have hl := lv_entry ([.ref a, .ref g1]) (n := 8) (Nat.le_of_ble_eq_true rfl)
  rw [lg_entry_eq]
  generalize (lg_sl ([.ref a, .ref g1]) ++ List.replicate (8 - (lg_sl ([.ref a, .ref g1])).length) Slot.unset).toArray = ls at hl ⊢
  have hl : lv_has ls 8 [(0, .ref a), (1, .ref g1)] := hl
  exact t_X2_readThief_0 (fu := fu) hM hml B.returns B.notSynchronized hf ha hg1 (fun _ _ => rfl) _ _ hW _ (lv_sub hl [0, 1] rfl)
abbrev RM_X2_takeSpot : Room := { frames := 3, cells := 0, slots := 0, locals := 68 }
abbrev w_X2_takeSpot : List Cond := Cond.code yX2_takeSpot cX2_takeSpot 5 (some .int) :: wsL_law0
noncomputable def f_X2_takeSpot_0 (fu : Nat)  (S : ST) (a : Nat) (g1 : Nat) (x2 : Int32) (x3 : Int32) : Option (Int32 × ST) :=
  bd (gR (S a) 0) fun q1 =>
  ck (decide (gC (S q1) = 8)) <|
  bd2 (f_X1_spotAt fu S g1 q1) fun r3 S4 =>
  if r3 = (-1 : Int32) then
    (some ((0 : Int32), S4))
  else
    (bd (f_X2_takeOnce fu S4 a x2 ((1 : Int32) <<< (r3 &&& 31)) x3) fun S7 =>
    some (((1 : Int32) <<< (r3 &&& 31)), S7))
set_option maxHeartbeats 4000000 in
set_option maxRecDepth 100000 in
theorem t_X2_takeSpot_0 {G : GG} {p : Program} {l : Launch} {e : Env} {s : State} {m : MethodId} {args : Array Value} {below : List Frame} {meth : Method} {c : Code} {S0 : ST} {fu : Nat} {z : Int32 × ST} {a : Nat} {g1 : Nat}  {S : ST} {x2 : Int32} {x3 : Int32} (hM : MC G p s m args c cX2_takeSpot w_X2_takeSpot RX2) (hml : c.maxLocals = 5) (hr : meth.sig.returnType = (some .int)) (hlk : meth.locks = false)   (hf : f_X2_takeSpot_0 fu  S a g1 x2 x3 = some z) : (gC (S a) = 2) → (gC (S g1) = 1) → (∀ b, gC (S0 b) ≠ 0 → gC (S b) = gC (S0 b)) → ∀ (H : Heap) (locs : List Loc), WB G S s H locs → ∀ (ls : Array Slot), lv_has ls 5 [(0, .ref a), (1, .ref g1), (2, .int x2), (3, .int x3)] → W p l e RM_X2_takeSpot s m args below meth c H locs 0 0 (QR G below args s (some (.int z.1)) S0 z.2) (F0 m 0 ls []) := by
  intro ha hg1 hK0 H locs hW ls hl
  have hx := hM.1
  have hb := hM.2.1
  refine lv_aload_n hx hb dX2_takeSpot_0 rfl (lv_at hl 1 rfl) ?_
  refine lv_aload_n hx hb dX2_takeSpot_1 rfl (lv_at hl 0 rfl) ?_
  obtain ⟨q1, hq1, hf⟩ := bd_elim hf
  refine b_get hM (hW.at_ a) 1 0 ha rfl rfl (by decide) wi_X2 (wgm fk_RX2_9) (x := .ref q1) (by show va_rf _ = _; rw [hq1]; rfl) dX2_takeSpot_2 ?_
  obtain ⟨h2, hf⟩ := ck_elim hf
  have h2 := of_decide_eq_true h2
  obtain ⟨r3, S4, hr3, hf⟩ := bd2_elim hf
  refine s_callVi [.ref q1] [] hM hml hl.1 hW hg1 rfl (by decide) (c_X1_spotAt l G fu _ g1 _ hg1 h2 hr3) (cwV 1 hM.2.2.2.1 (gV mk_RX2_170 im_X1_spotAt se_X1_spotAt it_RX1 cd_X1_spotAt) rfl rfl rfl (by decide +kernel) ⟨Nat.le_of_ble_eq_true rfl, Nat.le_of_ble_eq_true rfl⟩) rfl rfl (Nat.le_of_ble_eq_true rfl) ⟨Nat.zero_le _, Nat.zero_le _⟩ dX2_takeSpot_5 (fun H locs hW hk => ?_)
  have ha := keep1 hk ha
  have hg1 := keep1 hk hg1
  have h2 := keep1 hk h2
  have hK0 := keep_tr hK0 hk
  refine lv_istore (lv' := [(4, .int r3), (0, .ref a), (1, .ref g1), (2, .int x2), (3, .int x3)]) hx hb dX2_takeSpot_8 hl (by decide) rfl (fun ls hl => ?_)
  refine lv_iload hx hb dX2_takeSpot_10 (lv_at hl 0 rfl) ?_
  refine lv_iconst (v := (-1 : Int32)) hx hb dX2_takeSpot_12 (by decide) ?_
  refine lv_icmp_ne (tgt := 18) hx hb dX2_takeSpot_13 (by decide) (fun c5 => ?_) (fun c5 => ?_)
  · have hf := if_f c5 hf
    refine lv_aload_n hx hb dX2_takeSpot_18 rfl (lv_at hl 1 rfl) ?_
    refine lv_iload_n hx hb dX2_takeSpot_19 rfl (lv_at hl 3 rfl) ?_
    refine lv_iconst (v := (1 : Int32)) hx hb dX2_takeSpot_20 (by decide) ?_
    refine lv_iload hx hb dX2_takeSpot_21 (lv_at hl 0 rfl) ?_
    refine lv_ishl hx hb dX2_takeSpot_23 ?_
    refine lv_iload_n hx hb dX2_takeSpot_24 rfl (lv_at hl 4 rfl) ?_
    obtain ⟨S7, hr6, hf⟩ := bd_elim hf
    refine s_callVv [.int x2, .int ((1 : Int32) <<< (r3 &&& 31)), .int x3] [] hM hml hl.1 hW ha rfl (by decide) (c_X2_takeOnce l G fu _ a _ _ _ ha hr6) (cwV 3 hM.2.2.2.1 (gV mk_RX2_157 im_X2_takeOnce se_X2_takeOnce it_RX2 cd_X2_takeOnce) rfl rfl rfl (by decide +kernel) ⟨Nat.le_of_ble_eq_true rfl, Nat.le_of_ble_eq_true rfl⟩) rfl rfl (Nat.le_of_ble_eq_true rfl) ⟨Nat.zero_le _, Nat.zero_le _⟩ dX2_takeSpot_25 (fun H locs hW hk => ?_)
    have ha := keep1 hk ha
    have hg1 := keep1 hk hg1
    have h2 := keep1 hk h2
    have hK0 := keep_tr hK0 hk
    refine lv_iconst (v := (1 : Int32)) hx hb dX2_takeSpot_28 (by decide) ?_
    refine lv_iload hx hb dX2_takeSpot_29 (lv_at hl 0 rfl) ?_
    refine lv_ishl hx hb dX2_takeSpot_31 ?_
    cases hf
    exact W.iret hx hb hr (b_ret0 hW hK0 _) hW.2.2.2 dX2_takeSpot_32 hlk
  · have hf := if_t c5 hf
    refine lv_iconst (v := (0 : Int32)) hx hb dX2_takeSpot_16 (by decide) ?_
    cases hf
    exact W.iret hx hb hr (b_ret0 hW hK0 _) hW.2.2.2 dX2_takeSpot_17 hlk
noncomputable def f_X2_takeSpot (fu : Nat) (S : ST) (a : Nat) (g1 : Nat) (x2 : Int32) (x3 : Int32) : Option (Int32 × ST) := f_X2_takeSpot_0 fu S a g1 x2 x3
set_option maxHeartbeats 4000000 in
set_option maxRecDepth 100000 in
theorem c_X2_takeSpot (l : Launch) (G : GG) (fu : Nat) (S : ST) (a : Nat) (g1 : Nat) (x2 : Int32) (x3 : Int32) {z : Int32} {w : ST} (ha : gC (S a) = 2) (hg1 : gC (S g1) = 1) (hf : f_X2_takeSpot fu S a g1 x2 x3 = some (z, w)) : Ct l yX2_takeSpot w_X2_takeSpot RM_X2_takeSpot G S [.ref a, .ref g1, .int x2, .int x3] (some (.int z)) w 0 0 := by
  refine Met.ofW (cc := cX2_takeSpot) (maxL := 5) (ret := (some .int)) (by decide) rfl ?_
  intro p e s m args below meth c s₁ B hml hv
  obtain ⟨rfl, hB, hK, hz⟩ := hv
  have hM : MC G p s m _ c cX2_takeSpot w_X2_takeSpot RX2 := ⟨B.exec, B.bytes, findClass_of_methodNamed B.named, atoms_spec (ws := w_X2_takeSpot) B.pre, hK, hz⟩
  have hW : WB G S s s.heap [] := ⟨hB, va_S.rf⟩
  have hl := lv_entry ([.ref a, .ref g1, .int x2, .int x3]) (n := 5) (Nat.le_of_ble_eq_true rfl)
  rw [lg_entry_eq]
  generalize (lg_sl ([.ref a, .ref g1, .int x2, .int x3]) ++ List.replicate (5 - (lg_sl ([.ref a, .ref g1, .int x2, .int x3])).length) Slot.unset).toArray = ls at hl ⊢
  have hl : lv_has ls 5 [(0, .ref a), (1, .ref g1), (2, .int x2), (3, .int x3)] := hl
  exact t_X2_takeSpot_0 (fu := fu) hM hml B.returns B.notSynchronized hf ha hg1 (fun _ _ => rfl) _ _ hW _ (lv_sub hl [0, 1, 2, 3] rfl)
abbrev RM_X2_takeSpots : Room := { frames := 4, cells := 0, slots := 0, locals := 92 }
abbrev w_X2_takeSpots : List Cond := Cond.code yX2_takeSpots cX2_takeSpots 5 (some .int) :: wsL_law0
noncomputable def f_X2_takeSpots_43 (fu : Nat)  (S : ST) (a : Nat) (g1 : Nat) (x3 : Int32) : Option (Int32 × ST) :=
  some (x3, S)
set_option maxHeartbeats 4000000 in
set_option maxRecDepth 100000 in
theorem t_X2_takeSpots_43 {G : GG} {p : Program} {l : Launch} {e : Env} {s : State} {m : MethodId} {args : Array Value} {below : List Frame} {meth : Method} {c : Code} {S0 : ST} {fu : Nat} {z : Int32 × ST} {a : Nat} {g1 : Nat}  {S : ST} {x3 : Int32} (hM : MC G p s m args c cX2_takeSpots w_X2_takeSpots RX2) (hml : c.maxLocals = 5) (hr : meth.sig.returnType = (some .int)) (hlk : meth.locks = false)   (hf : f_X2_takeSpots_43 fu  S a g1 x3 = some z) : (gC (S a) = 2) → (gC (S g1) = 1) → (∀ b, gC (S0 b) ≠ 0 → gC (S b) = gC (S0 b)) → ∀ (H : Heap) (locs : List Loc), WB G S s H locs → ∀ (ls : Array Slot), lv_has ls 5 [(3, .int x3)] → W p l e RM_X2_takeSpots s m args below meth c H locs 0 0 (QR G below args s (some (.int z.1)) S0 z.2) (F0 m 43 ls []) := by
  intro ha hg1 hK0 H locs hW ls hl
  have hx := hM.1
  have hb := hM.2.1
  refine lv_iload_n hx hb dX2_takeSpots_43 rfl (lv_at hl 0 rfl) ?_
  cases hf
  exact W.iret hx hb hr (b_ret0 hW hK0 _) hW.2.2.2 dX2_takeSpots_44 hlk
noncomputable def f_X2_takeSpots_11s (fu : Nat)  (k11 : Int32 → Int32 → ST → Option (Int32 × ST)) (a : Nat) (g1 : Nat) (x2 : Int32) (x3 : Int32) (x4 : Int32) (S : ST) : Option (Int32 × ST) :=
  if x2 ≤ x4 then
    (f_X2_takeSpots_43 fu S a g1 x3)
  else
    (bd (gR (S a) 0) fun q2 =>
    ck (decide (gC (S q2) = 8)) <|
    bd (f_X8_isName fu (S q2)) fun r4 =>
    if r4 = 0 then
      (f_X2_takeSpots_43 fu S a g1 x3)
    else
      (bd2 (f_X2_takeSpot fu S a g1 x3 x2) fun r6 S7 =>
      nm ((x3 ||| r6)) fun y8 =>
      nm (x4 + (1 : Int32)) fun y9 =>
      k11 y8 y9 S7))
noncomputable def f_X2_takeSpots_11 (fu n : Nat)  (a : Nat) (g1 : Nat) (x2 : Int32) : Int32 → Int32 → ST → Option (Int32 × ST) :=
  lq_3 (fun k11 => f_X2_takeSpots_11s fu  k11  a g1 x2) n
set_option maxHeartbeats 4000000 in
set_option maxRecDepth 100000 in
theorem t_X2_takeSpots_11s {G : GG} {p : Program} {l : Launch} {e : Env} {s : State} {m : MethodId} {args : Array Value} {below : List Frame} {meth : Method} {c : Code} {S0 : ST} {fu : Nat} {z : Int32 × ST} {a : Nat} {g1 : Nat}  {k11 : Int32 → Int32 → ST → Option (Int32 × ST)} {x2 : Int32} (hM : MC G p s m args c cX2_takeSpots w_X2_takeSpots RX2) (hml : c.maxLocals = 5) (hr : meth.sig.returnType = (some .int)) (hlk : meth.locks = false)   (hk11 : ∀ (x3 : Int32) (x4 : Int32) (S : ST), k11 x3 x4 S = some z → (gC (S a) = 2) → (gC (S g1) = 1) → (∀ b, gC (S0 b) ≠ 0 → gC (S b) = gC (S0 b)) → ∀ (H : Heap) (locs : List Loc), WB G S s H locs → ∀ (ls : Array Slot), lv_has ls 5 [(0, .ref a), (1, .ref g1), (2, .int x2), (3, .int x3), (4, .int x4)] → W p l e RM_X2_takeSpots s m args below meth c H locs 0 0 (QR G below args s (some (.int z.1)) S0 z.2) (F0 m 11 ls [])) : ∀ (x3 : Int32) (x4 : Int32) (S : ST), f_X2_takeSpots_11s fu  k11  a g1 x2 x3 x4 S = some z → (gC (S a) = 2) → (gC (S g1) = 1) → (∀ b, gC (S0 b) ≠ 0 → gC (S b) = gC (S0 b)) → ∀ (H : Heap) (locs : List Loc), WB G S s H locs → ∀ (ls : Array Slot), lv_has ls 5 [(0, .ref a), (1, .ref g1), (2, .int x2), (3, .int x3), (4, .int x4)] → W p l e RM_X2_takeSpots s m args below meth c H locs 0 0 (QR G below args s (some (.int z.1)) S0 z.2) (F0 m 11 ls []) := by
  intro x3 x4 S hf ha hg1 hK0 H locs hW ls hl
  have hx := hM.1
  have hb := hM.2.1
  refine lv_iload hx hb dX2_takeSpots_11 (lv_at hl 4 rfl) ?_
  refine lv_iload_n hx hb dX2_takeSpots_13 rfl (lv_at hl 2 rfl) ?_
  refine lv_icmp_ge (tgt := 43) hx hb dX2_takeSpots_14 (by decide) (fun c1 => ?_) (fun c1 => ?_)
  · have hf := if_t c1 hf
    exact t_X2_takeSpots_43 (fu := fu) hM hml hr hlk hf ha hg1 hK0 _ _ hW _ (lv_sub hl [3] rfl)
  · have hf := if_f c1 hf
    refine lv_aload_n hx hb dX2_takeSpots_17 rfl (lv_at hl 0 rfl) ?_
    obtain ⟨q2, hq2, hf⟩ := bd_elim hf
    refine b_get hM (hW.at_ a) 1 0 ha rfl rfl (by decide) wi_X2 (wgm fk_RX2_9) (x := .ref q2) (by show va_rf _ = _; rw [hq2]; rfl) dX2_takeSpots_18 ?_
    obtain ⟨h3, hf⟩ := ck_elim hf
    have h3 := of_decide_eq_true h3
    obtain ⟨r4, hr4, hf⟩ := bd_elim hf
    refine s_callVi [] [] hM hml hl.1 hW h3 rfl (by decide) (Ct_rd (c_X8_isName l G fu _ q2 (S q2) h3 hr4)) (cwV 0 hM.2.2.2.1 (gV mk_RX2_84 im_X8_isName se_X8_isName it_RX8 cd_X8_isName) rfl rfl rfl (by decide +kernel) ⟨Nat.le_of_ble_eq_true rfl, Nat.le_of_ble_eq_true rfl⟩) rfl rfl (Nat.le_of_ble_eq_true rfl) ⟨Nat.zero_le _, Nat.zero_le _⟩ dX2_takeSpots_21 (fun H locs hW hk => ?_)
    refine lv_if_eq (tgt := 43) hx hb dX2_takeSpots_24 (by decide) (fun c5 => ?_) (fun c5 => ?_)
    · have hf := if_t c5 hf
      exact t_X2_takeSpots_43 (fu := fu) hM hml hr hlk hf ha hg1 hK0 _ _ hW _ (lv_sub hl [3] rfl)
    · have hf := if_f c5 hf
      refine lv_iload_n hx hb dX2_takeSpots_27 rfl (lv_at hl 3 rfl) ?_
      refine lv_aload_n hx hb dX2_takeSpots_28 rfl (lv_at hl 0 rfl) ?_
      refine lv_aload_n hx hb dX2_takeSpots_29 rfl (lv_at hl 1 rfl) ?_
      refine lv_iload_n hx hb dX2_takeSpots_30 rfl (lv_at hl 3 rfl) ?_
      refine lv_iload_n hx hb dX2_takeSpots_31 rfl (lv_at hl 2 rfl) ?_
      obtain ⟨r6, S7, hr6, hf⟩ := bd2_elim hf
      refine s_callVi [.ref g1, .int x3, .int x2] [.int x3] hM hml hl.1 hW ha rfl (by decide) (c_X2_takeSpot l G fu _ a _ _ _ ha hg1 hr6) (cwV 3 hM.2.2.2.1 (gV mk_RX2_166 im_X2_takeSpot se_X2_takeSpot it_RX2 cd_X2_takeSpot) rfl rfl rfl (by decide +kernel) ⟨Nat.le_of_ble_eq_true rfl, Nat.le_of_ble_eq_true rfl⟩) rfl rfl (Nat.le_of_ble_eq_true rfl) ⟨Nat.zero_le _, Nat.zero_le _⟩ dX2_takeSpots_32 (fun H locs hW hk => ?_)
      have ha := keep1 hk ha
      have hg1 := keep1 hk hg1
      have h3 := keep1 hk h3
      have hK0 := keep_tr hK0 hk
      refine lv_ior hx hb dX2_takeSpots_35 ?_
      refine lv_topi (fun y8 ey8 => ?_)
      have hf := nm_at ey8 hf
      refine lv_istore_n (lv' := [(3, .int y8), (0, .ref a), (1, .ref g1), (2, .int x2), (4, .int x4)]) hx hb dX2_takeSpots_36 rfl hl (by decide) rfl (fun ls hl => ?_)
      obtain ⟨y9, ey9⟩ : ∃ y : Int32, y = x4 + (1 : Int32) := ⟨_, rfl⟩
      have hf := nm_at ey9 hf
      refine lv_iinc (v := y9) (lv' := [(4, .int y9), (3, .int y8), (0, .ref a), (1, .ref g1), (2, .int x2)]) hx hb dX2_takeSpots_37 hl (k := 4) rfl (by rw [ey9]; rfl) (by decide) rfl (fun ls hl => ?_)
      refine lv_goto (tgt := 11) hx hb dX2_takeSpots_40 (by decide) ?_
      exact hk11 _ _ _ hf ha hg1 hK0 _ _ hW _ (lv_sub hl [2, 3, 4, 1, 0] rfl)
theorem t_X2_takeSpots_11 {G : GG} {p : Program} {l : Launch} {e : Env} {s : State} {m : MethodId} {args : Array Value} {below : List Frame} {meth : Method} {c : Code} {S0 : ST} {fu : Nat} {z : Int32 × ST} {a : Nat} {g1 : Nat}  {x2 : Int32} (hM : MC G p s m args c cX2_takeSpots w_X2_takeSpots RX2) (hml : c.maxLocals = 5) (hr : meth.sig.returnType = (some .int)) (hlk : meth.locks = false)   : ∀ {n : Nat} (x3 : Int32) (x4 : Int32) (S : ST), f_X2_takeSpots_11 fu n   a g1 x2 x3 x4 S = some z → (gC (S a) = 2) → (gC (S g1) = 1) → (∀ b, gC (S0 b) ≠ 0 → gC (S b) = gC (S0 b)) → ∀ (H : Heap) (locs : List Loc), WB G S s H locs → ∀ (ls : Array Slot), lv_has ls 5 [(0, .ref a), (1, .ref g1), (2, .int x2), (3, .int x3), (4, .int x4)] → W p l e RM_X2_takeSpots s m args below meth c H locs 0 0 (QR G below args s (some (.int z.1)) S0 z.2) (F0 m 11 ls []) := by
  intro n
  induction n with
  | zero => intro x3 x4 S hf; cases hf
  | succ n ih => intro x3 x4 S hf; exact t_X2_takeSpots_11s (fu := fu) hM hml hr hlk (k11 := f_X2_takeSpots_11 fu n   a g1 x2) ih _ _ _ hf
noncomputable def f_X2_takeSpots_0 (fu : Nat)  (S : ST) (a : Nat) (g1 : Nat) (x2 : Int32) : Option (Int32 × ST) :=
  bd2 (f_X2_takeSpot fu S a g1 (0 : Int32) x2) fun r1 S2 =>
  f_X2_takeSpots_11 fu fu a g1 x2 r1 (0 : Int32) S2
set_option maxHeartbeats 4000000 in
set_option maxRecDepth 100000 in
theorem t_X2_takeSpots_0 {G : GG} {p : Program} {l : Launch} {e : Env} {s : State} {m : MethodId} {args : Array Value} {below : List Frame} {meth : Method} {c : Code} {S0 : ST} {fu : Nat} {z : Int32 × ST} {a : Nat} {g1 : Nat}  {S : ST} {x2 : Int32} (hM : MC G p s m args c cX2_takeSpots w_X2_takeSpots RX2) (hml : c.maxLocals = 5) (hr : meth.sig.returnType = (some .int)) (hlk : meth.locks = false)   (hf : f_X2_takeSpots_0 fu  S a g1 x2 = some z) : (gC (S a) = 2) → (gC (S g1) = 1) → (∀ b, gC (S0 b) ≠ 0 → gC (S b) = gC (S0 b)) → ∀ (H : Heap) (locs : List Loc), WB G S s H locs → ∀ (ls : Array Slot), lv_has ls 5 [(0, .ref a), (1, .ref g1), (2, .int x2)] → W p l e RM_X2_takeSpots s m args below meth c H locs 0 0 (QR G below args s (some (.int z.1)) S0 z.2) (F0 m 0 ls []) := by
  intro ha hg1 hK0 H locs hW ls hl
  have hx := hM.1
  have hb := hM.2.1
  refine lv_aload_n hx hb dX2_takeSpots_0 rfl (lv_at hl 0 rfl) ?_
  refine lv_aload_n hx hb dX2_takeSpots_1 rfl (lv_at hl 1 rfl) ?_
  refine lv_iconst (v := (0 : Int32)) hx hb dX2_takeSpots_2 (by decide) ?_
  refine lv_iload_n hx hb dX2_takeSpots_3 rfl (lv_at hl 2 rfl) ?_
  obtain ⟨r1, S2, hr1, hf⟩ := bd2_elim hf
  refine s_callVi [.ref g1, .int (0 : Int32), .int x2] [] hM hml hl.1 hW ha rfl (by decide) (c_X2_takeSpot l G fu _ a _ _ _ ha hg1 hr1) (cwV 3 hM.2.2.2.1 (gV mk_RX2_166 im_X2_takeSpot se_X2_takeSpot it_RX2 cd_X2_takeSpot) rfl rfl rfl (by decide +kernel) ⟨Nat.le_of_ble_eq_true rfl, Nat.le_of_ble_eq_true rfl⟩) rfl rfl (Nat.le_of_ble_eq_true rfl) ⟨Nat.zero_le _, Nat.zero_le _⟩ dX2_takeSpots_4 (fun H locs hW hk => ?_)
  have ha := keep1 hk ha
  have hg1 := keep1 hk hg1
  have hK0 := keep_tr hK0 hk
  refine lv_istore_n (lv' := [(3, .int r1), (0, .ref a), (1, .ref g1), (2, .int x2)]) hx hb dX2_takeSpots_7 rfl hl (by decide) rfl (fun ls hl => ?_)
  refine lv_iconst (v := (0 : Int32)) hx hb dX2_takeSpots_8 (by decide) ?_
  refine lv_istore (lv' := [(4, .int (0 : Int32)), (3, .int r1), (0, .ref a), (1, .ref g1), (2, .int x2)]) hx hb dX2_takeSpots_9 hl (by decide) rfl (fun ls hl => ?_)
  exact t_X2_takeSpots_11 (fu := fu) hM hml hr hlk _ _ _ hf ha hg1 hK0 _ _ hW _ (lv_sub hl [2, 3, 4, 1, 0] rfl)
noncomputable def f_X2_takeSpots (fu : Nat) (S : ST) (a : Nat) (g1 : Nat) (x2 : Int32) : Option (Int32 × ST) := f_X2_takeSpots_0 fu S a g1 x2
set_option maxHeartbeats 4000000 in
set_option maxRecDepth 100000 in
theorem c_X2_takeSpots (l : Launch) (G : GG) (fu : Nat) (S : ST) (a : Nat) (g1 : Nat) (x2 : Int32) {z : Int32} {w : ST} (ha : gC (S a) = 2) (hg1 : gC (S g1) = 1) (hf : f_X2_takeSpots fu S a g1 x2 = some (z, w)) : Ct l yX2_takeSpots w_X2_takeSpots RM_X2_takeSpots G S [.ref a, .ref g1, .int x2] (some (.int z)) w 0 0 := by
  refine Met.ofW (cc := cX2_takeSpots) (maxL := 5) (ret := (some .int)) (by decide) rfl ?_
  intro p e s m args below meth c s₁ B hml hv
  obtain ⟨rfl, hB, hK, hz⟩ := hv
  have hM : MC G p s m _ c cX2_takeSpots w_X2_takeSpots RX2 := ⟨B.exec, B.bytes, findClass_of_methodNamed B.named, atoms_spec (ws := w_X2_takeSpots) B.pre, hK, hz⟩
  have hW : WB G S s s.heap [] := ⟨hB, va_S.rf⟩
  have hl := lv_entry ([.ref a, .ref g1, .int x2]) (n := 5) (Nat.le_of_ble_eq_true rfl)
  rw [lg_entry_eq]
  generalize (lg_sl ([.ref a, .ref g1, .int x2]) ++ List.replicate (5 - (lg_sl ([.ref a, .ref g1, .int x2])).length) Slot.unset).toArray = ls at hl ⊢
  have hl : lv_has ls 5 [(0, .ref a), (1, .ref g1), (2, .int x2)] := hl
  exact t_X2_takeSpots_0 (fu := fu) hM hml B.returns B.notSynchronized hf ha hg1 (fun _ _ => rfl) _ _ hW _ (lv_sub hl [0, 1, 2] rfl)
abbrev RM_X3_isThere : Room := { frames := 0, cells := 0, slots := 0, locals := 0 }
abbrev w_X3_isThere : List Cond := Cond.code yX3_isThere cX3_isThere 2 (some .boolean) :: wsL_law0
noncomputable def f_X3_isThere_16 (fu : Nat)  (v : GV) : Option (Int32) :=
  some ((0 : Int32))
set_option maxHeartbeats 4000000 in
set_option maxRecDepth 100000 in
theorem t_X3_isThere_16 {G : GG} {p : Program} {l : Launch} {e : Env} {s : State} {m : MethodId} {args : Array Value} {below : List Frame} {meth : Method} {c : Code} {S : ST} {fu : Nat} {z : Int32} {a : Nat} {v : GV}  (hM : MC G p s m args c cX3_isThere w_X3_isThere RX3) (hml : c.maxLocals = 2) (hr : meth.sig.returnType = (some .boolean)) (hlk : meth.locks = false) (hc0 : gC v = 3)  (hf : f_X3_isThere_16 fu  v   = some z) : ∀ (H : Heap) (locs : List Loc), WB G (st S a v) s H locs → ∀ (ls : Array Slot), lv_has ls 2 [] → W p l e RM_X3_isThere s m args below meth c H locs 0 0 (QR G below args s (some (.int z)) (st S a v) (st S a v)) (F0 m 16 ls []) := by
  intro  H locs hW ls hl
  have hx := hM.1
  have hb := hM.2.1
  have hc := hc0
  refine lv_iconst (v := (0 : Int32)) hx hb dX3_isThere_16 (by decide) ?_
  cases hf
  exact W.zret (v := (0 : Int32)) hx hb hr (by decide) (b_ret0 hW (fun _ _ => rfl) _) hW.2.2.2 dX3_isThere_17 hlk
noncomputable def f_X3_isThere_0 (fu : Nat)  (v : GV) (x1 : Int32) : Option (Int32) :=
  if x1 < 0 then
    (f_X3_isThere_16 fu v)
  else
    (if (gI v 7) ≤ x1 then
      (f_X3_isThere_16 fu v)
    else
      (some ((1 : Int32))))
set_option maxHeartbeats 4000000 in
set_option maxRecDepth 100000 in
theorem t_X3_isThere_0 {G : GG} {p : Program} {l : Launch} {e : Env} {s : State} {m : MethodId} {args : Array Value} {below : List Frame} {meth : Method} {c : Code} {S : ST} {fu : Nat} {z : Int32} {a : Nat} {v : GV}  {x1 : Int32} (hM : MC G p s m args c cX3_isThere w_X3_isThere RX3) (hml : c.maxLocals = 2) (hr : meth.sig.returnType = (some .boolean)) (hlk : meth.locks = false) (hc0 : gC v = 3)  (hf : f_X3_isThere_0 fu  v  x1 = some z) : ∀ (H : Heap) (locs : List Loc), WB G (st S a v) s H locs → ∀ (ls : Array Slot), lv_has ls 2 [(0, .ref a), (1, .int x1)] → W p l e RM_X3_isThere s m args below meth c H locs 0 0 (QR G below args s (some (.int z)) (st S a v) (st S a v)) (F0 m 0 ls []) := by
  intro  H locs hW ls hl
  have hx := hM.1
  have hb := hM.2.1
  have hc := hc0
  refine lv_iload_n hx hb dX3_isThere_0 rfl (lv_at hl 1 rfl) ?_
  refine lv_if_lt (tgt := 16) hx hb dX3_isThere_1 (by decide) (fun c1 => ?_) (fun c1 => ?_)
  · have hf := if_t c1 hf
    exact t_X3_isThere_16 (fu := fu) hM hml hr hlk hc0 hf _ _ hW _ (lv_sub hl [] rfl)
  · have hf := if_f c1 hf
    refine lv_iload_n hx hb dX3_isThere_4 rfl (lv_at hl 1 rfl) ?_
    refine lv_aload_n hx hb dX3_isThere_5 rfl (lv_at hl 0 rfl) ?_
    refine b_get hM hW 2 7 hc rfl rfl (by decide) wi_X3 (wgm fk_RX3_34) (x := .int (gI v 7)) rfl dX3_isThere_6 ?_
    refine lv_icmp_ge (tgt := 16) hx hb dX3_isThere_9 (by decide) (fun c2 => ?_) (fun c2 => ?_)
    · have hf := if_t c2 hf
      exact t_X3_isThere_16 (fu := fu) hM hml hr hlk hc0 hf _ _ hW _ (lv_sub hl [] rfl)
    · have hf := if_f c2 hf
      refine lv_iconst (v := (1 : Int32)) hx hb dX3_isThere_12 (by decide) ?_
      refine lv_goto (tgt := 17) hx hb dX3_isThere_13 (by decide) ?_
      cases hf
      exact W.zret (v := (1 : Int32)) hx hb hr (by decide) (b_ret0 hW (fun _ _ => rfl) _) hW.2.2.2 dX3_isThere_17 hlk
noncomputable def f_X3_isThere (fu : Nat) (v : GV) (x1 : Int32) : Option (Int32) := f_X3_isThere_0 fu v x1
set_option maxHeartbeats 4000000 in
set_option maxRecDepth 100000 in
theorem c_X3_isThere (l : Launch) (G : GG) (fu : Nat) (S : ST) (a : Nat) (v : GV) (x1 : Int32) {z : Int32} (hc : gC v = 3) (hf : f_X3_isThere fu v x1 = some z) : Ct l yX3_isThere w_X3_isThere RM_X3_isThere G (st S a v) [.ref a, .int x1] (some (.int z)) (st S a v) 0 0 := by
  refine Met.ofW (cc := cX3_isThere) (maxL := 2) (ret := (some .boolean)) (by decide) rfl ?_
  intro p e s m args below meth c s₁ B hml hv
  obtain ⟨rfl, hB, hK, hz⟩ := hv
  have hM : MC G p s m _ c cX3_isThere w_X3_isThere RX3 := ⟨B.exec, B.bytes, findClass_of_methodNamed B.named, atoms_spec (ws := w_X3_isThere) B.pre, hK, hz⟩
  have hW : WB G (st S a v) s s.heap [] := ⟨hB, va_S.rf⟩
  have hl := lv_entry ([.ref a, .int x1]) (n := 2) (Nat.le_of_ble_eq_true rfl)
  rw [lg_entry_eq]
  generalize (lg_sl ([.ref a, .int x1]) ++ List.replicate (2 - (lg_sl ([.ref a, .int x1])).length) Slot.unset).toArray = ls at hl ⊢
  have hl : lv_has ls 2 [(0, .ref a), (1, .int x1)] := hl
  exact t_X3_isThere_0 (fu := fu) hM hml B.returns B.notSynchronized hc hf _ _ hW _ (lv_sub hl [0, 1] rfl)
abbrev RM_X3_addPiece : Room := { frames := 1, cells := 0, slots := 0, locals := 21 }
abbrev w_X3_addPiece : List Cond := Cond.code yX3_addPiece cX3_addPiece 4 none :: wsL_law0
noncomputable def f_X3_addPiece_0 (fu : Nat)  (v : GV) (x1 : Int32) (x2 : Int32) (x3 : Int32) : Option (GV) :=
  if (8 : Int32) ≤ (gI v 7) then
    (some v)
  else
    (bd (f_X3_isThere fu v x1) fun r2 =>
    if r2 = 0 then
      (some v)
    else
      (ck (inb x1 8) <|
      nm (((gA v 0 x1.toNatClampNeg) ^^^ x2)) fun y5 =>
      ck (inb (gI v 7) 8) <|
      nm (sA v 0 (gI v 7).toNatClampNeg y5) fun v7 =>
      ck (inb (gI v7 7) 8) <|
      nm (sA v7 1 (gI v7 7).toNatClampNeg x2) fun v9 =>
      ck (inb (gI v9 7) 8) <|
      nm (sA v9 2 (gI v9 7).toNatClampNeg x1) fun v11 =>
      ck (inb (gI v11 7) 8) <|
      nm (sA v11 3 (gI v11 7).toNatClampNeg (0 : Int32)) fun v13 =>
      ck (inb (gI v13 7) 8) <|
      nm (sA v13 4 (gI v13 7).toNatClampNeg x3) fun v15 =>
      nm (sI v15 7 ((gI v15 7) + (1 : Int32))) fun v16 =>
      some v16))
set_option maxHeartbeats 4000000 in
set_option maxRecDepth 100000 in
theorem t_X3_addPiece_0 {G : GG} {p : Program} {l : Launch} {e : Env} {s : State} {m : MethodId} {args : Array Value} {below : List Frame} {meth : Method} {c : Code} {S : ST} {fu : Nat} {z : GV} {a : Nat} {v0 : GV}  {v : GV} {x1 : Int32} {x2 : Int32} {x3 : Int32} (hM : MC G p s m args c cX3_addPiece w_X3_addPiece RX3) (hml : c.maxLocals = 4) (hr : meth.sig.returnType = none) (hlk : meth.locks = false) (hc0 : gC v0 = 3)  (hf : f_X3_addPiece_0 fu  v  x1 x2 x3 = some z) : (gC v = 3) → ∀ (H : Heap) (locs : List Loc), WB G (st S a v) s H locs → ∀ (ls : Array Slot), lv_has ls 4 [(0, .ref a), (1, .int x1), (2, .int x2), (3, .int x3)] → W p l e RM_X3_addPiece s m args below meth c H locs 0 0 (QR G below args s none (st S a v0) (st S a z)) (F0 m 0 ls []) := by
  intro hc H locs hW ls hl
  have hx := hM.1
  have hb := hM.2.1
  refine lv_aload_n hx hb dX3_addPiece_0 rfl (lv_at hl 0 rfl) ?_
  refine b_get hM hW 2 7 hc rfl rfl (by decide) wi_X3 (wgm fk_RX3_34) (x := .int (gI v 7)) rfl dX3_addPiece_1 ?_
  refine lv_bipush (v := (8 : Int32)) hx hb dX3_addPiece_4 (by decide) ?_
  refine lv_icmp_ge (tgt := 84) hx hb dX3_addPiece_6 (by decide) (fun c1 => ?_) (fun c1 => ?_)
  · have hf := if_t c1 hf
    cases hf
    exact W.vret hx hb hr (b_ret0 hW (keep_s2 hc0 hc) _) hW.2.2.2 dX3_addPiece_84 hlk
  · have hf := if_f c1 hf
    refine lv_aload_n hx hb dX3_addPiece_9 rfl (lv_at hl 0 rfl) ?_
    refine lv_iload_n hx hb dX3_addPiece_10 rfl (lv_at hl 1 rfl) ?_
    obtain ⟨r2, hr2, hf⟩ := bd_elim hf
    refine b_callVi [.int x1] [] hM hml hl.1 hW hc rfl (by decide) (c_X3_isThere l G fu _ a v _ hc hr2) (cwV 1 hM.2.2.2.1 (gV mk_RX3_71 im_X3_isThere se_X3_isThere it_RX3 cd_X3_isThere) rfl rfl rfl (by decide +kernel) ⟨Nat.le_of_ble_eq_true rfl, Nat.le_of_ble_eq_true rfl⟩) rfl rfl (Nat.le_of_ble_eq_true rfl) ⟨Nat.zero_le _, Nat.zero_le _⟩ dX3_addPiece_11 (fun H locs hW hk => ?_)
    refine lv_if_eq (tgt := 84) hx hb dX3_addPiece_14 (by decide) (fun c3 => ?_) (fun c3 => ?_)
    · have hf := if_t c3 hf
      cases hf
      exact W.vret hx hb hr (b_ret0 hW (keep_s2 hc0 hc) _) hW.2.2.2 dX3_addPiece_84 hlk
    · have hf := if_f c3 hf
      refine lv_aload_n hx hb dX3_addPiece_17 rfl (lv_at hl 0 rfl) ?_
      refine b_get hM hW 2 0 hc rfl rfl (by decide) wi_X3 (wgm fk_RX3_9) (x := .ref (a + 1)) rfl dX3_addPiece_18 ?_
      refine lv_aload_n hx hb dX3_addPiece_21 rfl (lv_at hl 0 rfl) ?_
      refine b_get hM hW 2 7 hc rfl rfl (by decide) wi_X3 (wgm fk_RX3_34) (x := .int (gI v 7)) rfl dX3_addPiece_22 ?_
      refine lv_aload_n hx hb dX3_addPiece_25 rfl (lv_at hl 0 rfl) ?_
      refine b_get hM hW 2 0 hc rfl rfl (by decide) wi_X3 (wgm fk_RX3_9) (x := .ref (a + 1)) rfl dX3_addPiece_26 ?_
      refine lv_iload_n hx hb dX3_addPiece_29 rfl (lv_at hl 1 rfl) ?_
      obtain ⟨h4, hf⟩ := ck_elim hf
      refine b_iald (n := 8) hM hW 2 0 hc (by decide) rfl rfl rfl rfl h4 dX3_addPiece_30 ?_
      refine lv_iload_n hx hb dX3_addPiece_31 rfl (lv_at hl 2 rfl) ?_
      refine lv_ixor hx hb dX3_addPiece_32 ?_
      refine lv_topi (fun y5 ey5 => ?_)
      have hf := nm_at ey5 hf
      obtain ⟨h6, hf⟩ := ck_elim hf
      refine b_iast (n := 8) hM hW 2 0 hc (by decide) rfl rfl rfl rfl h6 dX3_addPiece_33 (fun v7 ev7 hc H locs hW => ?_)
      have hf := nm_at ev7 hf
      refine lv_aload_n hx hb dX3_addPiece_34 rfl (lv_at hl 0 rfl) ?_
      refine b_get hM hW 2 1 hc rfl rfl (by decide) wi_X3 (wgm fk_RX3_15) (x := .ref (a + 2)) rfl dX3_addPiece_35 ?_
      refine lv_aload_n hx hb dX3_addPiece_38 rfl (lv_at hl 0 rfl) ?_
      refine b_get hM hW 2 7 hc rfl rfl (by decide) wi_X3 (wgm fk_RX3_34) (x := .int (gI v7 7)) rfl dX3_addPiece_39 ?_
      refine lv_iload_n hx hb dX3_addPiece_42 rfl (lv_at hl 2 rfl) ?_
      obtain ⟨h8, hf⟩ := ck_elim hf
      refine b_iast (n := 8) hM hW 2 1 hc (by decide) rfl rfl rfl rfl h8 dX3_addPiece_43 (fun v9 ev9 hc H locs hW => ?_)
      have hf := nm_at ev9 hf
      refine lv_aload_n hx hb dX3_addPiece_44 rfl (lv_at hl 0 rfl) ?_
      refine b_get hM hW 2 2 hc rfl rfl (by decide) wi_X3 (wgm fk_RX3_18) (x := .ref (a + 3)) rfl dX3_addPiece_45 ?_
      refine lv_aload_n hx hb dX3_addPiece_48 rfl (lv_at hl 0 rfl) ?_
      refine b_get hM hW 2 7 hc rfl rfl (by decide) wi_X3 (wgm fk_RX3_34) (x := .int (gI v9 7)) rfl dX3_addPiece_49 ?_
      refine lv_iload_n hx hb dX3_addPiece_52 rfl (lv_at hl 1 rfl) ?_
      obtain ⟨h10, hf⟩ := ck_elim hf
      refine b_iast (n := 8) hM hW 2 2 hc (by decide) rfl rfl rfl rfl h10 dX3_addPiece_53 (fun v11 ev11 hc H locs hW => ?_)
      have hf := nm_at ev11 hf
      refine lv_aload_n hx hb dX3_addPiece_54 rfl (lv_at hl 0 rfl) ?_
      refine b_get hM hW 2 3 hc rfl rfl (by decide) wi_X3 (wgm fk_RX3_21) (x := .ref (a + 4)) rfl dX3_addPiece_55 ?_
      refine lv_aload_n hx hb dX3_addPiece_58 rfl (lv_at hl 0 rfl) ?_
      refine b_get hM hW 2 7 hc rfl rfl (by decide) wi_X3 (wgm fk_RX3_34) (x := .int (gI v11 7)) rfl dX3_addPiece_59 ?_
      refine lv_iconst (v := (0 : Int32)) hx hb dX3_addPiece_62 (by decide) ?_
      obtain ⟨h12, hf⟩ := ck_elim hf
      refine b_iast (n := 8) hM hW 2 3 hc (by decide) rfl rfl rfl rfl h12 dX3_addPiece_63 (fun v13 ev13 hc H locs hW => ?_)
      have hf := nm_at ev13 hf
      refine lv_aload_n hx hb dX3_addPiece_64 rfl (lv_at hl 0 rfl) ?_
      refine b_get hM hW 2 4 hc rfl rfl (by decide) wi_X3 (wgm fk_RX3_24) (x := .ref (a + 5)) rfl dX3_addPiece_65 ?_
      refine lv_aload_n hx hb dX3_addPiece_68 rfl (lv_at hl 0 rfl) ?_
      refine b_get hM hW 2 7 hc rfl rfl (by decide) wi_X3 (wgm fk_RX3_34) (x := .int (gI v13 7)) rfl dX3_addPiece_69 ?_
      refine lv_iload_n hx hb dX3_addPiece_72 rfl (lv_at hl 3 rfl) ?_
      obtain ⟨h14, hf⟩ := ck_elim hf
      refine b_iast (n := 8) hM hW 2 4 hc (by decide) rfl rfl rfl rfl h14 dX3_addPiece_73 (fun v15 ev15 hc H locs hW => ?_)
      have hf := nm_at ev15 hf
      refine lv_aload_n hx hb dX3_addPiece_74 rfl (lv_at hl 0 rfl) ?_
      refine lv_dup hx hb dX3_addPiece_75 rfl ?_
      refine b_get hM hW 2 7 hc rfl rfl (by decide) wi_X3 (wgm fk_RX3_34) (x := .int (gI v15 7)) rfl dX3_addPiece_76 ?_
      refine lv_iconst (v := (1 : Int32)) hx hb dX3_addPiece_79 (by decide) ?_
      refine lv_iadd hx hb dX3_addPiece_80 ?_
      refine b_putI hM hW 2 7 hc rfl rfl (by decide) wi_X3 tyX3 tyX3_ok nmX3 (wgm fk_RX3_34) rfl rfl rfl dX3_addPiece_81 (fun v16 ev16 hc H locs hW => ?_)
      have hf := nm_at ev16 hf
      cases hf
      exact W.vret hx hb hr (b_ret0 hW (keep_s2 hc0 hc) _) hW.2.2.2 dX3_addPiece_84 hlk
noncomputable def f_X3_addPiece (fu : Nat) (v : GV) (x1 : Int32) (x2 : Int32) (x3 : Int32) : Option (GV) := f_X3_addPiece_0 fu v x1 x2 x3
set_option maxHeartbeats 4000000 in
set_option maxRecDepth 100000 in
theorem c_X3_addPiece (l : Launch) (G : GG) (fu : Nat) (S : ST) (a : Nat) (v : GV) (x1 : Int32) (x2 : Int32) (x3 : Int32) {z : GV} (hc : gC v = 3) (hf : f_X3_addPiece fu v x1 x2 x3 = some z) : Ct l yX3_addPiece w_X3_addPiece RM_X3_addPiece G (st S a v) [.ref a, .int x1, .int x2, .int x3] none (st S a z) 0 0 := by
  refine Met.ofW (cc := cX3_addPiece) (maxL := 4) (ret := none) (by decide) rfl ?_
  intro p e s m args below meth c s₁ B hml hv
  obtain ⟨rfl, hB, hK, hz⟩ := hv
  have hM : MC G p s m _ c cX3_addPiece w_X3_addPiece RX3 := ⟨B.exec, B.bytes, findClass_of_methodNamed B.named, atoms_spec (ws := w_X3_addPiece) B.pre, hK, hz⟩
  have hW : WB G (st S a v) s s.heap [] := ⟨hB, va_S.rf⟩
  have hl := lv_entry ([.ref a, .int x1, .int x2, .int x3]) (n := 4) (Nat.le_of_ble_eq_true rfl)
  rw [lg_entry_eq]
  generalize (lg_sl ([.ref a, .int x1, .int x2, .int x3]) ++ List.replicate (4 - (lg_sl ([.ref a, .int x1, .int x2, .int x3])).length) Slot.unset).toArray = ls at hl ⊢
  have hl : lv_has ls 4 [(0, .ref a), (1, .int x1), (2, .int x2), (3, .int x3)] := hl
  exact t_X3_addPiece_0 (fu := fu) hM hml B.returns B.notSynchronized hc hf hc _ _ hW _ (lv_sub hl [0, 1, 2, 3] rfl)
abbrev RM_X2_readCopy : Room := { frames := 5, cells := 0, slots := 0, locals := 116 }
abbrev w_X2_readCopy : List Cond := Cond.code yX2_readCopy cX2_readCopy 5 none :: wsL_law0
noncomputable def f_X2_readCopy_21 (fu : Nat)  (S : ST) (a : Nat) (g1 : Nat) (t0 : Nat) (t1 : Int32) : Option (ST) :=
  bd (f_X8_stepOrFail fu (S t0) t1 (5 : Int32)) fun v2 =>
  nm (st S t0 v2) fun Sv2 =>
  bd (gR (Sv2 a) 0) fun q3 =>
  ck (decide (gC (Sv2 q3) = 8)) <|
  bd (f_X8_need_ fu (Sv2 q3) 7) fun v6 =>
  nm (st Sv2 q3 v6) fun Sv6 =>
  bd (gR (Sv6 a) 0) fun q7 =>
  ck (decide (gC (Sv6 q7) = 8)) <|
  ck (decide (gC (Sv6 (g1 + 8)) = 3)) <|
  bd2 (f_X8_takeNumberBelow fu (Sv6 q7) (gI (Sv6 (g1 + 8)) 7)) fun r10 v11 =>
  nm (st Sv6 q7 v11) fun Sv11 =>
  bd (gR (Sv11 a) 0) fun q12 =>
  ck (decide (gC (Sv11 q12) = 8)) <|
  bd (f_X8_need_ fu (Sv11 q12) 8) fun v15 =>
  nm (st Sv11 q12 v15) fun Sv15 =>
  bd2 (f_X2_takeSpots fu Sv15 a g1 (3 : Int32)) fun r16 S17 =>
  bd (gR (S17 a) 0) fun q18 =>
  ck (decide (gC (S17 q18) = 8)) <|
  bd (f_X8_need_ fu (S17 q18) 9) fun v21 =>
  nm (st S17 q18 v21) fun Sv21 =>
  bd (gR (Sv21 a) 0) fun q22 =>
  ck (decide (gC (Sv21 q22) = 8)) <|
  bd2 (f_X1_takeThief fu Sv21 g1 q22) fun r24 S25 =>
  bd (gR (S25 a) 0) fun q26 =>
  ck (decide (gC (S25 q26) = 8)) <|
  bd (f_X8_need fu (S25 q26) (59 : Int32)) fun v29 =>
  nm (st S25 q26 v29) fun Sv29 =>
  bd (gR (Sv29 a) 0) fun q30 =>
  ck (decide (gC (Sv29 q30) = 8)) <|
  if (gI (Sv29 q30) 7) = 0 then
    (bd (f_X3_addPiece fu (Sv29 (g1 + 8)) r10 r16 r24) fun v34 =>
    nm (st Sv29 (g1 + 8) v34) fun Sv34 =>
    some Sv34)
  else
    (some Sv29)
set_option maxHeartbeats 4000000 in
set_option maxRecDepth 100000 in
theorem t_X2_readCopy_21 {G : GG} {p : Program} {l : Launch} {e : Env} {s : State} {m : MethodId} {args : Array Value} {below : List Frame} {meth : Method} {c : Code} {S0 : ST} {fu : Nat} {z : ST} {a : Nat} {g1 : Nat}  {S : ST} {t0 : Nat} {t1 : Int32} (hM : MC G p s m args c cX2_readCopy w_X2_readCopy RX2) (hml : c.maxLocals = 5) (hr : meth.sig.returnType = none) (hlk : meth.locks = false)   (hf : f_X2_readCopy_21 fu  S a g1 t0 t1 = some z) : (gC (S a) = 2) → (gC (S g1) = 1) → (∀ b, gC (S0 b) ≠ 0 → gC (S b) = gC (S0 b)) → (gC (S t0) = 8) → ∀ (H : Heap) (locs : List Loc), WB G S s H locs → ∀ (ls : Array Slot), lv_has ls 5 [(0, .ref a), (1, .ref g1)] → W p l e RM_X2_readCopy s m args below meth c H locs 0 0 (QR G below args s none S0 z) (F0 m 21 ls [.int t1, .ref t0]) := by
  intro ha hg1 hK0 ht0 H locs hW ls hl
  have hx := hM.1
  have hb := hM.2.1
  refine lv_iconst (v := (5 : Int32)) hx hb dX2_readCopy_21 (by decide) ?_
  obtain ⟨v2, hr1, hf⟩ := bd_elim hf
  refine s_callNv [.int t1, .int (5 : Int32)] [] hM hml hl.1 hW ht0 rfl (by decide) (Ct_self (c_X8_stepOrFail l G fu _ t0 (S t0) _ _ ht0 hr1)) (cwV 2 hM.2.2.2.1 (gV mk_RX2_91 im_X8_stepOrFail se_X8_stepOrFail it_RX8 cd_X8_stepOrFail) rfl rfl rfl (by decide +kernel) ⟨Nat.le_of_ble_eq_true rfl, Nat.le_of_ble_eq_true rfl⟩) rfl rfl (Nat.le_of_ble_eq_true rfl) ⟨Nat.zero_le _, Nat.zero_le _⟩ dX2_readCopy_22 (fun Sv2 ev2 hk H locs hW => ?_)
  have hf := nm_at ev2 hf
  have ha := keep1 hk ha
  have hg1 := keep1 hk hg1
  have ht0 := keep1 hk ht0
  have hK0 := keep_tr hK0 hk
  refine lv_aload_n hx hb dX2_readCopy_25 rfl (lv_at hl 0 rfl) ?_
  obtain ⟨q3, hq3, hf⟩ := bd_elim hf
  refine b_get hM (hW.at_ a) 1 0 ha rfl rfl (by decide) wi_X2 (wgm fk_RX2_9) (x := .ref q3) (by show va_rf _ = _; rw [hq3]; rfl) dX2_readCopy_26 ?_
  obtain ⟨h4, hf⟩ := ck_elim hf
  have h4 := of_decide_eq_true h4
  refine k_word hM hW 7 (by decide) (wgm fk_RX2_183) dX2_readCopy_29 ?_
  obtain ⟨v6, hr5, hf⟩ := bd_elim hf
  refine s_callNv [.ref (kAd G 7)] [] hM hml hl.1 hW h4 rfl (by decide) (Ct_self (c_X8_need_ l G fu _ q3 (Sv2 q3) _ h4 (by decide) hr5)) (cwV 1 hM.2.2.2.1 (gV mk_RX2_124 im_X8_need_ se_X8_need_ it_RX8 cd_X8_need_) rfl rfl rfl (by decide +kernel) ⟨Nat.le_of_ble_eq_true rfl, Nat.le_of_ble_eq_true rfl⟩) rfl rfl (Nat.le_of_ble_eq_true rfl) ⟨Nat.zero_le _, Nat.zero_le _⟩ dX2_readCopy_32 (fun Sv6 ev6 hk H locs hW => ?_)
  have hf := nm_at ev6 hf
  have ha := keep1 hk ha
  have hg1 := keep1 hk hg1
  have ht0 := keep1 hk ht0
  have h4 := keep1 hk h4
  have hK0 := keep_tr hK0 hk
  refine lv_aload_n hx hb dX2_readCopy_35 rfl (lv_at hl 0 rfl) ?_
  obtain ⟨q7, hq7, hf⟩ := bd_elim hf
  refine b_get hM (hW.at_ a) 1 0 ha rfl rfl (by decide) wi_X2 (wgm fk_RX2_9) (x := .ref q7) (by show va_rf _ = _; rw [hq7]; rfl) dX2_readCopy_36 ?_
  obtain ⟨h8, hf⟩ := ck_elim hf
  have h8 := of_decide_eq_true h8
  refine lv_aload_n hx hb dX2_readCopy_39 rfl (lv_at hl 1 rfl) ?_
  refine b_get hM (hW.at_ g1) 0 7 hg1 rfl rfl (by decide) wi_X1 (wgm fk_RX2_174) (x := .ref (g1 + 8)) rfl dX2_readCopy_40 ?_
  obtain ⟨h9, hf⟩ := ck_elim hf
  have h9 := of_decide_eq_true h9
  refine b_get hM (hW.at_ (g1 + 8)) 2 7 h9 rfl rfl (by decide) wi_X3 (wgm fk_RX2_178) (x := .int (gI (Sv6 (g1 + 8)) 7)) rfl dX2_readCopy_43 ?_
  obtain ⟨r10, v11, hr10, hf⟩ := bd2_elim hf
  refine s_callNi [.int (gI (Sv6 (g1 + 8)) 7)] [] hM hml hl.1 hW h8 rfl (by decide) (Ct_self (c_X8_takeNumberBelow l G fu _ q7 (Sv6 q7) _ h8 hr10)) (cwV 1 hM.2.2.2.1 (gV mk_RX2_127 im_X8_takeNumberBelow se_X8_takeNumberBelow it_RX8 cd_X8_takeNumberBelow) rfl rfl rfl (by decide +kernel) ⟨Nat.le_of_ble_eq_true rfl, Nat.le_of_ble_eq_true rfl⟩) rfl rfl (Nat.le_of_ble_eq_true rfl) ⟨Nat.zero_le _, Nat.zero_le _⟩ dX2_readCopy_46 (fun Sv11 ev11 hk H locs hW => ?_)
  have hf := nm_at ev11 hf
  have ha := keep1 hk ha
  have hg1 := keep1 hk hg1
  have ht0 := keep1 hk ht0
  have h4 := keep1 hk h4
  have h8 := keep1 hk h8
  have h9 := keep1 hk h9
  have hK0 := keep_tr hK0 hk
  refine lv_istore_n (lv' := [(2, .int r10), (0, .ref a), (1, .ref g1)]) hx hb dX2_readCopy_49 rfl hl (by decide) rfl (fun ls hl => ?_)
  refine lv_aload_n hx hb dX2_readCopy_50 rfl (lv_at hl 1 rfl) ?_
  obtain ⟨q12, hq12, hf⟩ := bd_elim hf
  refine b_get hM (hW.at_ a) 1 0 ha rfl rfl (by decide) wi_X2 (wgm fk_RX2_9) (x := .ref q12) (by show va_rf _ = _; rw [hq12]; rfl) dX2_readCopy_51 ?_
  obtain ⟨h13, hf⟩ := ck_elim hf
  have h13 := of_decide_eq_true h13
  refine k_word hM hW 8 (by decide) (wgm fk_RX2_186) dX2_readCopy_54 ?_
  obtain ⟨v15, hr14, hf⟩ := bd_elim hf
  refine s_callNv [.ref (kAd G 8)] [] hM hml hl.1 hW h13 rfl (by decide) (Ct_self (c_X8_need_ l G fu _ q12 (Sv11 q12) _ h13 (by decide) hr14)) (cwV 1 hM.2.2.2.1 (gV mk_RX2_124 im_X8_need_ se_X8_need_ it_RX8 cd_X8_need_) rfl rfl rfl (by decide +kernel) ⟨Nat.le_of_ble_eq_true rfl, Nat.le_of_ble_eq_true rfl⟩) rfl rfl (Nat.le_of_ble_eq_true rfl) ⟨Nat.zero_le _, Nat.zero_le _⟩ dX2_readCopy_57 (fun Sv15 ev15 hk H locs hW => ?_)
  have hf := nm_at ev15 hf
  have ha := keep1 hk ha
  have hg1 := keep1 hk hg1
  have ht0 := keep1 hk ht0
  have h4 := keep1 hk h4
  have h8 := keep1 hk h8
  have h9 := keep1 hk h9
  have h13 := keep1 hk h13
  have hK0 := keep_tr hK0 hk
  refine lv_aload_n hx hb dX2_readCopy_60 rfl (lv_at hl 1 rfl) ?_
  refine lv_aload_n hx hb dX2_readCopy_61 rfl (lv_at hl 2 rfl) ?_
  refine lv_iconst (v := (3 : Int32)) hx hb dX2_readCopy_62 (by decide) ?_
  obtain ⟨r16, S17, hr16, hf⟩ := bd2_elim hf
  refine s_callVi [.ref g1, .int (3 : Int32)] [] hM hml hl.1 hW ha rfl (by decide) (c_X2_takeSpots l G fu _ a _ _ ha hg1 hr16) (cwV 2 hM.2.2.2.1 (gV mk_RX2_189 im_X2_takeSpots se_X2_takeSpots it_RX2 cd_X2_takeSpots) rfl rfl rfl (by decide +kernel) ⟨Nat.le_of_ble_eq_true rfl, Nat.le_of_ble_eq_true rfl⟩) rfl rfl (Nat.le_of_ble_eq_true rfl) ⟨Nat.zero_le _, Nat.zero_le _⟩ dX2_readCopy_63 (fun H locs hW hk => ?_)
  have ha := keep1 hk ha
  have hg1 := keep1 hk hg1
  have ht0 := keep1 hk ht0
  have h4 := keep1 hk h4
  have h8 := keep1 hk h8
  have h9 := keep1 hk h9
  have h13 := keep1 hk h13
  have hK0 := keep_tr hK0 hk
  refine lv_istore_n (lv' := [(3, .int r16), (2, .int r10), (0, .ref a), (1, .ref g1)]) hx hb dX2_readCopy_66 rfl hl (by decide) rfl (fun ls hl => ?_)
  refine lv_aload_n hx hb dX2_readCopy_67 rfl (lv_at hl 2 rfl) ?_
  obtain ⟨q18, hq18, hf⟩ := bd_elim hf
  refine b_get hM (hW.at_ a) 1 0 ha rfl rfl (by decide) wi_X2 (wgm fk_RX2_9) (x := .ref q18) (by show va_rf _ = _; rw [hq18]; rfl) dX2_readCopy_68 ?_
  obtain ⟨h19, hf⟩ := ck_elim hf
  have h19 := of_decide_eq_true h19
  refine k_word hM hW 9 (by decide) (wgm fk_RX2_193) dX2_readCopy_71 ?_
  obtain ⟨v21, hr20, hf⟩ := bd_elim hf
  refine s_callNv [.ref (kAd G 9)] [] hM hml hl.1 hW h19 rfl (by decide) (Ct_self (c_X8_need_ l G fu _ q18 (S17 q18) _ h19 (by decide) hr20)) (cwV 1 hM.2.2.2.1 (gV mk_RX2_124 im_X8_need_ se_X8_need_ it_RX8 cd_X8_need_) rfl rfl rfl (by decide +kernel) ⟨Nat.le_of_ble_eq_true rfl, Nat.le_of_ble_eq_true rfl⟩) rfl rfl (Nat.le_of_ble_eq_true rfl) ⟨Nat.zero_le _, Nat.zero_le _⟩ dX2_readCopy_74 (fun Sv21 ev21 hk H locs hW => ?_)
  have hf := nm_at ev21 hf
  have ha := keep1 hk ha
  have hg1 := keep1 hk hg1
  have ht0 := keep1 hk ht0
  have h4 := keep1 hk h4
  have h8 := keep1 hk h8
  have h9 := keep1 hk h9
  have h13 := keep1 hk h13
  have h19 := keep1 hk h19
  have hK0 := keep_tr hK0 hk
  refine lv_aload_n hx hb dX2_readCopy_77 rfl (lv_at hl 3 rfl) ?_
  refine lv_aload_n hx hb dX2_readCopy_78 rfl (lv_at hl 2 rfl) ?_
  obtain ⟨q22, hq22, hf⟩ := bd_elim hf
  refine b_get hM (hW.at_ a) 1 0 ha rfl rfl (by decide) wi_X2 (wgm fk_RX2_9) (x := .ref q22) (by show va_rf _ = _; rw [hq22]; rfl) dX2_readCopy_79 ?_
  obtain ⟨h23, hf⟩ := ck_elim hf
  have h23 := of_decide_eq_true h23
  obtain ⟨r24, S25, hr24, hf⟩ := bd2_elim hf
  refine s_callVi [.ref q22] [] hM hml hl.1 hW hg1 rfl (by decide) (c_X1_takeThief l G fu _ g1 _ hg1 h23 hr24) (cwV 1 hM.2.2.2.1 (gV mk_RX2_196 im_X1_takeThief se_X1_takeThief it_RX1 cd_X1_takeThief) rfl rfl rfl (by decide +kernel) ⟨Nat.le_of_ble_eq_true rfl, Nat.le_of_ble_eq_true rfl⟩) rfl rfl (Nat.le_of_ble_eq_true rfl) ⟨Nat.zero_le _, Nat.zero_le _⟩ dX2_readCopy_82 (fun H locs hW hk => ?_)
  have ha := keep1 hk ha
  have hg1 := keep1 hk hg1
  have ht0 := keep1 hk ht0
  have h4 := keep1 hk h4
  have h8 := keep1 hk h8
  have h9 := keep1 hk h9
  have h13 := keep1 hk h13
  have h19 := keep1 hk h19
  have h23 := keep1 hk h23
  have hK0 := keep_tr hK0 hk
  refine lv_istore (lv' := [(4, .int r24), (3, .int r16), (2, .int r10), (0, .ref a), (1, .ref g1)]) hx hb dX2_readCopy_85 hl (by decide) rfl (fun ls hl => ?_)
  refine lv_aload_n hx hb dX2_readCopy_87 rfl (lv_at hl 3 rfl) ?_
  obtain ⟨q26, hq26, hf⟩ := bd_elim hf
  refine b_get hM (hW.at_ a) 1 0 ha rfl rfl (by decide) wi_X2 (wgm fk_RX2_9) (x := .ref q26) (by show va_rf _ = _; rw [hq26]; rfl) dX2_readCopy_88 ?_
  obtain ⟨h27, hf⟩ := ck_elim hf
  have h27 := of_decide_eq_true h27
  refine lv_bipush (v := (59 : Int32)) hx hb dX2_readCopy_91 (by decide) ?_
  obtain ⟨v29, hr28, hf⟩ := bd_elim hf
  refine s_callNv [.int (59 : Int32)] [] hM hml hl.1 hW h27 rfl (by decide) (Ct_self (c_X8_need l G fu _ q26 (S25 q26) _ h27 hr28)) (cwV 1 hM.2.2.2.1 (gV mk_RX2_103 im_X8_need se_X8_need it_RX8 cd_X8_need) rfl rfl rfl (by decide +kernel) ⟨Nat.le_of_ble_eq_true rfl, Nat.le_of_ble_eq_true rfl⟩) rfl rfl (Nat.le_of_ble_eq_true rfl) ⟨Nat.zero_le _, Nat.zero_le _⟩ dX2_readCopy_93 (fun Sv29 ev29 hk H locs hW => ?_)
  have hf := nm_at ev29 hf
  have ha := keep1 hk ha
  have hg1 := keep1 hk hg1
  have ht0 := keep1 hk ht0
  have h4 := keep1 hk h4
  have h8 := keep1 hk h8
  have h9 := keep1 hk h9
  have h13 := keep1 hk h13
  have h19 := keep1 hk h19
  have h23 := keep1 hk h23
  have h27 := keep1 hk h27
  have hK0 := keep_tr hK0 hk
  refine lv_aload_n hx hb dX2_readCopy_96 rfl (lv_at hl 3 rfl) ?_
  obtain ⟨q30, hq30, hf⟩ := bd_elim hf
  refine b_get hM (hW.at_ a) 1 0 ha rfl rfl (by decide) wi_X2 (wgm fk_RX2_9) (x := .ref q30) (by show va_rf _ = _; rw [hq30]; rfl) dX2_readCopy_97 ?_
  obtain ⟨h31, hf⟩ := ck_elim hf
  have h31 := of_decide_eq_true h31
  refine b_get hM (hW.at_ q30) 7 7 h31 rfl rfl (by decide) wi_X8 (wgm fk_RX2_107) (x := .int (gI (Sv29 q30) 7)) rfl dX2_readCopy_100 ?_
  refine lv_if_ne (tgt := 117) hx hb dX2_readCopy_103 (by decide) (fun c32 => ?_) (fun c32 => ?_)
  · have hf := if_f c32 hf
    cases hf
    exact W.vret hx hb hr (b_ret0 hW hK0 _) hW.2.2.2 dX2_readCopy_117 hlk
  · have hf := if_t c32 hf
    refine lv_aload_n hx hb dX2_readCopy_106 rfl (lv_at hl 4 rfl) ?_
    refine b_get hM (hW.at_ g1) 0 7 hg1 rfl rfl (by decide) wi_X1 (wgm fk_RX2_174) (x := .ref (g1 + 8)) rfl dX2_readCopy_107 ?_
    refine lv_iload_n hx hb dX2_readCopy_110 rfl (lv_at hl 2 rfl) ?_
    refine lv_iload_n hx hb dX2_readCopy_111 rfl (lv_at hl 1 rfl) ?_
    refine lv_iload hx hb dX2_readCopy_112 (lv_at hl 0 rfl) ?_
    obtain ⟨v34, hr33, hf⟩ := bd_elim hf
    refine s_callNv [.int r10, .int r16, .int r24] [] hM hml hl.1 hW h9 rfl (by decide) (Ct_self (c_X3_addPiece l G fu _ (g1 + 8) (Sv29 (g1 + 8)) _ _ _ h9 hr33)) (cwV 3 hM.2.2.2.1 (gV mk_RX2_199 im_X3_addPiece se_X3_addPiece it_RX3 cd_X3_addPiece) rfl rfl rfl (by decide +kernel) ⟨Nat.le_of_ble_eq_true rfl, Nat.le_of_ble_eq_true rfl⟩) rfl rfl (Nat.le_of_ble_eq_true rfl) ⟨Nat.zero_le _, Nat.zero_le _⟩ dX2_readCopy_114 (fun Sv34 ev34 hk H locs hW => ?_)
    have hf := nm_at ev34 hf
    have ha := keep1 hk ha
    have hg1 := keep1 hk hg1
    have ht0 := keep1 hk ht0
    have h4 := keep1 hk h4
    have h8 := keep1 hk h8
    have h9 := keep1 hk h9
    have h13 := keep1 hk h13
    have h19 := keep1 hk h19
    have h23 := keep1 hk h23
    have h27 := keep1 hk h27
    have h31 := keep1 hk h31
    have hK0 := keep_tr hK0 hk
    cases hf
    exact W.vret hx hb hr (b_ret0 hW hK0 _) hW.2.2.2 dX2_readCopy_117 hlk
noncomputable def f_X2_readCopy_0 (fu : Nat)  (S : ST) (a : Nat) (g1 : Nat) : Option (ST) :=
  bd (gR (S a) 0) fun q1 =>
  ck (decide (gC (S q1) = 8)) <|
  ck (decide (gC (S (g1 + 8)) = 3)) <|
  if (8 : Int32) ≤ (gI (S (g1 + 8)) 7) then
    (f_X2_readCopy_21 fu S a g1 q1 (0 : Int32))
  else
    (f_X2_readCopy_21 fu S a g1 q1 (1 : Int32))
set_option maxHeartbeats 4000000 in
set_option maxRecDepth 100000 in
theorem t_X2_readCopy_0 {G : GG} {p : Program} {l : Launch} {e : Env} {s : State} {m : MethodId} {args : Array Value} {below : List Frame} {meth : Method} {c : Code} {S0 : ST} {fu : Nat} {z : ST} {a : Nat} {g1 : Nat}  {S : ST} (hM : MC G p s m args c cX2_readCopy w_X2_readCopy RX2) (hml : c.maxLocals = 5) (hr : meth.sig.returnType = none) (hlk : meth.locks = false)   (hf : f_X2_readCopy_0 fu  S a g1  = some z) : (gC (S a) = 2) → (gC (S g1) = 1) → (∀ b, gC (S0 b) ≠ 0 → gC (S b) = gC (S0 b)) → ∀ (H : Heap) (locs : List Loc), WB G S s H locs → ∀ (ls : Array Slot), lv_has ls 5 [(0, .ref a), (1, .ref g1)] → W p l e RM_X2_readCopy s m args below meth c H locs 0 0 (QR G below args s none S0 z) (F0 m 0 ls []) := by
  intro ha hg1 hK0 H locs hW ls hl
  have hx := hM.1
  have hb := hM.2.1
  refine lv_aload_n hx hb dX2_readCopy_0 rfl (lv_at hl 0 rfl) ?_
  obtain ⟨q1, hq1, hf⟩ := bd_elim hf
  refine b_get hM (hW.at_ a) 1 0 ha rfl rfl (by decide) wi_X2 (wgm fk_RX2_9) (x := .ref q1) (by show va_rf _ = _; rw [hq1]; rfl) dX2_readCopy_1 ?_
  obtain ⟨h2, hf⟩ := ck_elim hf
  have h2 := of_decide_eq_true h2
  refine lv_aload_n hx hb dX2_readCopy_4 rfl (lv_at hl 1 rfl) ?_
  refine b_get hM (hW.at_ g1) 0 7 hg1 rfl rfl (by decide) wi_X1 (wgm fk_RX2_174) (x := .ref (g1 + 8)) rfl dX2_readCopy_5 ?_
  obtain ⟨h3, hf⟩ := ck_elim hf
  have h3 := of_decide_eq_true h3
  refine b_get hM (hW.at_ (g1 + 8)) 2 7 h3 rfl rfl (by decide) wi_X3 (wgm fk_RX2_178) (x := .int (gI (S (g1 + 8)) 7)) rfl dX2_readCopy_8 ?_
  refine lv_bipush (v := (8 : Int32)) hx hb dX2_readCopy_11 (by decide) ?_
  refine lv_icmp_ge (tgt := 20) hx hb dX2_readCopy_13 (by decide) (fun c4 => ?_) (fun c4 => ?_)
  · have hf := if_t c4 hf
    refine lv_iconst (v := (0 : Int32)) hx hb dX2_readCopy_20 (by decide) ?_
    exact t_X2_readCopy_21 (fu := fu) hM hml hr hlk hf ha hg1 hK0 h2 _ _ hW _ (lv_sub hl [0, 1] rfl)
  · have hf := if_f c4 hf
    refine lv_iconst (v := (1 : Int32)) hx hb dX2_readCopy_16 (by decide) ?_
    refine lv_goto (tgt := 21) hx hb dX2_readCopy_17 (by decide) ?_
    exact t_X2_readCopy_21 (fu := fu) hM hml hr hlk hf ha hg1 hK0 h2 _ _ hW _ (lv_sub hl [0, 1] rfl)
noncomputable def f_X2_readCopy (fu : Nat) (S : ST) (a : Nat) (g1 : Nat) : Option (ST) := f_X2_readCopy_0 fu S a g1
set_option maxHeartbeats 4000000 in
set_option maxRecDepth 100000 in
theorem c_X2_readCopy (l : Launch) (G : GG) (fu : Nat) (S : ST) (a : Nat) (g1 : Nat) {z : ST} (ha : gC (S a) = 2) (hg1 : gC (S g1) = 1) (hf : f_X2_readCopy fu S a g1 = some z) : Ct l yX2_readCopy w_X2_readCopy RM_X2_readCopy G S [.ref a, .ref g1] none z 0 0 := by
  refine Met.ofW (cc := cX2_readCopy) (maxL := 5) (ret := none) (by decide) rfl ?_
  intro p e s m args below meth c s₁ B hml hv
  obtain ⟨rfl, hB, hK, hz⟩ := hv
  have hM : MC G p s m _ c cX2_readCopy w_X2_readCopy RX2 := ⟨B.exec, B.bytes, findClass_of_methodNamed B.named, atoms_spec (ws := w_X2_readCopy) B.pre, hK, hz⟩
  have hW : WB G S s s.heap [] := ⟨hB, va_S.rf⟩
  have hl := lv_entry ([.ref a, .ref g1]) (n := 5) (Nat.le_of_ble_eq_true rfl)
  rw [lg_entry_eq]
  generalize (lg_sl ([.ref a, .ref g1]) ++ List.replicate (5 - (lg_sl ([.ref a, .ref g1])).length) Slot.unset).toArray = ls at hl ⊢
  have hl : lv_has ls 5 [(0, .ref a), (1, .ref g1)] := hl
  exact t_X2_readCopy_0 (fu := fu) hM hml B.returns B.notSynchronized hf ha hg1 (fun _ _ => rfl) _ _ hW _ (lv_sub hl [0, 1] rfl)
abbrev RM_X2_readExpert : Room := { frames := 5, cells := 0, slots := 0, locals := 116 }
abbrev w_X2_readExpert : List Cond := Cond.code yX2_readExpert cX2_readExpert 5 none :: wsL_law0
noncomputable def f_X2_readExpert_17 (fu : Nat)  (S : ST) (a : Nat) (g1 : Nat) (t0 : Nat) (t1 : Int32) : Option (ST) :=
  bd (f_X8_stepOrFail fu (S t0) t1 (5 : Int32)) fun v2 =>
  nm (st S t0 v2) fun Sv2 =>
  bd2 (f_X2_takeNewName fu Sv2 a g1) fun r3 S4 =>
  bd (gR (S4 a) 0) fun q5 =>
  ck (decide (gC (S4 q5) = 8)) <|
  bd (f_X8_need_ fu (S4 q5) 11) fun v8 =>
  nm (st S4 q5 v8) fun Sv8 =>
  bd2 (f_X2_takeSpots fu Sv8 a g1 (4 : Int32)) fun r9 S10 =>
  bd (gR (S10 a) 0) fun q11 =>
  ck (decide (gC (S10 q11) = 8)) <|
  bd (f_X8_need fu (S10 q11) (59 : Int32)) fun v14 =>
  nm (st S10 q11 v14) fun Sv14 =>
  bd (gR (Sv14 a) 0) fun q15 =>
  ck (decide (gC (Sv14 q15) = 8)) <|
  if (gI (Sv14 q15) 7) = 0 then
    (bd (f_X1_addExpert fu (Sv14 g1) r3 r9) fun v19 =>
    nm (st Sv14 g1 v19) fun Sv19 =>
    some Sv19)
  else
    (some Sv14)
set_option maxHeartbeats 4000000 in
set_option maxRecDepth 100000 in
theorem t_X2_readExpert_17 {G : GG} {p : Program} {l : Launch} {e : Env} {s : State} {m : MethodId} {args : Array Value} {below : List Frame} {meth : Method} {c : Code} {S0 : ST} {fu : Nat} {z : ST} {a : Nat} {g1 : Nat}  {S : ST} {t0 : Nat} {t1 : Int32} (hM : MC G p s m args c cX2_readExpert w_X2_readExpert RX2) (hml : c.maxLocals = 5) (hr : meth.sig.returnType = none) (hlk : meth.locks = false)   (hf : f_X2_readExpert_17 fu  S a g1 t0 t1 = some z) : (gC (S a) = 2) → (gC (S g1) = 1) → (∀ b, gC (S0 b) ≠ 0 → gC (S b) = gC (S0 b)) → (gC (S t0) = 8) → ∀ (H : Heap) (locs : List Loc), WB G S s H locs → ∀ (ls : Array Slot), lv_has ls 5 [(0, .ref a), (1, .ref g1)] → W p l e RM_X2_readExpert s m args below meth c H locs 0 0 (QR G below args s none S0 z) (F0 m 17 ls [.int t1, .ref t0]) := by
  intro ha hg1 hK0 ht0 H locs hW ls hl
  have hx := hM.1
  have hb := hM.2.1
  refine lv_iconst (v := (5 : Int32)) hx hb dX2_readExpert_17 (by decide) ?_
  obtain ⟨v2, hr1, hf⟩ := bd_elim hf
  refine s_callNv [.int t1, .int (5 : Int32)] [] hM hml hl.1 hW ht0 rfl (by decide) (Ct_self (c_X8_stepOrFail l G fu _ t0 (S t0) _ _ ht0 hr1)) (cwV 2 hM.2.2.2.1 (gV mk_RX2_91 im_X8_stepOrFail se_X8_stepOrFail it_RX8 cd_X8_stepOrFail) rfl rfl rfl (by decide +kernel) ⟨Nat.le_of_ble_eq_true rfl, Nat.le_of_ble_eq_true rfl⟩) rfl rfl (Nat.le_of_ble_eq_true rfl) ⟨Nat.zero_le _, Nat.zero_le _⟩ dX2_readExpert_18 (fun Sv2 ev2 hk H locs hW => ?_)
  have hf := nm_at ev2 hf
  have ha := keep1 hk ha
  have hg1 := keep1 hk hg1
  have ht0 := keep1 hk ht0
  have hK0 := keep_tr hK0 hk
  refine lv_aload_n hx hb dX2_readExpert_21 rfl (lv_at hl 0 rfl) ?_
  refine lv_aload_n hx hb dX2_readExpert_22 rfl (lv_at hl 1 rfl) ?_
  obtain ⟨r3, S4, hr3, hf⟩ := bd2_elim hf
  refine s_callVl [.ref g1] [] hM hml hl.1 hW ha rfl (by decide) (c_X2_takeNewName l G fu _ a _ ha hg1 hr3) (cwV 1 hM.2.2.2.1 (gV mk_RX2_99 im_X2_takeNewName se_X2_takeNewName it_RX2 cd_X2_takeNewName) rfl rfl rfl (by decide +kernel) ⟨Nat.le_of_ble_eq_true rfl, Nat.le_of_ble_eq_true rfl⟩) rfl rfl (Nat.le_of_ble_eq_true rfl) ⟨Nat.zero_le _, Nat.zero_le _⟩ dX2_readExpert_23 (fun H locs hW hk => ?_)
  have ha := keep1 hk ha
  have hg1 := keep1 hk hg1
  have ht0 := keep1 hk ht0
  have hK0 := keep_tr hK0 hk
  refine lv_lstore_n (lv' := [(2, .long r3), (0, .ref a), (1, .ref g1)]) hx hb dX2_readExpert_26 rfl hl (by decide) rfl (fun ls hl => ?_)
  refine lv_aload_n hx hb dX2_readExpert_27 rfl (lv_at hl 1 rfl) ?_
  obtain ⟨q5, hq5, hf⟩ := bd_elim hf
  refine b_get hM (hW.at_ a) 1 0 ha rfl rfl (by decide) wi_X2 (wgm fk_RX2_9) (x := .ref q5) (by show va_rf _ = _; rw [hq5]; rfl) dX2_readExpert_28 ?_
  obtain ⟨h6, hf⟩ := ck_elim hf
  have h6 := of_decide_eq_true h6
  refine k_word hM hW 11 (by decide) (wgm fk_RX2_205) dX2_readExpert_31 ?_
  obtain ⟨v8, hr7, hf⟩ := bd_elim hf
  refine s_callNv [.ref (kAd G 11)] [] hM hml hl.1 hW h6 rfl (by decide) (Ct_self (c_X8_need_ l G fu _ q5 (S4 q5) _ h6 (by decide) hr7)) (cwV 1 hM.2.2.2.1 (gV mk_RX2_124 im_X8_need_ se_X8_need_ it_RX8 cd_X8_need_) rfl rfl rfl (by decide +kernel) ⟨Nat.le_of_ble_eq_true rfl, Nat.le_of_ble_eq_true rfl⟩) rfl rfl (Nat.le_of_ble_eq_true rfl) ⟨Nat.zero_le _, Nat.zero_le _⟩ dX2_readExpert_34 (fun Sv8 ev8 hk H locs hW => ?_)
  have hf := nm_at ev8 hf
  have ha := keep1 hk ha
  have hg1 := keep1 hk hg1
  have ht0 := keep1 hk ht0
  have h6 := keep1 hk h6
  have hK0 := keep_tr hK0 hk
  refine lv_aload_n hx hb dX2_readExpert_37 rfl (lv_at hl 1 rfl) ?_
  refine lv_aload_n hx hb dX2_readExpert_38 rfl (lv_at hl 2 rfl) ?_
  refine lv_iconst (v := (4 : Int32)) hx hb dX2_readExpert_39 (by decide) ?_
  obtain ⟨r9, S10, hr9, hf⟩ := bd2_elim hf
  refine s_callVi [.ref g1, .int (4 : Int32)] [] hM hml hl.1 hW ha rfl (by decide) (c_X2_takeSpots l G fu _ a _ _ ha hg1 hr9) (cwV 2 hM.2.2.2.1 (gV mk_RX2_189 im_X2_takeSpots se_X2_takeSpots it_RX2 cd_X2_takeSpots) rfl rfl rfl (by decide +kernel) ⟨Nat.le_of_ble_eq_true rfl, Nat.le_of_ble_eq_true rfl⟩) rfl rfl (Nat.le_of_ble_eq_true rfl) ⟨Nat.zero_le _, Nat.zero_le _⟩ dX2_readExpert_40 (fun H locs hW hk => ?_)
  have ha := keep1 hk ha
  have hg1 := keep1 hk hg1
  have ht0 := keep1 hk ht0
  have h6 := keep1 hk h6
  have hK0 := keep_tr hK0 hk
  refine lv_istore (lv' := [(4, .int r9), (2, .long r3), (0, .ref a), (1, .ref g1)]) hx hb dX2_readExpert_43 hl (by decide) rfl (fun ls hl => ?_)
  refine lv_aload_n hx hb dX2_readExpert_45 rfl (lv_at hl 2 rfl) ?_
  obtain ⟨q11, hq11, hf⟩ := bd_elim hf
  refine b_get hM (hW.at_ a) 1 0 ha rfl rfl (by decide) wi_X2 (wgm fk_RX2_9) (x := .ref q11) (by show va_rf _ = _; rw [hq11]; rfl) dX2_readExpert_46 ?_
  obtain ⟨h12, hf⟩ := ck_elim hf
  have h12 := of_decide_eq_true h12
  refine lv_bipush (v := (59 : Int32)) hx hb dX2_readExpert_49 (by decide) ?_
  obtain ⟨v14, hr13, hf⟩ := bd_elim hf
  refine s_callNv [.int (59 : Int32)] [] hM hml hl.1 hW h12 rfl (by decide) (Ct_self (c_X8_need l G fu _ q11 (S10 q11) _ h12 hr13)) (cwV 1 hM.2.2.2.1 (gV mk_RX2_103 im_X8_need se_X8_need it_RX8 cd_X8_need) rfl rfl rfl (by decide +kernel) ⟨Nat.le_of_ble_eq_true rfl, Nat.le_of_ble_eq_true rfl⟩) rfl rfl (Nat.le_of_ble_eq_true rfl) ⟨Nat.zero_le _, Nat.zero_le _⟩ dX2_readExpert_51 (fun Sv14 ev14 hk H locs hW => ?_)
  have hf := nm_at ev14 hf
  have ha := keep1 hk ha
  have hg1 := keep1 hk hg1
  have ht0 := keep1 hk ht0
  have h6 := keep1 hk h6
  have h12 := keep1 hk h12
  have hK0 := keep_tr hK0 hk
  refine lv_aload_n hx hb dX2_readExpert_54 rfl (lv_at hl 2 rfl) ?_
  obtain ⟨q15, hq15, hf⟩ := bd_elim hf
  refine b_get hM (hW.at_ a) 1 0 ha rfl rfl (by decide) wi_X2 (wgm fk_RX2_9) (x := .ref q15) (by show va_rf _ = _; rw [hq15]; rfl) dX2_readExpert_55 ?_
  obtain ⟨h16, hf⟩ := ck_elim hf
  have h16 := of_decide_eq_true h16
  refine b_get hM (hW.at_ q15) 7 7 h16 rfl rfl (by decide) wi_X8 (wgm fk_RX2_107) (x := .int (gI (Sv14 q15) 7)) rfl dX2_readExpert_58 ?_
  refine lv_if_ne (tgt := 71) hx hb dX2_readExpert_61 (by decide) (fun c17 => ?_) (fun c17 => ?_)
  · have hf := if_f c17 hf
    cases hf
    exact W.vret hx hb hr (b_ret0 hW hK0 _) hW.2.2.2 dX2_readExpert_71 hlk
  · have hf := if_t c17 hf
    refine lv_aload_n hx hb dX2_readExpert_64 rfl (lv_at hl 3 rfl) ?_
    refine lv_lload_n hx hb dX2_readExpert_65 rfl (lv_at hl 1 rfl) ?_
    refine lv_iload hx hb dX2_readExpert_66 (lv_at hl 0 rfl) ?_
    obtain ⟨v19, hr18, hf⟩ := bd_elim hf
    refine s_callNv [.long r3, .int r9] [] hM hml hl.1 hW hg1 rfl (by decide) (Ct_self (c_X1_addExpert l G fu _ g1 (Sv14 g1) _ _ hg1 hr18)) (cwV 2 hM.2.2.2.1 (gV mk_RX2_208 im_X1_addExpert se_X1_addExpert it_RX1 cd_X1_addExpert) rfl rfl rfl (by decide +kernel) ⟨Nat.le_of_ble_eq_true rfl, Nat.le_of_ble_eq_true rfl⟩) rfl rfl (Nat.le_of_ble_eq_true rfl) ⟨Nat.zero_le _, Nat.zero_le _⟩ dX2_readExpert_68 (fun Sv19 ev19 hk H locs hW => ?_)
    have hf := nm_at ev19 hf
    have ha := keep1 hk ha
    have hg1 := keep1 hk hg1
    have ht0 := keep1 hk ht0
    have h6 := keep1 hk h6
    have h12 := keep1 hk h12
    have h16 := keep1 hk h16
    have hK0 := keep_tr hK0 hk
    cases hf
    exact W.vret hx hb hr (b_ret0 hW hK0 _) hW.2.2.2 dX2_readExpert_71 hlk
noncomputable def f_X2_readExpert_0 (fu : Nat)  (S : ST) (a : Nat) (g1 : Nat) : Option (ST) :=
  bd (gR (S a) 0) fun q1 =>
  ck (decide (gC (S q1) = 8)) <|
  if (4 : Int32) ≤ (gI (S g1) 10) then
    (f_X2_readExpert_17 fu S a g1 q1 (0 : Int32))
  else
    (f_X2_readExpert_17 fu S a g1 q1 (1 : Int32))
set_option maxHeartbeats 4000000 in
set_option maxRecDepth 100000 in
theorem t_X2_readExpert_0 {G : GG} {p : Program} {l : Launch} {e : Env} {s : State} {m : MethodId} {args : Array Value} {below : List Frame} {meth : Method} {c : Code} {S0 : ST} {fu : Nat} {z : ST} {a : Nat} {g1 : Nat}  {S : ST} (hM : MC G p s m args c cX2_readExpert w_X2_readExpert RX2) (hml : c.maxLocals = 5) (hr : meth.sig.returnType = none) (hlk : meth.locks = false)   (hf : f_X2_readExpert_0 fu  S a g1  = some z) : (gC (S a) = 2) → (gC (S g1) = 1) → (∀ b, gC (S0 b) ≠ 0 → gC (S b) = gC (S0 b)) → ∀ (H : Heap) (locs : List Loc), WB G S s H locs → ∀ (ls : Array Slot), lv_has ls 5 [(0, .ref a), (1, .ref g1)] → W p l e RM_X2_readExpert s m args below meth c H locs 0 0 (QR G below args s none S0 z) (F0 m 0 ls []) := by
  intro ha hg1 hK0 H locs hW ls hl
  have hx := hM.1
  have hb := hM.2.1
  refine lv_aload_n hx hb dX2_readExpert_0 rfl (lv_at hl 0 rfl) ?_
  obtain ⟨q1, hq1, hf⟩ := bd_elim hf
  refine b_get hM (hW.at_ a) 1 0 ha rfl rfl (by decide) wi_X2 (wgm fk_RX2_9) (x := .ref q1) (by show va_rf _ = _; rw [hq1]; rfl) dX2_readExpert_1 ?_
  obtain ⟨h2, hf⟩ := ck_elim hf
  have h2 := of_decide_eq_true h2
  refine lv_aload_n hx hb dX2_readExpert_4 rfl (lv_at hl 1 rfl) ?_
  refine b_get hM (hW.at_ g1) 0 10 hg1 rfl rfl (by decide) wi_X1 (wgm fk_RX2_202) (x := .int (gI (S g1) 10)) rfl dX2_readExpert_5 ?_
  refine lv_iconst (v := (4 : Int32)) hx hb dX2_readExpert_8 (by decide) ?_
  refine lv_icmp_ge (tgt := 16) hx hb dX2_readExpert_9 (by decide) (fun c3 => ?_) (fun c3 => ?_)
  · have hf := if_t c3 hf
    refine lv_iconst (v := (0 : Int32)) hx hb dX2_readExpert_16 (by decide) ?_
    exact t_X2_readExpert_17 (fu := fu) hM hml hr hlk hf ha hg1 hK0 h2 _ _ hW _ (lv_sub hl [0, 1] rfl)
  · have hf := if_f c3 hf
    refine lv_iconst (v := (1 : Int32)) hx hb dX2_readExpert_12 (by decide) ?_
    refine lv_goto (tgt := 17) hx hb dX2_readExpert_13 (by decide) ?_
    exact t_X2_readExpert_17 (fu := fu) hM hml hr hlk hf ha hg1 hK0 h2 _ _ hW _ (lv_sub hl [0, 1] rfl)
noncomputable def f_X2_readExpert (fu : Nat) (S : ST) (a : Nat) (g1 : Nat) : Option (ST) := f_X2_readExpert_0 fu S a g1
set_option maxHeartbeats 4000000 in
set_option maxRecDepth 100000 in
theorem c_X2_readExpert (l : Launch) (G : GG) (fu : Nat) (S : ST) (a : Nat) (g1 : Nat) {z : ST} (ha : gC (S a) = 2) (hg1 : gC (S g1) = 1) (hf : f_X2_readExpert fu S a g1 = some z) : Ct l yX2_readExpert w_X2_readExpert RM_X2_readExpert G S [.ref a, .ref g1] none z 0 0 := by
  refine Met.ofW (cc := cX2_readExpert) (maxL := 5) (ret := none) (by decide) rfl ?_
  intro p e s m args below meth c s₁ B hml hv
  obtain ⟨rfl, hB, hK, hz⟩ := hv
  have hM : MC G p s m _ c cX2_readExpert w_X2_readExpert RX2 := ⟨B.exec, B.bytes, findClass_of_methodNamed B.named, atoms_spec (ws := w_X2_readExpert) B.pre, hK, hz⟩
  have hW : WB G S s s.heap [] := ⟨hB, va_S.rf⟩
  have hl := lv_entry ([.ref a, .ref g1]) (n := 5) (Nat.le_of_ble_eq_true rfl)
  rw [lg_entry_eq]
  generalize (lg_sl ([.ref a, .ref g1]) ++ List.replicate (5 - (lg_sl ([.ref a, .ref g1])).length) Slot.unset).toArray = ls at hl ⊢
  have hl : lv_has ls 5 [(0, .ref a), (1, .ref g1)] := hl
  exact t_X2_readExpert_0 (fu := fu) hM hml B.returns B.notSynchronized hf ha hg1 (fun _ _ => rfl) _ _ hW _ (lv_sub hl [0, 1] rfl)
