abbrev RM_X12_look : Room := { frames := 1, cells := 0, slots := 0, locals := 21 }
abbrev w_X12_look : List Cond := Cond.code yX12_look cX12_look 3 (some .boolean) :: wsL_law0
noncomputable def f_X12_look_75 (fu : Nat)  (S : ST) (a : Nat) : Option (Int32 × ST) :=
  some ((1 : Int32), S)
set_option maxHeartbeats 4000000 in
set_option maxRecDepth 100000 in
theorem t_X12_look_75 {G : GG} {p : Program} {l : Launch} {e : Env} {s : State} {m : MethodId} {args : Array Value} {below : List Frame} {meth : Method} {c : Code} {S0 : ST} {fu : Nat} {z : Int32 × ST} {a : Nat}  {S : ST} (hM : MC G p s m args c cX12_look w_X12_look RX12) (hml : c.maxLocals = 3) (hr : meth.sig.returnType = (some .boolean)) (hlk : meth.locks = false)   (hf : f_X12_look_75 fu  S a  = some z) : (gC (S a) = 11) → (∀ b, gC (S0 b) ≠ 0 → gC (S b) = gC (S0 b)) → ∀ (H : Heap) (locs : List Loc), WB G S s H locs → ∀ (ls : Array Slot), lv_has ls 3 [] → W p l e RM_X12_look s m args below meth c H locs 0 0 (QR G below args s (some (.int z.1)) S0 z.2) (F0 m 75 ls []) := by
  intro ha hK0 H locs hW ls hl
  have hx := hM.1
  have hb := hM.2.1
  refine lv_iconst (v := (1 : Int32)) hx hb dX12_look_75 (by decide) ?_
  cases hf
  exact W.zret (v := (1 : Int32)) hx hb hr (by decide) (b_ret0 hW hK0 _) hW.2.2.2 dX12_look_76 hlk
noncomputable def f_X12_look_23 (fu : Nat)  (S : ST) (a : Nat) : Option (Int32 × ST) :=
  some ((0 : Int32), S)
set_option maxHeartbeats 4000000 in
set_option maxRecDepth 100000 in
theorem t_X12_look_23 {G : GG} {p : Program} {l : Launch} {e : Env} {s : State} {m : MethodId} {args : Array Value} {below : List Frame} {meth : Method} {c : Code} {S0 : ST} {fu : Nat} {z : Int32 × ST} {a : Nat}  {S : ST} (hM : MC G p s m args c cX12_look w_X12_look RX12) (hml : c.maxLocals = 3) (hr : meth.sig.returnType = (some .boolean)) (hlk : meth.locks = false)   (hf : f_X12_look_23 fu  S a  = some z) : (gC (S a) = 11) → (∀ b, gC (S0 b) ≠ 0 → gC (S b) = gC (S0 b)) → ∀ (H : Heap) (locs : List Loc), WB G S s H locs → ∀ (ls : Array Slot), lv_has ls 3 [] → W p l e RM_X12_look s m args below meth c H locs 0 0 (QR G below args s (some (.int z.1)) S0 z.2) (F0 m 23 ls []) := by
  intro ha hK0 H locs hW ls hl
  have hx := hM.1
  have hb := hM.2.1
  refine lv_iconst (v := (0 : Int32)) hx hb dX12_look_23 (by decide) ?_
  cases hf
  exact W.zret (v := (0 : Int32)) hx hb hr (by decide) (b_ret0 hW hK0 _) hW.2.2.2 dX12_look_24 hlk
noncomputable def f_X12_look_0 (fu : Nat)  (S : ST) (a : Nat) (x1 : Int32) (x2 : Int32) : Option (Int32 × ST) :=
  bd (gR (S a) 12) fun q1 =>
  ck (decide (gC (S q1) = 1)) <|
  bd (f_X1_hasSpot fu (S q1) x1) fun r3 =>
  if r3 = 0 then
    (f_X12_look_23 fu S a)
  else
    (ck (decide (gC (S (a + 9)) = 3)) <|
    if (gI (S (a + 9)) 10) < (8 : Int32) then
      (nm (st S (a + 9) (sI (S (a + 9)) 10 ((gI (S (a + 9)) 10) + (1 : Int32)))) fun S7 =>
      if x2 = 0 then
        (nm (st S7 (a + 9) (sI (S7 (a + 9)) 12 ((gI (S7 (a + 9)) 12) ||| ((1 : Int32) <<< (x1 &&& 31))))) fun S9 =>
        f_X12_look_75 fu S9 a)
      else
        (nm (st S7 (a + 9) (sI (S7 (a + 9)) 11 ((gI (S7 (a + 9)) 11) ||| ((1 : Int32) <<< (x1 &&& 31))))) fun S10 =>
        f_X12_look_75 fu S10 a))
    else
      (f_X12_look_23 fu S a))
set_option maxHeartbeats 4000000 in
set_option maxRecDepth 100000 in
theorem t_X12_look_0 {G : GG} {p : Program} {l : Launch} {e : Env} {s : State} {m : MethodId} {args : Array Value} {below : List Frame} {meth : Method} {c : Code} {S0 : ST} {fu : Nat} {z : Int32 × ST} {a : Nat}  {S : ST} {x1 : Int32} {x2 : Int32} (hM : MC G p s m args c cX12_look w_X12_look RX12) (hml : c.maxLocals = 3) (hr : meth.sig.returnType = (some .boolean)) (hlk : meth.locks = false)   (hf : f_X12_look_0 fu  S a x1 x2 = some z) : (gC (S a) = 11) → (∀ b, gC (S0 b) ≠ 0 → gC (S b) = gC (S0 b)) → ∀ (H : Heap) (locs : List Loc), WB G S s H locs → ∀ (ls : Array Slot), lv_has ls 3 [(0, .ref a), (1, .int x1), (2, .int x2)] → W p l e RM_X12_look s m args below meth c H locs 0 0 (QR G below args s (some (.int z.1)) S0 z.2) (F0 m 0 ls []) := by
  intro ha hK0 H locs hW ls hl
  have hx := hM.1
  have hb := hM.2.1
  refine lv_aload_n hx hb dX12_look_0 rfl (lv_at hl 0 rfl) ?_
  obtain ⟨q1, hq1, hf⟩ := bd_elim hf
  refine b_get hM (hW.at_ a) 10 12 ha rfl rfl (by decide) wi_X12 (wgm fk_RX12_76) (x := .ref q1) (by show va_rf _ = _; rw [hq1]; rfl) dX12_look_1 ?_
  obtain ⟨h2, hf⟩ := ck_elim hf
  have h2 := of_decide_eq_true h2
  refine lv_iload_n hx hb dX12_look_4 rfl (lv_at hl 1 rfl) ?_
  obtain ⟨r3, hr3, hf⟩ := bd_elim hf
  refine s_callVi [.int x1] [] hM hml hl.1 hW h2 rfl (by decide) (Ct_rd (c_X1_hasSpot l G fu _ q1 (S q1) _ h2 hr3)) (cwV 1 hM.2.2.2.1 (gV mk_RX12_273 im_X1_hasSpot se_X1_hasSpot it_RX1 cd_X1_hasSpot) rfl rfl rfl (by decide +kernel) ⟨Nat.le_of_ble_eq_true rfl, Nat.le_of_ble_eq_true rfl⟩) rfl rfl (Nat.le_of_ble_eq_true rfl) ⟨Nat.zero_le _, Nat.zero_le _⟩ dX12_look_5 (fun H locs hW hk => ?_)
  refine lv_if_eq (tgt := 23) hx hb dX12_look_8 (by decide) (fun c4 => ?_) (fun c4 => ?_)
  · have hf := if_t c4 hf
    exact t_X12_look_23 (fu := fu) hM hml hr hlk hf ha hK0 _ _ hW _ (lv_sub hl [] rfl)
  · have hf := if_f c4 hf
    refine lv_aload_n hx hb dX12_look_11 rfl (lv_at hl 0 rfl) ?_
    refine b_get hM (hW.at_ a) 10 2 ha rfl rfl (by decide) wi_X12 (wgm fk_RX12_28) (x := .ref (a + 9)) rfl dX12_look_12 ?_
    obtain ⟨h5, hf⟩ := ck_elim hf
    have h5 := of_decide_eq_true h5
    refine b_get hM (hW.at_ (a + 9)) 2 10 h5 rfl rfl (by decide) wi_X3 (wgm fk_RX12_198) (x := .int (gI (S (a + 9)) 10)) rfl dX12_look_15 ?_
    refine lv_bipush (v := (8 : Int32)) hx hb dX12_look_18 (by decide) ?_
    refine lv_icmp_lt (tgt := 25) hx hb dX12_look_20 (by decide) (fun c6 => ?_) (fun c6 => ?_)
    · have hf := if_t c6 hf
      refine lv_aload_n hx hb dX12_look_25 rfl (lv_at hl 0 rfl) ?_
      refine b_get hM (hW.at_ a) 10 2 ha rfl rfl (by decide) wi_X12 (wgm fk_RX12_28) (x := .ref (a + 9)) rfl dX12_look_26 ?_
      refine lv_dup hx hb dX12_look_29 rfl ?_
      refine b_get hM (hW.at_ (a + 9)) 2 10 h5 rfl rfl (by decide) wi_X3 (wgm fk_RX12_198) (x := .int (gI (S (a + 9)) 10)) rfl dX12_look_30 ?_
      refine lv_iconst (v := (1 : Int32)) hx hb dX12_look_33 (by decide) ?_
      refine lv_iadd hx hb dX12_look_34 ?_
      refine s_putI hM hW 2 10 h5 rfl rfl (by decide) wi_X3 tyX3 tyX3_ok nmX3 (wgm fk_RX12_198) rfl rfl rfl dX12_look_35 (fun S7 eS7 hk H locs hW => ?_)
      have hf := nm_at eS7 hf
      have ha := keep1 hk ha
      have h2 := keep1 hk h2
      have h5 := keep1 hk h5
      have hK0 := keep_tr hK0 hk
      refine lv_iload_n hx hb dX12_look_38 rfl (lv_at hl 2 rfl) ?_
      refine lv_if_eq (tgt := 60) hx hb dX12_look_39 (by decide) (fun c8 => ?_) (fun c8 => ?_)
      · have hf := if_t c8 hf
        refine lv_aload_n hx hb dX12_look_60 rfl (lv_at hl 0 rfl) ?_
        refine b_get hM (hW.at_ a) 10 2 ha rfl rfl (by decide) wi_X12 (wgm fk_RX12_28) (x := .ref (a + 9)) rfl dX12_look_61 ?_
        refine lv_dup hx hb dX12_look_64 rfl ?_
        refine b_get hM (hW.at_ (a + 9)) 2 12 h5 rfl rfl (by decide) wi_X3 (wgm fk_RX12_279) (x := .int (gI (S7 (a + 9)) 12)) rfl dX12_look_65 ?_
        refine lv_iconst (v := (1 : Int32)) hx hb dX12_look_68 (by decide) ?_
        refine lv_iload_n hx hb dX12_look_69 rfl (lv_at hl 1 rfl) ?_
        refine lv_ishl hx hb dX12_look_70 ?_
        refine lv_ior hx hb dX12_look_71 ?_
        refine s_putI hM hW 2 12 h5 rfl rfl (by decide) wi_X3 tyX3 tyX3_ok nmX3 (wgm fk_RX12_279) rfl rfl rfl dX12_look_72 (fun S9 eS9 hk H locs hW => ?_)
        have hf := nm_at eS9 hf
        have ha := keep1 hk ha
        have h2 := keep1 hk h2
        have h5 := keep1 hk h5
        have hK0 := keep_tr hK0 hk
        exact t_X12_look_75 (fu := fu) hM hml hr hlk hf ha hK0 _ _ hW _ (lv_sub hl [] rfl)
      · have hf := if_f c8 hf
        refine lv_aload_n hx hb dX12_look_42 rfl (lv_at hl 0 rfl) ?_
        refine b_get hM (hW.at_ a) 10 2 ha rfl rfl (by decide) wi_X12 (wgm fk_RX12_28) (x := .ref (a + 9)) rfl dX12_look_43 ?_
        refine lv_dup hx hb dX12_look_46 rfl ?_
        refine b_get hM (hW.at_ (a + 9)) 2 11 h5 rfl rfl (by decide) wi_X3 (wgm fk_RX12_276) (x := .int (gI (S7 (a + 9)) 11)) rfl dX12_look_47 ?_
        refine lv_iconst (v := (1 : Int32)) hx hb dX12_look_50 (by decide) ?_
        refine lv_iload_n hx hb dX12_look_51 rfl (lv_at hl 1 rfl) ?_
        refine lv_ishl hx hb dX12_look_52 ?_
        refine lv_ior hx hb dX12_look_53 ?_
        refine s_putI hM hW 2 11 h5 rfl rfl (by decide) wi_X3 tyX3 tyX3_ok nmX3 (wgm fk_RX12_276) rfl rfl rfl dX12_look_54 (fun S10 eS10 hk H locs hW => ?_)
        have hf := nm_at eS10 hf
        have ha := keep1 hk ha
        have h2 := keep1 hk h2
        have h5 := keep1 hk h5
        have hK0 := keep_tr hK0 hk
        refine lv_goto (tgt := 75) hx hb dX12_look_57 (by decide) ?_
        exact t_X12_look_75 (fu := fu) hM hml hr hlk hf ha hK0 _ _ hW _ (lv_sub hl [] rfl)
    · have hf := if_f c6 hf
      exact t_X12_look_23 (fu := fu) hM hml hr hlk hf ha hK0 _ _ hW _ (lv_sub hl [] rfl)
noncomputable def f_X12_look (fu : Nat) (S : ST) (a : Nat) (x1 : Int32) (x2 : Int32) : Option (Int32 × ST) := f_X12_look_0 fu S a x1 x2
set_option maxHeartbeats 4000000 in
set_option maxRecDepth 100000 in
theorem c_X12_look (l : Launch) (G : GG) (fu : Nat) (S : ST) (a : Nat) (x1 : Int32) (x2 : Int32) {z : Int32} {w : ST} (ha : gC (S a) = 11) (hf : f_X12_look fu S a x1 x2 = some (z, w)) : Ct l yX12_look w_X12_look RM_X12_look G S [.ref a, .int x1, .int x2] (some (.int z)) w 0 0 := by
  refine Met.ofW (cc := cX12_look) (maxL := 3) (ret := (some .boolean)) (by decide) rfl ?_
  intro p e s m args below meth c s₁ B hml hv
  obtain ⟨rfl, hB, hK, hz⟩ := hv
  have hM : MC G p s m _ c cX12_look w_X12_look RX12 := ⟨B.exec, B.bytes, findClass_of_methodNamed B.named, atoms_spec (ws := w_X12_look) B.pre, hK, hz⟩
  have hW : WB G S s s.heap [] := ⟨hB, va_S.rf⟩
  have hl := lv_entry ([.ref a, .int x1, .int x2]) (n := 3) (Nat.le_of_ble_eq_true rfl)
  rw [lg_entry_eq]
  generalize (lg_sl ([.ref a, .int x1, .int x2]) ++ List.replicate (3 - (lg_sl ([.ref a, .int x1, .int x2])).length) Slot.unset).toArray = ls at hl ⊢
  have hl : lv_has ls 3 [(0, .ref a), (1, .int x1), (2, .int x2)] := hl
  exact t_X12_look_0 (fu := fu) hM hml B.returns B.notSynchronized hf ha (fun _ _ => rfl) _ _ hW _ (lv_sub hl [0, 1, 2] rfl)
abbrev RM_X12_fits : Room := { frames := 1, cells := 0, slots := 0, locals := 22 }
abbrev w_X12_fits : List Cond := Cond.code yX12_fits cX12_fits 3 (some .int) :: wsL_law0
noncomputable def f_X12_fits_32 (fu : Nat) (k4 : Int32 → Int32 → Option (Int32)) (S : ST) (a : Nat) (x1 : Int32) (x2 : Int32) : Option (Int32) :=
  nm (x2 + (1 : Int32)) fun y1 =>
  k4 x1 y1
set_option maxHeartbeats 4000000 in
set_option maxRecDepth 100000 in
theorem t_X12_fits_32 {G : GG} {p : Program} {l : Launch} {e : Env} {s : State} {m : MethodId} {args : Array Value} {below : List Frame} {meth : Method} {c : Code} {S : ST} {fu : Nat} {z : Int32} {a : Nat} {k4 : Int32 → Int32 → Option (Int32)} {x1 : Int32} {x2 : Int32} (hM : MC G p s m args c cX12_fits w_X12_fits RX12) (hml : c.maxLocals = 3) (hr : meth.sig.returnType = (some .int)) (hlk : meth.locks = false) (ha : gC (S a) = 11) (hk4 : ∀ (x1 : Int32) (x2 : Int32), k4 x1 x2 = some z → ∀ (H : Heap) (locs : List Loc), WB G S s H locs → ∀ (ls : Array Slot), lv_has ls 3 [(0, .ref a), (1, .int x1), (2, .int x2)] → W p l e RM_X12_fits s m args below meth c H locs 0 0 (QR G below args s (some (.int z)) S S) (F0 m 4 ls [])) (hf : f_X12_fits_32 fu k4 S a x1 x2 = some z) : ∀ (H : Heap) (locs : List Loc), WB G S s H locs → ∀ (ls : Array Slot), lv_has ls 3 [(0, .ref a), (1, .int x1), (2, .int x2)] → W p l e RM_X12_fits s m args below meth c H locs 0 0 (QR G below args s (some (.int z)) S S) (F0 m 32 ls []) := by
  intro  H locs hW ls hl
  have hx := hM.1
  have hb := hM.2.1
  obtain ⟨y1, ey1⟩ : ∃ y : Int32, y = x2 + (1 : Int32) := ⟨_, rfl⟩
  have hf := nm_at ey1 hf
  refine lv_iinc (v := y1) (lv' := [(2, .int y1), (0, .ref a), (1, .int x1)]) hx hb dX12_fits_32 hl (k := 2) rfl (by rw [ey1]; rfl) (by decide) rfl (fun ls hl => ?_)
  refine lv_goto (tgt := 4) hx hb dX12_fits_35 (by decide) ?_
  exact hk4 _ _ hf _ _ hW _ (lv_sub hl [1, 2, 0] rfl)
noncomputable def f_X12_fits_4s (fu : Nat)  (k4 : Int32 → Int32 → Option (Int32)) (S : ST) (a : Nat) (x1 : Int32) (x2 : Int32) : Option (Int32) :=
  ck (decide (gC (S (a + 9)) = 3)) <|
  if (gI (S (a + 9)) 7) ≤ x2 then
    (some (x1))
  else
    (bd (f_X3_isFitting fu (S (a + 9)) x2) fun r3 =>
    if r3 = 0 then
      (f_X12_fits_32 fu k4 S a x1 x2)
    else
      (nm ((x1 ||| ((1 : Int32) <<< (x2 &&& 31)))) fun y5 =>
      f_X12_fits_32 fu k4 S a y5 x2))
noncomputable def f_X12_fits_4 (fu n : Nat)  (S : ST) (a : Nat) : Int32 → Int32 → Option (Int32) :=
  lq_2 (fun k4 => f_X12_fits_4s fu  k4 S a) n
set_option maxHeartbeats 4000000 in
set_option maxRecDepth 100000 in
theorem t_X12_fits_4s {G : GG} {p : Program} {l : Launch} {e : Env} {s : State} {m : MethodId} {args : Array Value} {below : List Frame} {meth : Method} {c : Code} {S : ST} {fu : Nat} {z : Int32} {a : Nat}  {k4 : Int32 → Int32 → Option (Int32)} (hM : MC G p s m args c cX12_fits w_X12_fits RX12) (hml : c.maxLocals = 3) (hr : meth.sig.returnType = (some .int)) (hlk : meth.locks = false) (ha : gC (S a) = 11)  (hk4 : ∀ (x1 : Int32) (x2 : Int32), k4 x1 x2 = some z → ∀ (H : Heap) (locs : List Loc), WB G S s H locs → ∀ (ls : Array Slot), lv_has ls 3 [(0, .ref a), (1, .int x1), (2, .int x2)] → W p l e RM_X12_fits s m args below meth c H locs 0 0 (QR G below args s (some (.int z)) S S) (F0 m 4 ls [])) : ∀ (x1 : Int32) (x2 : Int32), f_X12_fits_4s fu  k4 S a x1 x2 = some z → ∀ (H : Heap) (locs : List Loc), WB G S s H locs → ∀ (ls : Array Slot), lv_has ls 3 [(0, .ref a), (1, .int x1), (2, .int x2)] → W p l e RM_X12_fits s m args below meth c H locs 0 0 (QR G below args s (some (.int z)) S S) (F0 m 4 ls []) := by
  intro x1 x2 hf  H locs hW ls hl
  have hx := hM.1
  have hb := hM.2.1
  refine lv_iload_n hx hb dX12_fits_4 rfl (lv_at hl 2 rfl) ?_
  refine lv_aload_n hx hb dX12_fits_5 rfl (lv_at hl 0 rfl) ?_
  refine b_get hM (hW.at_ a) 10 2 ha rfl rfl (by decide) wi_X12 (wgm fk_RX12_28) (x := .ref (a + 9)) rfl dX12_fits_6 ?_
  obtain ⟨h1, hf⟩ := ck_elim hf
  have h1 := of_decide_eq_true h1
  refine b_get hM (hW.at_ (a + 9)) 2 7 h1 rfl rfl (by decide) wi_X3 (wgm fk_RX12_176) (x := .int (gI (S (a + 9)) 7)) rfl dX12_fits_9 ?_
  refine lv_icmp_ge (tgt := 38) hx hb dX12_fits_12 (by decide) (fun c2 => ?_) (fun c2 => ?_)
  · have hf := if_t c2 hf
    refine lv_iload_n hx hb dX12_fits_38 rfl (lv_at hl 1 rfl) ?_
    cases hf
    exact W.iret hx hb hr (b_ret0 hW (fun _ _ => rfl) _) hW.2.2.2 dX12_fits_39 hlk
  · have hf := if_f c2 hf
    refine lv_aload_n hx hb dX12_fits_15 rfl (lv_at hl 0 rfl) ?_
    refine b_get hM (hW.at_ a) 10 2 ha rfl rfl (by decide) wi_X12 (wgm fk_RX12_28) (x := .ref (a + 9)) rfl dX12_fits_16 ?_
    refine lv_iload_n hx hb dX12_fits_19 rfl (lv_at hl 2 rfl) ?_
    obtain ⟨r3, hr3, hf⟩ := bd_elim hf
    refine s_callVi [.int x2] [] hM hml hl.1 hW h1 rfl (by decide) (Ct_rd (c_X3_isFitting l G fu _ (a + 9) (S (a + 9)) _ h1 hr3)) (cwV 1 hM.2.2.2.1 (gV mk_RX12_282 im_X3_isFitting se_X3_isFitting it_RX3 cd_X3_isFitting) rfl rfl rfl (by decide +kernel) ⟨Nat.le_of_ble_eq_true rfl, Nat.le_of_ble_eq_true rfl⟩) rfl rfl (Nat.le_of_ble_eq_true rfl) ⟨Nat.zero_le _, Nat.zero_le _⟩ dX12_fits_20 (fun H locs hW hk => ?_)
    refine lv_if_eq (tgt := 32) hx hb dX12_fits_23 (by decide) (fun c4 => ?_) (fun c4 => ?_)
    · have hf := if_t c4 hf
      exact t_X12_fits_32 (fu := fu) hM hml hr hlk ha hk4 hf _ _ hW _ (lv_sub hl [0, 1, 2] rfl)
    · have hf := if_f c4 hf
      refine lv_iload_n hx hb dX12_fits_26 rfl (lv_at hl 1 rfl) ?_
      refine lv_iconst (v := (1 : Int32)) hx hb dX12_fits_27 (by decide) ?_
      refine lv_iload_n hx hb dX12_fits_28 rfl (lv_at hl 2 rfl) ?_
      refine lv_ishl hx hb dX12_fits_29 ?_
      refine lv_ior hx hb dX12_fits_30 ?_
      refine lv_topi (fun y5 ey5 => ?_)
      have hf := nm_at ey5 hf
      refine lv_istore_n (lv' := [(1, .int y5), (0, .ref a), (2, .int x2)]) hx hb dX12_fits_31 rfl hl (by decide) rfl (fun ls hl => ?_)
      exact t_X12_fits_32 (fu := fu) hM hml hr hlk ha hk4 hf _ _ hW _ (lv_sub hl [1, 0, 2] rfl)
theorem t_X12_fits_4 {G : GG} {p : Program} {l : Launch} {e : Env} {s : State} {m : MethodId} {args : Array Value} {below : List Frame} {meth : Method} {c : Code} {S : ST} {fu : Nat} {z : Int32} {a : Nat}  (hM : MC G p s m args c cX12_fits w_X12_fits RX12) (hml : c.maxLocals = 3) (hr : meth.sig.returnType = (some .int)) (hlk : meth.locks = false) (ha : gC (S a) = 11)  : ∀ {n : Nat} (x1 : Int32) (x2 : Int32), f_X12_fits_4 fu n  S a x1 x2 = some z → ∀ (H : Heap) (locs : List Loc), WB G S s H locs → ∀ (ls : Array Slot), lv_has ls 3 [(0, .ref a), (1, .int x1), (2, .int x2)] → W p l e RM_X12_fits s m args below meth c H locs 0 0 (QR G below args s (some (.int z)) S S) (F0 m 4 ls []) := by
  intro n
  induction n with
  | zero => intro x1 x2 hf; cases hf
  | succ n ih => intro x1 x2 hf; exact t_X12_fits_4s (fu := fu) hM hml hr hlk ha (k4 := f_X12_fits_4 fu n  S a) ih _ _ hf
noncomputable def f_X12_fits_0 (fu : Nat)  (S : ST) (a : Nat) : Option (Int32) :=
  f_X12_fits_4 fu fu S a (0 : Int32) (0 : Int32)
set_option maxHeartbeats 4000000 in
set_option maxRecDepth 100000 in
theorem t_X12_fits_0 {G : GG} {p : Program} {l : Launch} {e : Env} {s : State} {m : MethodId} {args : Array Value} {below : List Frame} {meth : Method} {c : Code} {S : ST} {fu : Nat} {z : Int32} {a : Nat}  (hM : MC G p s m args c cX12_fits w_X12_fits RX12) (hml : c.maxLocals = 3) (hr : meth.sig.returnType = (some .int)) (hlk : meth.locks = false) (ha : gC (S a) = 11)  (hf : f_X12_fits_0 fu  S a  = some z) : ∀ (H : Heap) (locs : List Loc), WB G S s H locs → ∀ (ls : Array Slot), lv_has ls 3 [(0, .ref a)] → W p l e RM_X12_fits s m args below meth c H locs 0 0 (QR G below args s (some (.int z)) S S) (F0 m 0 ls []) := by
  intro  H locs hW ls hl
  have hx := hM.1
  have hb := hM.2.1
  refine lv_iconst (v := (0 : Int32)) hx hb dX12_fits_0 (by decide) ?_
  refine lv_istore_n (lv' := [(1, .int (0 : Int32)), (0, .ref a)]) hx hb dX12_fits_1 rfl hl (by decide) rfl (fun ls hl => ?_)
  refine lv_iconst (v := (0 : Int32)) hx hb dX12_fits_2 (by decide) ?_
  refine lv_istore_n (lv' := [(2, .int (0 : Int32)), (1, .int (0 : Int32)), (0, .ref a)]) hx hb dX12_fits_3 rfl hl (by decide) rfl (fun ls hl => ?_)
  exact t_X12_fits_4 (fu := fu) hM hml hr hlk ha _ _ hf _ _ hW _ (lv_sub hl [2, 1, 0] rfl)
noncomputable def f_X12_fits (fu : Nat) (S : ST) (a : Nat) : Option (Int32) := f_X12_fits_0 fu S a
set_option maxHeartbeats 4000000 in
set_option maxRecDepth 100000 in
theorem c_X12_fits (l : Launch) (G : GG) (fu : Nat) (S : ST) (a : Nat) {z : Int32} (ha : gC (S a) = 11) (hf : f_X12_fits fu S a = some z) : Ct l yX12_fits w_X12_fits RM_X12_fits G S [.ref a] (some (.int z)) S 0 0 := by
  refine Met.ofW (cc := cX12_fits) (maxL := 3) (ret := (some .int)) (by decide) rfl ?_
  intro p e s m args below meth c s₁ B hml hv
  obtain ⟨rfl, hB, hK, hz⟩ := hv
  have hM : MC G p s m _ c cX12_fits w_X12_fits RX12 := ⟨B.exec, B.bytes, findClass_of_methodNamed B.named, atoms_spec (ws := w_X12_fits) B.pre, hK, hz⟩
  have hW : WB G S s s.heap [] := ⟨hB, va_S.rf⟩
  have hl := lv_entry ([.ref a]) (n := 3) (Nat.le_of_ble_eq_true rfl)
  rw [lg_entry_eq]
  generalize (lg_sl ([.ref a]) ++ List.replicate (3 - (lg_sl ([.ref a])).length) Slot.unset).toArray = ls at hl ⊢
  have hl : lv_has ls 3 [(0, .ref a)] := hl
  exact t_X12_fits_0 (fu := fu) hM hml B.returns B.notSynchronized ha hf _ _ hW _ (lv_sub hl [0] rfl)
abbrev RM_X12_greaterPart : Room := { frames := 1, cells := 0, slots := 0, locals := 22 }
abbrev w_X12_greaterPart : List Cond := Cond.code yX12_greaterPart cX12_greaterPart 6 (some .int) :: wsL_law0
noncomputable def f_X12_greaterPart_59 (fu : Nat) (k7 : Int32 → Int32 → Int32 → Option (Int32)) (S : ST) (a : Nat) (x1 : Int32) (x2 : Int32) (x3 : Int32) (x4 : Int32) : Option (Int32) :=
  nm (x4 + (1 : Int32)) fun y1 =>
  k7 x2 x3 y1
set_option maxHeartbeats 4000000 in
set_option maxRecDepth 100000 in
theorem t_X12_greaterPart_59 {G : GG} {p : Program} {l : Launch} {e : Env} {s : State} {m : MethodId} {args : Array Value} {below : List Frame} {meth : Method} {c : Code} {S : ST} {fu : Nat} {z : Int32} {a : Nat} {k7 : Int32 → Int32 → Int32 → Option (Int32)} {x1 : Int32} {x2 : Int32} {x3 : Int32} {x4 : Int32} (hM : MC G p s m args c cX12_greaterPart w_X12_greaterPart RX12) (hml : c.maxLocals = 6) (hr : meth.sig.returnType = (some .int)) (hlk : meth.locks = false) (ha : gC (S a) = 11) (hk7 : ∀ (x2 : Int32) (x3 : Int32) (x4 : Int32), k7 x2 x3 x4 = some z → ∀ (H : Heap) (locs : List Loc), WB G S s H locs → ∀ (ls : Array Slot), lv_has ls 6 [(0, .ref a), (1, .int x1), (2, .int x2), (3, .int x3), (4, .int x4)] → W p l e RM_X12_greaterPart s m args below meth c H locs 0 0 (QR G below args s (some (.int z)) S S) (F0 m 7 ls [])) (hf : f_X12_greaterPart_59 fu k7 S a x1 x2 x3 x4 = some z) : ∀ (H : Heap) (locs : List Loc), WB G S s H locs → ∀ (ls : Array Slot), lv_has ls 6 [(0, .ref a), (1, .int x1), (2, .int x2), (3, .int x3), (4, .int x4)] → W p l e RM_X12_greaterPart s m args below meth c H locs 0 0 (QR G below args s (some (.int z)) S S) (F0 m 59 ls []) := by
  intro  H locs hW ls hl
  have hx := hM.1
  have hb := hM.2.1
  obtain ⟨y1, ey1⟩ : ∃ y : Int32, y = x4 + (1 : Int32) := ⟨_, rfl⟩
  have hf := nm_at ey1 hf
  refine lv_iinc (v := y1) (lv' := [(4, .int y1), (0, .ref a), (1, .int x1), (2, .int x2), (3, .int x3)]) hx hb dX12_greaterPart_59 hl (k := 4) rfl (by rw [ey1]; rfl) (by decide) rfl (fun ls hl => ?_)
  refine lv_goto (tgt := 7) hx hb dX12_greaterPart_62 (by decide) ?_
  exact hk7 _ _ _ hf _ _ hW _ (lv_sub hl [1, 2, 3, 4, 0] rfl)
noncomputable def f_X12_greaterPart_7s (fu : Nat)  (k7 : Int32 → Int32 → Int32 → Option (Int32)) (S : ST) (a : Nat) (x1 : Int32) (x2 : Int32) (x3 : Int32) (x4 : Int32) : Option (Int32) :=
  ck (decide (gC (S (a + 9)) = 3)) <|
  if (gI (S (a + 9)) 7) ≤ x4 then
    (some ((if x2 < x3 then x3 else x2)))
  else
    (bd (f_X3_isFitting fu (S (a + 9)) x4) fun r3 =>
    if r3 = 0 then
      (f_X12_greaterPart_59 fu k7 S a x1 x2 x3 x4)
    else
      (ck (inb x4 8) <|
      nm ((((gA (S (a + 9)) 0 x4.toNatClampNeg) >>> (x1 &&& 31)) &&& (1 : Int32))) fun y6 =>
      nm ((x2 + y6)) fun y7 =>
      nm ((x3 + ((1 : Int32) - y6))) fun y8 =>
      f_X12_greaterPart_59 fu k7 S a x1 y7 y8 x4))
noncomputable def f_X12_greaterPart_7 (fu n : Nat)  (S : ST) (a : Nat) (x1 : Int32) : Int32 → Int32 → Int32 → Option (Int32) :=
  lq_3 (fun k7 => f_X12_greaterPart_7s fu  k7 S a x1) n
set_option maxHeartbeats 4000000 in
set_option maxRecDepth 100000 in
theorem t_X12_greaterPart_7s {G : GG} {p : Program} {l : Launch} {e : Env} {s : State} {m : MethodId} {args : Array Value} {below : List Frame} {meth : Method} {c : Code} {S : ST} {fu : Nat} {z : Int32} {a : Nat}  {k7 : Int32 → Int32 → Int32 → Option (Int32)} {x1 : Int32} (hM : MC G p s m args c cX12_greaterPart w_X12_greaterPart RX12) (hml : c.maxLocals = 6) (hr : meth.sig.returnType = (some .int)) (hlk : meth.locks = false) (ha : gC (S a) = 11)  (hk7 : ∀ (x2 : Int32) (x3 : Int32) (x4 : Int32), k7 x2 x3 x4 = some z → ∀ (H : Heap) (locs : List Loc), WB G S s H locs → ∀ (ls : Array Slot), lv_has ls 6 [(0, .ref a), (1, .int x1), (2, .int x2), (3, .int x3), (4, .int x4)] → W p l e RM_X12_greaterPart s m args below meth c H locs 0 0 (QR G below args s (some (.int z)) S S) (F0 m 7 ls [])) : ∀ (x2 : Int32) (x3 : Int32) (x4 : Int32), f_X12_greaterPart_7s fu  k7 S a x1 x2 x3 x4 = some z → ∀ (H : Heap) (locs : List Loc), WB G S s H locs → ∀ (ls : Array Slot), lv_has ls 6 [(0, .ref a), (1, .int x1), (2, .int x2), (3, .int x3), (4, .int x4)] → W p l e RM_X12_greaterPart s m args below meth c H locs 0 0 (QR G below args s (some (.int z)) S S) (F0 m 7 ls []) := by
  intro x2 x3 x4 hf  H locs hW ls hl
  have hx := hM.1
  have hb := hM.2.1
  refine lv_iload hx hb dX12_greaterPart_7 (lv_at hl 4 rfl) ?_
  refine lv_aload_n hx hb dX12_greaterPart_9 rfl (lv_at hl 0 rfl) ?_
  refine b_get hM (hW.at_ a) 10 2 ha rfl rfl (by decide) wi_X12 (wgm fk_RX12_28) (x := .ref (a + 9)) rfl dX12_greaterPart_10 ?_
  obtain ⟨h1, hf⟩ := ck_elim hf
  have h1 := of_decide_eq_true h1
  refine b_get hM (hW.at_ (a + 9)) 2 7 h1 rfl rfl (by decide) wi_X3 (wgm fk_RX12_176) (x := .int (gI (S (a + 9)) 7)) rfl dX12_greaterPart_13 ?_
  refine lv_icmp_ge (tgt := 65) hx hb dX12_greaterPart_16 (by decide) (fun c2 => ?_) (fun c2 => ?_)
  · have hf := if_t c2 hf
    refine lv_iload_n hx hb dX12_greaterPart_65 rfl (lv_at hl 2 rfl) ?_
    refine lv_iload_n hx hb dX12_greaterPart_66 rfl (lv_at hl 3 rfl) ?_
    refine k_max hM hml hl.1 mk_RX12_291 (Nat.le_of_ble_eq_true rfl) (Nat.le_of_ble_eq_true rfl) (Nat.zero_le _) (Nat.zero_le _) dX12_greaterPart_67 ?_
    cases hf
    exact W.iret hx hb hr (b_ret0 hW (fun _ _ => rfl) _) hW.2.2.2 dX12_greaterPart_70 hlk
  · have hf := if_f c2 hf
    refine lv_aload_n hx hb dX12_greaterPart_19 rfl (lv_at hl 0 rfl) ?_
    refine b_get hM (hW.at_ a) 10 2 ha rfl rfl (by decide) wi_X12 (wgm fk_RX12_28) (x := .ref (a + 9)) rfl dX12_greaterPart_20 ?_
    refine lv_iload hx hb dX12_greaterPart_23 (lv_at hl 4 rfl) ?_
    obtain ⟨r3, hr3, hf⟩ := bd_elim hf
    refine s_callVi [.int x4] [] hM hml hl.1 hW h1 rfl (by decide) (Ct_rd (c_X3_isFitting l G fu _ (a + 9) (S (a + 9)) _ h1 hr3)) (cwV 1 hM.2.2.2.1 (gV mk_RX12_282 im_X3_isFitting se_X3_isFitting it_RX3 cd_X3_isFitting) rfl rfl rfl (by decide +kernel) ⟨Nat.le_of_ble_eq_true rfl, Nat.le_of_ble_eq_true rfl⟩) rfl rfl (Nat.le_of_ble_eq_true rfl) ⟨Nat.zero_le _, Nat.zero_le _⟩ dX12_greaterPart_25 (fun H locs hW hk => ?_)
    refine lv_if_eq (tgt := 59) hx hb dX12_greaterPart_28 (by decide) (fun c4 => ?_) (fun c4 => ?_)
    · have hf := if_t c4 hf
      exact t_X12_greaterPart_59 (fu := fu) hM hml hr hlk ha hk7 hf _ _ hW _ (lv_sub hl [0, 1, 2, 3, 4] rfl)
    · have hf := if_f c4 hf
      refine lv_aload_n hx hb dX12_greaterPart_31 rfl (lv_at hl 0 rfl) ?_
      refine b_get hM (hW.at_ a) 10 2 ha rfl rfl (by decide) wi_X12 (wgm fk_RX12_28) (x := .ref (a + 9)) rfl dX12_greaterPart_32 ?_
      refine b_get hM (hW.at_ (a + 9)) 2 0 h1 rfl rfl (by decide) wi_X3 (wgm fk_RX12_134) (x := .ref ((a + 9) + 1)) rfl dX12_greaterPart_35 ?_
      refine lv_iload hx hb dX12_greaterPart_38 (lv_at hl 4 rfl) ?_
      obtain ⟨h5, hf⟩ := ck_elim hf
      refine b_iald (n := 8) hM (hW.at_ (a + 9)) 2 0 h1 (by decide) rfl rfl rfl rfl h5 dX12_greaterPart_40 ?_
      refine lv_iload_n hx hb dX12_greaterPart_41 rfl (lv_at hl 1 rfl) ?_
      refine lv_ishr hx hb dX12_greaterPart_42 ?_
      refine lv_iconst (v := (1 : Int32)) hx hb dX12_greaterPart_43 (by decide) ?_
      refine lv_iand hx hb dX12_greaterPart_44 ?_
      refine lv_topi (fun y6 ey6 => ?_)
      have hf := nm_at ey6 hf
      refine lv_istore (lv' := [(5, .int y6), (0, .ref a), (1, .int x1), (2, .int x2), (3, .int x3), (4, .int x4)]) hx hb dX12_greaterPart_45 hl (by decide) rfl (fun ls hl => ?_)
      refine lv_iload_n hx hb dX12_greaterPart_47 rfl (lv_at hl 3 rfl) ?_
      refine lv_iload hx hb dX12_greaterPart_48 (lv_at hl 0 rfl) ?_
      refine lv_iadd hx hb dX12_greaterPart_50 ?_
      refine lv_topi (fun y7 ey7 => ?_)
      have hf := nm_at ey7 hf
      refine lv_istore_n (lv' := [(2, .int y7), (5, .int y6), (0, .ref a), (1, .int x1), (3, .int x3), (4, .int x4)]) hx hb dX12_greaterPart_51 rfl hl (by decide) rfl (fun ls hl => ?_)
      refine lv_iload_n hx hb dX12_greaterPart_52 rfl (lv_at hl 4 rfl) ?_
      refine lv_iconst (v := (1 : Int32)) hx hb dX12_greaterPart_53 (by decide) ?_
      refine lv_iload hx hb dX12_greaterPart_54 (lv_at hl 1 rfl) ?_
      refine lv_isub hx hb dX12_greaterPart_56 ?_
      refine lv_iadd hx hb dX12_greaterPart_57 ?_
      refine lv_topi (fun y8 ey8 => ?_)
      have hf := nm_at ey8 hf
      refine lv_istore_n (lv' := [(3, .int y8), (2, .int y7), (5, .int y6), (0, .ref a), (1, .int x1), (4, .int x4)]) hx hb dX12_greaterPart_58 rfl hl (by decide) rfl (fun ls hl => ?_)
      exact t_X12_greaterPart_59 (fu := fu) hM hml hr hlk ha hk7 hf _ _ hW _ (lv_sub hl [3, 4, 1, 0, 5] rfl)
theorem t_X12_greaterPart_7 {G : GG} {p : Program} {l : Launch} {e : Env} {s : State} {m : MethodId} {args : Array Value} {below : List Frame} {meth : Method} {c : Code} {S : ST} {fu : Nat} {z : Int32} {a : Nat}  {x1 : Int32} (hM : MC G p s m args c cX12_greaterPart w_X12_greaterPart RX12) (hml : c.maxLocals = 6) (hr : meth.sig.returnType = (some .int)) (hlk : meth.locks = false) (ha : gC (S a) = 11)  : ∀ {n : Nat} (x2 : Int32) (x3 : Int32) (x4 : Int32), f_X12_greaterPart_7 fu n  S a x1 x2 x3 x4 = some z → ∀ (H : Heap) (locs : List Loc), WB G S s H locs → ∀ (ls : Array Slot), lv_has ls 6 [(0, .ref a), (1, .int x1), (2, .int x2), (3, .int x3), (4, .int x4)] → W p l e RM_X12_greaterPart s m args below meth c H locs 0 0 (QR G below args s (some (.int z)) S S) (F0 m 7 ls []) := by
  intro n
  induction n with
  | zero => intro x2 x3 x4 hf; cases hf
  | succ n ih => intro x2 x3 x4 hf; exact t_X12_greaterPart_7s (fu := fu) hM hml hr hlk ha (k7 := f_X12_greaterPart_7 fu n  S a x1) ih _ _ _ hf
noncomputable def f_X12_greaterPart_0 (fu : Nat)  (S : ST) (a : Nat) (x1 : Int32) : Option (Int32) :=
  f_X12_greaterPart_7 fu fu S a x1 (0 : Int32) (0 : Int32) (0 : Int32)
set_option maxHeartbeats 4000000 in
set_option maxRecDepth 100000 in
theorem t_X12_greaterPart_0 {G : GG} {p : Program} {l : Launch} {e : Env} {s : State} {m : MethodId} {args : Array Value} {below : List Frame} {meth : Method} {c : Code} {S : ST} {fu : Nat} {z : Int32} {a : Nat}  {x1 : Int32} (hM : MC G p s m args c cX12_greaterPart w_X12_greaterPart RX12) (hml : c.maxLocals = 6) (hr : meth.sig.returnType = (some .int)) (hlk : meth.locks = false) (ha : gC (S a) = 11)  (hf : f_X12_greaterPart_0 fu  S a x1 = some z) : ∀ (H : Heap) (locs : List Loc), WB G S s H locs → ∀ (ls : Array Slot), lv_has ls 6 [(0, .ref a), (1, .int x1)] → W p l e RM_X12_greaterPart s m args below meth c H locs 0 0 (QR G below args s (some (.int z)) S S) (F0 m 0 ls []) := by
  intro  H locs hW ls hl
  have hx := hM.1
  have hb := hM.2.1
  refine lv_iconst (v := (0 : Int32)) hx hb dX12_greaterPart_0 (by decide) ?_
  refine lv_istore_n (lv' := [(2, .int (0 : Int32)), (0, .ref a), (1, .int x1)]) hx hb dX12_greaterPart_1 rfl hl (by decide) rfl (fun ls hl => ?_)
  refine lv_iconst (v := (0 : Int32)) hx hb dX12_greaterPart_2 (by decide) ?_
  refine lv_istore_n (lv' := [(3, .int (0 : Int32)), (2, .int (0 : Int32)), (0, .ref a), (1, .int x1)]) hx hb dX12_greaterPart_3 rfl hl (by decide) rfl (fun ls hl => ?_)
  refine lv_iconst (v := (0 : Int32)) hx hb dX12_greaterPart_4 (by decide) ?_
  refine lv_istore (lv' := [(4, .int (0 : Int32)), (3, .int (0 : Int32)), (2, .int (0 : Int32)), (0, .ref a), (1, .int x1)]) hx hb dX12_greaterPart_5 hl (by decide) rfl (fun ls hl => ?_)
  exact t_X12_greaterPart_7 (fu := fu) hM hml hr hlk ha _ _ _ hf _ _ hW _ (lv_sub hl [3, 4, 2, 1, 0] rfl)
noncomputable def f_X12_greaterPart (fu : Nat) (S : ST) (a : Nat) (x1 : Int32) : Option (Int32) := f_X12_greaterPart_0 fu S a x1
set_option maxHeartbeats 4000000 in
set_option maxRecDepth 100000 in
theorem c_X12_greaterPart (l : Launch) (G : GG) (fu : Nat) (S : ST) (a : Nat) (x1 : Int32) {z : Int32} (ha : gC (S a) = 11) (hf : f_X12_greaterPart fu S a x1 = some z) : Ct l yX12_greaterPart w_X12_greaterPart RM_X12_greaterPart G S [.ref a, .int x1] (some (.int z)) S 0 0 := by
  refine Met.ofW (cc := cX12_greaterPart) (maxL := 6) (ret := (some .int)) (by decide) rfl ?_
  intro p e s m args below meth c s₁ B hml hv
  obtain ⟨rfl, hB, hK, hz⟩ := hv
  have hM : MC G p s m _ c cX12_greaterPart w_X12_greaterPart RX12 := ⟨B.exec, B.bytes, findClass_of_methodNamed B.named, atoms_spec (ws := w_X12_greaterPart) B.pre, hK, hz⟩
  have hW : WB G S s s.heap [] := ⟨hB, va_S.rf⟩
  have hl := lv_entry ([.ref a, .int x1]) (n := 6) (Nat.le_of_ble_eq_true rfl)
  rw [lg_entry_eq]
  generalize (lg_sl ([.ref a, .int x1]) ++ List.replicate (6 - (lg_sl ([.ref a, .int x1])).length) Slot.unset).toArray = ls at hl ⊢
  have hl : lv_has ls 6 [(0, .ref a), (1, .int x1)] := hl
  exact t_X12_greaterPart_0 (fu := fu) hM hml B.returns B.notSynchronized ha hf _ _ hW _ (lv_sub hl [0, 1] rfl)
abbrev RM_X12_ask : Room := { frames := 2, cells := 0, slots := 0, locals := 47 }
abbrev w_X12_ask : List Cond := Cond.code yX12_ask cX12_ask 5 (some .int) :: wsL_law0
noncomputable def f_X12_ask_41 (fu : Nat) (k12 : Int32 → Int32 → Int32 → Option (Int32)) (S : ST) (a : Nat) (x1 : Int32) (x2 : Int32) (x3 : Int32) : Option (Int32) :=
  nm (x3 + (1 : Int32)) fun y1 =>
  k12 x1 x2 y1
set_option maxHeartbeats 4000000 in
set_option maxRecDepth 100000 in
theorem t_X12_ask_41 {G : GG} {p : Program} {l : Launch} {e : Env} {s : State} {m : MethodId} {args : Array Value} {below : List Frame} {meth : Method} {c : Code} {S : ST} {fu : Nat} {z : Int32} {a : Nat} {k12 : Int32 → Int32 → Int32 → Option (Int32)} {x1 : Int32} {x2 : Int32} {x3 : Int32} (hM : MC G p s m args c cX12_ask w_X12_ask RX12) (hml : c.maxLocals = 5) (hr : meth.sig.returnType = (some .int)) (hlk : meth.locks = false) (ha : gC (S a) = 11) (hk12 : ∀ (x1 : Int32) (x2 : Int32) (x3 : Int32), k12 x1 x2 x3 = some z → ∀ (H : Heap) (locs : List Loc), WB G S s H locs → ∀ (ls : Array Slot), lv_has ls 5 [(0, .ref a), (1, .int x1), (2, .int x2), (3, .int x3)] → W p l e RM_X12_ask s m args below meth c H locs 0 0 (QR G below args s (some (.int z)) S S) (F0 m 12 ls [])) (hf : f_X12_ask_41 fu k12 S a x1 x2 x3 = some z) : ∀ (H : Heap) (locs : List Loc), WB G S s H locs → ∀ (ls : Array Slot), lv_has ls 5 [(0, .ref a), (1, .int x1), (2, .int x2), (3, .int x3)] → W p l e RM_X12_ask s m args below meth c H locs 0 0 (QR G below args s (some (.int z)) S S) (F0 m 41 ls []) := by
  intro  H locs hW ls hl
  have hx := hM.1
  have hb := hM.2.1
  obtain ⟨y1, ey1⟩ : ∃ y : Int32, y = x3 + (1 : Int32) := ⟨_, rfl⟩
  have hf := nm_at ey1 hf
  refine lv_iinc (v := y1) (lv' := [(3, .int y1), (0, .ref a), (1, .int x1), (2, .int x2)]) hx hb dX12_ask_41 hl (k := 3) rfl (by rw [ey1]; rfl) (by decide) rfl (fun ls hl => ?_)
  refine lv_goto (tgt := 12) hx hb dX12_ask_44 (by decide) ?_
  exact hk12 _ _ _ hf _ _ hW _ (lv_sub hl [1, 2, 3, 0] rfl)
noncomputable def f_X12_ask_12s (fu : Nat)  (k12 : Int32 → Int32 → Int32 → Option (Int32)) (S : ST) (a : Nat) (x1 : Int32) (x2 : Int32) (x3 : Int32) : Option (Int32) :=
  bd (gR (S a) 12) fun q1 =>
  ck (decide (gC (S q1) = 1)) <|
  if (gI (S q1) 8) ≤ x3 then
    (some (x1))
  else
    (bd (f_X12_greaterPart fu S a x3) fun r4 =>
    if x2 ≤ r4 then
      (f_X12_ask_41 fu k12 S a x1 x2 x3)
    else
      (f_X12_ask_41 fu k12 S a x3 r4 x3))
noncomputable def f_X12_ask_12 (fu n : Nat)  (S : ST) (a : Nat) : Int32 → Int32 → Int32 → Option (Int32) :=
  lq_3 (fun k12 => f_X12_ask_12s fu  k12 S a) n
set_option maxHeartbeats 4000000 in
set_option maxRecDepth 100000 in
theorem t_X12_ask_12s {G : GG} {p : Program} {l : Launch} {e : Env} {s : State} {m : MethodId} {args : Array Value} {below : List Frame} {meth : Method} {c : Code} {S : ST} {fu : Nat} {z : Int32} {a : Nat}  {k12 : Int32 → Int32 → Int32 → Option (Int32)} (hM : MC G p s m args c cX12_ask w_X12_ask RX12) (hml : c.maxLocals = 5) (hr : meth.sig.returnType = (some .int)) (hlk : meth.locks = false) (ha : gC (S a) = 11)  (hk12 : ∀ (x1 : Int32) (x2 : Int32) (x3 : Int32), k12 x1 x2 x3 = some z → ∀ (H : Heap) (locs : List Loc), WB G S s H locs → ∀ (ls : Array Slot), lv_has ls 5 [(0, .ref a), (1, .int x1), (2, .int x2), (3, .int x3)] → W p l e RM_X12_ask s m args below meth c H locs 0 0 (QR G below args s (some (.int z)) S S) (F0 m 12 ls [])) : ∀ (x1 : Int32) (x2 : Int32) (x3 : Int32), f_X12_ask_12s fu  k12 S a x1 x2 x3 = some z → ∀ (H : Heap) (locs : List Loc), WB G S s H locs → ∀ (ls : Array Slot), lv_has ls 5 [(0, .ref a), (1, .int x1), (2, .int x2), (3, .int x3)] → W p l e RM_X12_ask s m args below meth c H locs 0 0 (QR G below args s (some (.int z)) S S) (F0 m 12 ls []) := by
  intro x1 x2 x3 hf  H locs hW ls hl
  have hx := hM.1
  have hb := hM.2.1
  refine lv_iload_n hx hb dX12_ask_12 rfl (lv_at hl 3 rfl) ?_
  refine lv_aload_n hx hb dX12_ask_13 rfl (lv_at hl 0 rfl) ?_
  obtain ⟨q1, hq1, hf⟩ := bd_elim hf
  refine b_get hM (hW.at_ a) 10 12 ha rfl rfl (by decide) wi_X12 (wgm fk_RX12_76) (x := .ref q1) (by show va_rf _ = _; rw [hq1]; rfl) dX12_ask_14 ?_
  obtain ⟨h2, hf⟩ := ck_elim hf
  have h2 := of_decide_eq_true h2
  refine b_get hM (hW.at_ q1) 0 8 h2 rfl rfl (by decide) wi_X1 (wgm fk_RX12_173) (x := .int (gI (S q1) 8)) rfl dX12_ask_17 ?_
  refine lv_icmp_ge (tgt := 47) hx hb dX12_ask_20 (by decide) (fun c3 => ?_) (fun c3 => ?_)
  · have hf := if_t c3 hf
    refine lv_iload_n hx hb dX12_ask_47 rfl (lv_at hl 1 rfl) ?_
    cases hf
    exact W.iret hx hb hr (b_ret0 hW (fun _ _ => rfl) _) hW.2.2.2 dX12_ask_48 hlk
  · have hf := if_f c3 hf
    refine lv_aload_n hx hb dX12_ask_23 rfl (lv_at hl 0 rfl) ?_
    refine lv_iload_n hx hb dX12_ask_24 rfl (lv_at hl 3 rfl) ?_
    obtain ⟨r4, hr4, hf⟩ := bd_elim hf
    refine s_callVi [.int x3] [] hM hml hl.1 hW ha rfl (by decide) (c_X12_greaterPart l G fu _ a _ ha hr4) (cwV 1 hM.2.2.2.1 (gV mk_RX12_288 im_X12_greaterPart se_X12_greaterPart it_RX12 cd_X12_greaterPart) rfl rfl rfl (by decide +kernel) ⟨Nat.le_of_ble_eq_true rfl, Nat.le_of_ble_eq_true rfl⟩) rfl rfl (Nat.le_of_ble_eq_true rfl) ⟨Nat.zero_le _, Nat.zero_le _⟩ dX12_ask_25 (fun H locs hW hk => ?_)
    refine lv_istore (lv' := [(4, .int r4), (0, .ref a), (1, .int x1), (2, .int x2), (3, .int x3)]) hx hb dX12_ask_28 hl (by decide) rfl (fun ls hl => ?_)
    refine lv_iload hx hb dX12_ask_30 (lv_at hl 0 rfl) ?_
    refine lv_iload_n hx hb dX12_ask_32 rfl (lv_at hl 3 rfl) ?_
    refine lv_icmp_ge (tgt := 41) hx hb dX12_ask_33 (by decide) (fun c5 => ?_) (fun c5 => ?_)
    · have hf := if_t c5 hf
      exact t_X12_ask_41 (fu := fu) hM hml hr hlk ha hk12 hf _ _ hW _ (lv_sub hl [1, 2, 3, 4] rfl)
    · have hf := if_f c5 hf
      refine lv_iload hx hb dX12_ask_36 (lv_at hl 0 rfl) ?_
      refine lv_istore_n (lv' := [(2, .int r4), (4, .int r4), (0, .ref a), (1, .int x1), (3, .int x3)]) hx hb dX12_ask_38 rfl hl (by decide) rfl (fun ls hl => ?_)
      refine lv_iload_n hx hb dX12_ask_39 rfl (lv_at hl 4 rfl) ?_
      refine lv_istore_n (lv' := [(1, .int x3), (2, .int r4), (4, .int r4), (0, .ref a), (3, .int x3)]) hx hb dX12_ask_40 rfl hl (by decide) rfl (fun ls hl => ?_)
      exact t_X12_ask_41 (fu := fu) hM hml hr hlk ha hk12 hf _ _ hW _ (lv_sub hl [3, 0, 1, 4] rfl)
theorem t_X12_ask_12 {G : GG} {p : Program} {l : Launch} {e : Env} {s : State} {m : MethodId} {args : Array Value} {below : List Frame} {meth : Method} {c : Code} {S : ST} {fu : Nat} {z : Int32} {a : Nat}  (hM : MC G p s m args c cX12_ask w_X12_ask RX12) (hml : c.maxLocals = 5) (hr : meth.sig.returnType = (some .int)) (hlk : meth.locks = false) (ha : gC (S a) = 11)  : ∀ {n : Nat} (x1 : Int32) (x2 : Int32) (x3 : Int32), f_X12_ask_12 fu n  S a x1 x2 x3 = some z → ∀ (H : Heap) (locs : List Loc), WB G S s H locs → ∀ (ls : Array Slot), lv_has ls 5 [(0, .ref a), (1, .int x1), (2, .int x2), (3, .int x3)] → W p l e RM_X12_ask s m args below meth c H locs 0 0 (QR G below args s (some (.int z)) S S) (F0 m 12 ls []) := by
  intro n
  induction n with
  | zero => intro x1 x2 x3 hf; cases hf
  | succ n ih => intro x1 x2 x3 hf; exact t_X12_ask_12s (fu := fu) hM hml hr hlk ha (k12 := f_X12_ask_12 fu n  S a) ih _ _ _ hf
noncomputable def f_X12_ask_0 (fu : Nat)  (S : ST) (a : Nat) : Option (Int32) :=
  bd (f_X12_fits fu S a) fun r1 =>
  bd (f_J6_bitCount_0f7a4 fu r1) fun r2 =>
  f_X12_ask_12 fu fu S a (-1 : Int32) r2 (0 : Int32)
set_option maxHeartbeats 4000000 in
set_option maxRecDepth 100000 in
theorem t_X12_ask_0 {G : GG} {p : Program} {l : Launch} {e : Env} {s : State} {m : MethodId} {args : Array Value} {below : List Frame} {meth : Method} {c : Code} {S : ST} {fu : Nat} {z : Int32} {a : Nat}  (hM : MC G p s m args c cX12_ask w_X12_ask RX12) (hml : c.maxLocals = 5) (hr : meth.sig.returnType = (some .int)) (hlk : meth.locks = false) (ha : gC (S a) = 11)  (hf : f_X12_ask_0 fu  S a  = some z) : ∀ (H : Heap) (locs : List Loc), WB G S s H locs → ∀ (ls : Array Slot), lv_has ls 5 [(0, .ref a)] → W p l e RM_X12_ask s m args below meth c H locs 0 0 (QR G below args s (some (.int z)) S S) (F0 m 0 ls []) := by
  intro  H locs hW ls hl
  have hx := hM.1
  have hb := hM.2.1
  refine lv_iconst (v := (-1 : Int32)) hx hb dX12_ask_0 (by decide) ?_
  refine lv_istore_n (lv' := [(1, .int (-1 : Int32)), (0, .ref a)]) hx hb dX12_ask_1 rfl hl (by decide) rfl (fun ls hl => ?_)
  refine lv_aload_n hx hb dX12_ask_2 rfl (lv_at hl 1 rfl) ?_
  obtain ⟨r1, hr1, hf⟩ := bd_elim hf
  refine s_callVi [] [] hM hml hl.1 hW ha rfl (by decide) (c_X12_fits l G fu _ a ha hr1) (cwV 0 hM.2.2.2.1 (gV mk_RX12_285 im_X12_fits se_X12_fits it_RX12 cd_X12_fits) rfl rfl rfl (by decide +kernel) ⟨Nat.le_of_ble_eq_true rfl, Nat.le_of_ble_eq_true rfl⟩) rfl rfl (Nat.le_of_ble_eq_true rfl) ⟨Nat.zero_le _, Nat.zero_le _⟩ dX12_ask_3 (fun H locs hW hk => ?_)
  obtain ⟨r2, hr2, hf⟩ := bd_elim hf
  refine s_callSi [.int r1] [] hM hml hl.1 hW (c_J6_bitCount_0f7a4 l G fu _ _ hr2) (va_cwS 1 hM.2.2.2.1 (gS mk_RX12_248 sm_J6_bitCount_0f7a4 it_RJ6 cd_J6_bitCount_0f7a4) rfl rfl rfl (by decide +kernel) ⟨Nat.le_of_ble_eq_true rfl, Nat.le_of_ble_eq_true rfl⟩) rfl rfl (Nat.le_of_ble_eq_true rfl) ⟨Nat.zero_le _, Nat.zero_le _⟩ dX12_ask_6 (fun H locs hW hk => ?_)
  refine lv_istore_n (lv' := [(2, .int r2), (1, .int (-1 : Int32)), (0, .ref a)]) hx hb dX12_ask_9 rfl hl (by decide) rfl (fun ls hl => ?_)
  refine lv_iconst (v := (0 : Int32)) hx hb dX12_ask_10 (by decide) ?_
  refine lv_istore_n (lv' := [(3, .int (0 : Int32)), (2, .int r2), (1, .int (-1 : Int32)), (0, .ref a)]) hx hb dX12_ask_11 rfl hl (by decide) rfl (fun ls hl => ?_)
  exact t_X12_ask_12 (fu := fu) hM hml hr hlk ha _ _ _ hf _ _ hW _ (lv_sub hl [3, 2, 1, 0] rfl)
noncomputable def f_X12_ask (fu : Nat) (S : ST) (a : Nat) : Option (Int32) := f_X12_ask_0 fu S a
set_option maxHeartbeats 4000000 in
set_option maxRecDepth 100000 in
theorem c_X12_ask (l : Launch) (G : GG) (fu : Nat) (S : ST) (a : Nat) {z : Int32} (ha : gC (S a) = 11) (hf : f_X12_ask fu S a = some z) : Ct l yX12_ask w_X12_ask RM_X12_ask G S [.ref a] (some (.int z)) S 0 0 := by
  refine Met.ofW (cc := cX12_ask) (maxL := 5) (ret := (some .int)) (by decide) rfl ?_
  intro p e s m args below meth c s₁ B hml hv
  obtain ⟨rfl, hB, hK, hz⟩ := hv
  have hM : MC G p s m _ c cX12_ask w_X12_ask RX12 := ⟨B.exec, B.bytes, findClass_of_methodNamed B.named, atoms_spec (ws := w_X12_ask) B.pre, hK, hz⟩
  have hW : WB G S s s.heap [] := ⟨hB, va_S.rf⟩
  have hl := lv_entry ([.ref a]) (n := 5) (Nat.le_of_ble_eq_true rfl)
  rw [lg_entry_eq]
  generalize (lg_sl ([.ref a]) ++ List.replicate (5 - (lg_sl ([.ref a])).length) Slot.unset).toArray = ls at hl ⊢
  have hl : lv_has ls 5 [(0, .ref a)] := hl
  exact t_X12_ask_0 (fu := fu) hM hml B.returns B.notSynchronized ha hf _ _ hW _ (lv_sub hl [0] rfl)
abbrev RM_X12_price : Room := { frames := 3, cells := 0, slots := 0, locals := 73 }
abbrev w_X12_price : List Cond := Cond.code yX12_price cX12_price 4 (some .int) :: wsL_law0
noncomputable def f_X12_price_46 (fu : Nat) (k6 : Int32 → Int32 → Int32 → ST → Option (Int32 × ST)) (S : ST) (a : Nat) (x1 : Int32) (x2 : Int32) (x3 : Int32) : Option (Int32 × ST) :=
  nm (x3 + (1 : Int32)) fun y1 =>
  k6 x1 x2 y1 S
set_option maxHeartbeats 4000000 in
set_option maxRecDepth 100000 in
theorem t_X12_price_46 {G : GG} {p : Program} {l : Launch} {e : Env} {s : State} {m : MethodId} {args : Array Value} {below : List Frame} {meth : Method} {c : Code} {S0 : ST} {fu : Nat} {z : Int32 × ST} {a : Nat} {k6 : Int32 → Int32 → Int32 → ST → Option (Int32 × ST)} {S : ST} {x1 : Int32} {x2 : Int32} {x3 : Int32} (hM : MC G p s m args c cX12_price w_X12_price RX12) (hml : c.maxLocals = 4) (hr : meth.sig.returnType = (some .int)) (hlk : meth.locks = false)  (hk6 : ∀ (x1 : Int32) (x2 : Int32) (x3 : Int32) (S : ST), k6 x1 x2 x3 S = some z → (gC (S a) = 11) → (∀ b, gC (S0 b) ≠ 0 → gC (S b) = gC (S0 b)) → ∀ (H : Heap) (locs : List Loc), WB G S s H locs → ∀ (ls : Array Slot), lv_has ls 4 [(0, .ref a), (1, .int x1), (2, .int x2), (3, .int x3)] → W p l e RM_X12_price s m args below meth c H locs 0 0 (QR G below args s (some (.int z.1)) S0 z.2) (F0 m 6 ls [])) (hf : f_X12_price_46 fu k6 S a x1 x2 x3 = some z) : (gC (S a) = 11) → (∀ b, gC (S0 b) ≠ 0 → gC (S b) = gC (S0 b)) → ∀ (H : Heap) (locs : List Loc), WB G S s H locs → ∀ (ls : Array Slot), lv_has ls 4 [(0, .ref a), (1, .int x1), (2, .int x2), (3, .int x3)] → W p l e RM_X12_price s m args below meth c H locs 0 0 (QR G below args s (some (.int z.1)) S0 z.2) (F0 m 46 ls []) := by
  intro ha hK0 H locs hW ls hl
  have hx := hM.1
  have hb := hM.2.1
  obtain ⟨y1, ey1⟩ : ∃ y : Int32, y = x3 + (1 : Int32) := ⟨_, rfl⟩
  have hf := nm_at ey1 hf
  refine lv_iinc (v := y1) (lv' := [(3, .int y1), (0, .ref a), (1, .int x1), (2, .int x2)]) hx hb dX12_price_46 hl (k := 3) rfl (by rw [ey1]; rfl) (by decide) rfl (fun ls hl => ?_)
  refine lv_goto (tgt := 6) hx hb dX12_price_49 (by decide) ?_
  exact hk6 _ _ _ _ hf ha hK0 _ _ hW _ (lv_sub hl [1, 2, 3, 0] rfl)
noncomputable def f_X12_price_6s (fu : Nat)  (k6 : Int32 → Int32 → Int32 → ST → Option (Int32 × ST)) (a : Nat) (x1 : Int32) (x2 : Int32) (x3 : Int32) (S : ST) : Option (Int32 × ST) :=
  ck (decide (gC (S (a + 9)) = 3)) <|
  if (gI (S (a + 9)) 7) ≤ x3 then
    (if x2 = 0 then
      (some ((-1 : Int32), S))
    else
      (ck (decide (¬ x2 = 0)) <|
      some (((x1 * (1000 : Int32)) / x2), S)))
  else
    (bd (f_X3_isFitting fu (S (a + 9)) x3) fun r5 =>
    if r5 = 0 then
      (f_X12_price_46 fu k6 S a x1 x2 x3)
    else
      (bd (gR (S a) 12) fun q7 =>
      ck (decide (gC (S q7) = 1)) <|
      bd2 (f_X3_worthOf fu S (a + 9) q7 x3) fun r9 S10 =>
      nm ((x1 + r9)) fun y11 =>
      nm (x2 + (1 : Int32)) fun y12 =>
      f_X12_price_46 fu k6 S10 a y11 y12 x3))
noncomputable def f_X12_price_6 (fu n : Nat)  (a : Nat) : Int32 → Int32 → Int32 → ST → Option (Int32 × ST) :=
  lq_4 (fun k6 => f_X12_price_6s fu  k6  a) n
set_option maxHeartbeats 4000000 in
set_option maxRecDepth 100000 in
theorem t_X12_price_6s {G : GG} {p : Program} {l : Launch} {e : Env} {s : State} {m : MethodId} {args : Array Value} {below : List Frame} {meth : Method} {c : Code} {S0 : ST} {fu : Nat} {z : Int32 × ST} {a : Nat}  {k6 : Int32 → Int32 → Int32 → ST → Option (Int32 × ST)} (hM : MC G p s m args c cX12_price w_X12_price RX12) (hml : c.maxLocals = 4) (hr : meth.sig.returnType = (some .int)) (hlk : meth.locks = false)   (hk6 : ∀ (x1 : Int32) (x2 : Int32) (x3 : Int32) (S : ST), k6 x1 x2 x3 S = some z → (gC (S a) = 11) → (∀ b, gC (S0 b) ≠ 0 → gC (S b) = gC (S0 b)) → ∀ (H : Heap) (locs : List Loc), WB G S s H locs → ∀ (ls : Array Slot), lv_has ls 4 [(0, .ref a), (1, .int x1), (2, .int x2), (3, .int x3)] → W p l e RM_X12_price s m args below meth c H locs 0 0 (QR G below args s (some (.int z.1)) S0 z.2) (F0 m 6 ls [])) : ∀ (x1 : Int32) (x2 : Int32) (x3 : Int32) (S : ST), f_X12_price_6s fu  k6  a x1 x2 x3 S = some z → (gC (S a) = 11) → (∀ b, gC (S0 b) ≠ 0 → gC (S b) = gC (S0 b)) → ∀ (H : Heap) (locs : List Loc), WB G S s H locs → ∀ (ls : Array Slot), lv_has ls 4 [(0, .ref a), (1, .int x1), (2, .int x2), (3, .int x3)] → W p l e RM_X12_price s m args below meth c H locs 0 0 (QR G below args s (some (.int z.1)) S0 z.2) (F0 m 6 ls []) := by
  intro x1 x2 x3 S hf ha hK0 H locs hW ls hl
  have hx := hM.1
  have hb := hM.2.1
  refine lv_iload_n hx hb dX12_price_6 rfl (lv_at hl 3 rfl) ?_
  refine lv_aload_n hx hb dX12_price_7 rfl (lv_at hl 0 rfl) ?_
  refine b_get hM (hW.at_ a) 10 2 ha rfl rfl (by decide) wi_X12 (wgm fk_RX12_28) (x := .ref (a + 9)) rfl dX12_price_8 ?_
  obtain ⟨h1, hf⟩ := ck_elim hf
  have h1 := of_decide_eq_true h1
  refine b_get hM (hW.at_ (a + 9)) 2 7 h1 rfl rfl (by decide) wi_X3 (wgm fk_RX12_176) (x := .int (gI (S (a + 9)) 7)) rfl dX12_price_11 ?_
  refine lv_icmp_ge (tgt := 52) hx hb dX12_price_14 (by decide) (fun c2 => ?_) (fun c2 => ?_)
  · have hf := if_t c2 hf
    refine lv_iload_n hx hb dX12_price_52 rfl (lv_at hl 2 rfl) ?_
    refine lv_if_ne (tgt := 60) hx hb dX12_price_53 (by decide) (fun c3 => ?_) (fun c3 => ?_)
    · have hf := if_f c3 hf
      refine lv_iload_n hx hb dX12_price_60 rfl (lv_at hl 1 rfl) ?_
      refine lv_sipush (v := (1000 : Int32)) hx hb dX12_price_61 (by decide) ?_
      refine lv_imul hx hb dX12_price_64 ?_
      refine lv_iload_n hx hb dX12_price_65 rfl (lv_at hl 2 rfl) ?_
      obtain ⟨h4, hf⟩ := ck_elim hf
      refine lv_idiv hx hb dX12_price_66 (of_decide_eq_true h4) ?_
      cases hf
      exact W.iret hx hb hr (b_ret0 hW hK0 _) hW.2.2.2 dX12_price_67 hlk
    · have hf := if_t c3 hf
      refine lv_iconst (v := (-1 : Int32)) hx hb dX12_price_56 (by decide) ?_
      refine lv_goto (tgt := 67) hx hb dX12_price_57 (by decide) ?_
      cases hf
      exact W.iret hx hb hr (b_ret0 hW hK0 _) hW.2.2.2 dX12_price_67 hlk
  · have hf := if_f c2 hf
    refine lv_aload_n hx hb dX12_price_17 rfl (lv_at hl 0 rfl) ?_
    refine b_get hM (hW.at_ a) 10 2 ha rfl rfl (by decide) wi_X12 (wgm fk_RX12_28) (x := .ref (a + 9)) rfl dX12_price_18 ?_
    refine lv_iload_n hx hb dX12_price_21 rfl (lv_at hl 3 rfl) ?_
    obtain ⟨r5, hr5, hf⟩ := bd_elim hf
    refine s_callVi [.int x3] [] hM hml hl.1 hW h1 rfl (by decide) (Ct_rd (c_X3_isFitting l G fu _ (a + 9) (S (a + 9)) _ h1 hr5)) (cwV 1 hM.2.2.2.1 (gV mk_RX12_282 im_X3_isFitting se_X3_isFitting it_RX3 cd_X3_isFitting) rfl rfl rfl (by decide +kernel) ⟨Nat.le_of_ble_eq_true rfl, Nat.le_of_ble_eq_true rfl⟩) rfl rfl (Nat.le_of_ble_eq_true rfl) ⟨Nat.zero_le _, Nat.zero_le _⟩ dX12_price_22 (fun H locs hW hk => ?_)
    refine lv_if_eq (tgt := 46) hx hb dX12_price_25 (by decide) (fun c6 => ?_) (fun c6 => ?_)
    · have hf := if_t c6 hf
      exact t_X12_price_46 (fu := fu) hM hml hr hlk hk6 hf ha hK0 _ _ hW _ (lv_sub hl [0, 1, 2, 3] rfl)
    · have hf := if_f c6 hf
      refine lv_iload_n hx hb dX12_price_28 rfl (lv_at hl 1 rfl) ?_
      refine lv_aload_n hx hb dX12_price_29 rfl (lv_at hl 0 rfl) ?_
      refine b_get hM (hW.at_ a) 10 2 ha rfl rfl (by decide) wi_X12 (wgm fk_RX12_28) (x := .ref (a + 9)) rfl dX12_price_30 ?_
      refine lv_aload_n hx hb dX12_price_33 rfl (lv_at hl 0 rfl) ?_
      obtain ⟨q7, hq7, hf⟩ := bd_elim hf
      refine b_get hM (hW.at_ a) 10 12 ha rfl rfl (by decide) wi_X12 (wgm fk_RX12_76) (x := .ref q7) (by show va_rf _ = _; rw [hq7]; rfl) dX12_price_34 ?_
      obtain ⟨h8, hf⟩ := ck_elim hf
      have h8 := of_decide_eq_true h8
      refine lv_iload_n hx hb dX12_price_37 rfl (lv_at hl 3 rfl) ?_
      obtain ⟨r9, S10, hr9, hf⟩ := bd2_elim hf
      refine s_callVi [.ref q7, .int x3] [.int x1] hM hml hl.1 hW h1 rfl (by decide) (c_X3_worthOf l G fu _ (a + 9) _ _ h1 h8 hr9) (cwV 2 hM.2.2.2.1 (gV mk_RX12_146 im_X3_worthOf se_X3_worthOf it_RX3 cd_X3_worthOf) rfl rfl rfl (by decide +kernel) ⟨Nat.le_of_ble_eq_true rfl, Nat.le_of_ble_eq_true rfl⟩) rfl rfl (Nat.le_of_ble_eq_true rfl) ⟨Nat.zero_le _, Nat.zero_le _⟩ dX12_price_38 (fun H locs hW hk => ?_)
      have ha := keep1 hk ha
      have h1 := keep1 hk h1
      have h8 := keep1 hk h8
      have hK0 := keep_tr hK0 hk
      refine lv_iadd hx hb dX12_price_41 ?_
      refine lv_topi (fun y11 ey11 => ?_)
      have hf := nm_at ey11 hf
      refine lv_istore_n (lv' := [(1, .int y11), (0, .ref a), (2, .int x2), (3, .int x3)]) hx hb dX12_price_42 rfl hl (by decide) rfl (fun ls hl => ?_)
      obtain ⟨y12, ey12⟩ : ∃ y : Int32, y = x2 + (1 : Int32) := ⟨_, rfl⟩
      have hf := nm_at ey12 hf
      refine lv_iinc (v := y12) (lv' := [(2, .int y12), (1, .int y11), (0, .ref a), (3, .int x3)]) hx hb dX12_price_43 hl (k := 2) rfl (by rw [ey12]; rfl) (by decide) rfl (fun ls hl => ?_)
      exact t_X12_price_46 (fu := fu) hM hml hr hlk hk6 hf ha hK0 _ _ hW _ (lv_sub hl [2, 1, 0, 3] rfl)
theorem t_X12_price_6 {G : GG} {p : Program} {l : Launch} {e : Env} {s : State} {m : MethodId} {args : Array Value} {below : List Frame} {meth : Method} {c : Code} {S0 : ST} {fu : Nat} {z : Int32 × ST} {a : Nat}  (hM : MC G p s m args c cX12_price w_X12_price RX12) (hml : c.maxLocals = 4) (hr : meth.sig.returnType = (some .int)) (hlk : meth.locks = false)   : ∀ {n : Nat} (x1 : Int32) (x2 : Int32) (x3 : Int32) (S : ST), f_X12_price_6 fu n   a x1 x2 x3 S = some z → (gC (S a) = 11) → (∀ b, gC (S0 b) ≠ 0 → gC (S b) = gC (S0 b)) → ∀ (H : Heap) (locs : List Loc), WB G S s H locs → ∀ (ls : Array Slot), lv_has ls 4 [(0, .ref a), (1, .int x1), (2, .int x2), (3, .int x3)] → W p l e RM_X12_price s m args below meth c H locs 0 0 (QR G below args s (some (.int z.1)) S0 z.2) (F0 m 6 ls []) := by
  intro n
  induction n with
  | zero => intro x1 x2 x3 S hf; cases hf
  | succ n ih => intro x1 x2 x3 S hf; exact t_X12_price_6s (fu := fu) hM hml hr hlk (k6 := f_X12_price_6 fu n   a) ih _ _ _ _ hf
noncomputable def f_X12_price_0 (fu : Nat)  (S : ST) (a : Nat) : Option (Int32 × ST) :=
  f_X12_price_6 fu fu a (0 : Int32) (0 : Int32) (0 : Int32) S
set_option maxHeartbeats 4000000 in
set_option maxRecDepth 100000 in
theorem t_X12_price_0 {G : GG} {p : Program} {l : Launch} {e : Env} {s : State} {m : MethodId} {args : Array Value} {below : List Frame} {meth : Method} {c : Code} {S0 : ST} {fu : Nat} {z : Int32 × ST} {a : Nat}  {S : ST} (hM : MC G p s m args c cX12_price w_X12_price RX12) (hml : c.maxLocals = 4) (hr : meth.sig.returnType = (some .int)) (hlk : meth.locks = false)   (hf : f_X12_price_0 fu  S a  = some z) : (gC (S a) = 11) → (∀ b, gC (S0 b) ≠ 0 → gC (S b) = gC (S0 b)) → ∀ (H : Heap) (locs : List Loc), WB G S s H locs → ∀ (ls : Array Slot), lv_has ls 4 [(0, .ref a)] → W p l e RM_X12_price s m args below meth c H locs 0 0 (QR G below args s (some (.int z.1)) S0 z.2) (F0 m 0 ls []) := by
  intro ha hK0 H locs hW ls hl
  have hx := hM.1
  have hb := hM.2.1
  refine lv_iconst (v := (0 : Int32)) hx hb dX12_price_0 (by decide) ?_
  refine lv_istore_n (lv' := [(1, .int (0 : Int32)), (0, .ref a)]) hx hb dX12_price_1 rfl hl (by decide) rfl (fun ls hl => ?_)
  refine lv_iconst (v := (0 : Int32)) hx hb dX12_price_2 (by decide) ?_
  refine lv_istore_n (lv' := [(2, .int (0 : Int32)), (1, .int (0 : Int32)), (0, .ref a)]) hx hb dX12_price_3 rfl hl (by decide) rfl (fun ls hl => ?_)
  refine lv_iconst (v := (0 : Int32)) hx hb dX12_price_4 (by decide) ?_
  refine lv_istore_n (lv' := [(3, .int (0 : Int32)), (2, .int (0 : Int32)), (1, .int (0 : Int32)), (0, .ref a)]) hx hb dX12_price_5 rfl hl (by decide) rfl (fun ls hl => ?_)
  exact t_X12_price_6 (fu := fu) hM hml hr hlk _ _ _ _ hf ha hK0 _ _ hW _ (lv_sub hl [3, 2, 1, 0] rfl)
noncomputable def f_X12_price (fu : Nat) (S : ST) (a : Nat) : Option (Int32 × ST) := f_X12_price_0 fu S a
set_option maxHeartbeats 4000000 in
set_option maxRecDepth 100000 in
theorem c_X12_price (l : Launch) (G : GG) (fu : Nat) (S : ST) (a : Nat) {z : Int32} {w : ST} (ha : gC (S a) = 11) (hf : f_X12_price fu S a = some (z, w)) : Ct l yX12_price w_X12_price RM_X12_price G S [.ref a] (some (.int z)) w 0 0 := by
  refine Met.ofW (cc := cX12_price) (maxL := 4) (ret := (some .int)) (by decide) rfl ?_
  intro p e s m args below meth c s₁ B hml hv
  obtain ⟨rfl, hB, hK, hz⟩ := hv
  have hM : MC G p s m _ c cX12_price w_X12_price RX12 := ⟨B.exec, B.bytes, findClass_of_methodNamed B.named, atoms_spec (ws := w_X12_price) B.pre, hK, hz⟩
  have hW : WB G S s s.heap [] := ⟨hB, va_S.rf⟩
  have hl := lv_entry ([.ref a]) (n := 4) (Nat.le_of_ble_eq_true rfl)
  rw [lg_entry_eq]
  generalize (lg_sl ([.ref a]) ++ List.replicate (4 - (lg_sl ([.ref a])).length) Slot.unset).toArray = ls at hl ⊢
  have hl : lv_has ls 4 [(0, .ref a)] := hl
  exact t_X12_price_0 (fu := fu) hM hml B.returns B.notSynchronized hf ha (fun _ _ => rfl) _ _ hW _ (lv_sub hl [0] rfl)
abbrev RM_X12_painters : Room := { frames := 4, cells := 0, slots := 0, locals := 97 }
abbrev w_X12_painters : List Cond := Cond.code yX12_painters cX12_painters 1 (some .int) :: wsL_law0
noncomputable def f_X12_painters_0 (fu : Nat)  (S : ST) (a : Nat) : Option (Int32 × ST) :=
  ck (decide (gC (S (a + 29)) = 7)) <|
  ck (decide (gC (S (a + 9)) = 3)) <|
  bd (gR (S a) 12) fun q3 =>
  ck (decide (gC (S q3) = 1)) <|
  bd (f_X7_weigh fu S (a + 29) (a + 9) q3) fun S6 =>
  bd (f_X7_total fu (S6 (a + 29))) fun r7 =>
  some (r7, S6)
set_option maxHeartbeats 4000000 in
set_option maxRecDepth 100000 in
theorem t_X12_painters_0 {G : GG} {p : Program} {l : Launch} {e : Env} {s : State} {m : MethodId} {args : Array Value} {below : List Frame} {meth : Method} {c : Code} {S0 : ST} {fu : Nat} {z : Int32 × ST} {a : Nat}  {S : ST} (hM : MC G p s m args c cX12_painters w_X12_painters RX12) (hml : c.maxLocals = 1) (hr : meth.sig.returnType = (some .int)) (hlk : meth.locks = false)   (hf : f_X12_painters_0 fu  S a  = some z) : (gC (S a) = 11) → (∀ b, gC (S0 b) ≠ 0 → gC (S b) = gC (S0 b)) → ∀ (H : Heap) (locs : List Loc), WB G S s H locs → ∀ (ls : Array Slot), lv_has ls 1 [(0, .ref a)] → W p l e RM_X12_painters s m args below meth c H locs 0 0 (QR G below args s (some (.int z.1)) S0 z.2) (F0 m 0 ls []) := by
  intro ha hK0 H locs hW ls hl
  have hx := hM.1
  have hb := hM.2.1
  refine lv_aload_n hx hb dX12_painters_0 rfl (lv_at hl 0 rfl) ?_
  refine b_get hM (hW.at_ a) 10 7 ha rfl rfl (by decide) wi_X12 (wgm fk_RX12_52) (x := .ref (a + 29)) rfl dX12_painters_1 ?_
  obtain ⟨h1, hf⟩ := ck_elim hf
  have h1 := of_decide_eq_true h1
  refine lv_aload_n hx hb dX12_painters_4 rfl (lv_at hl 0 rfl) ?_
  refine b_get hM (hW.at_ a) 10 2 ha rfl rfl (by decide) wi_X12 (wgm fk_RX12_28) (x := .ref (a + 9)) rfl dX12_painters_5 ?_
  obtain ⟨h2, hf⟩ := ck_elim hf
  have h2 := of_decide_eq_true h2
  refine lv_aload_n hx hb dX12_painters_8 rfl (lv_at hl 0 rfl) ?_
  obtain ⟨q3, hq3, hf⟩ := bd_elim hf
  refine b_get hM (hW.at_ a) 10 12 ha rfl rfl (by decide) wi_X12 (wgm fk_RX12_76) (x := .ref q3) (by show va_rf _ = _; rw [hq3]; rfl) dX12_painters_9 ?_
  obtain ⟨h4, hf⟩ := ck_elim hf
  have h4 := of_decide_eq_true h4
  obtain ⟨S6, hr5, hf⟩ := bd_elim hf
  refine s_callVv [.ref (a + 9), .ref q3] [] hM hml hl.1 hW h1 rfl (by decide) (c_X7_weigh l G fu _ (a + 29) _ _ h1 h2 h4 hr5) (cwV 2 hM.2.2.2.1 (gV mk_RX12_296 im_X7_weigh se_X7_weigh it_RX7 cd_X7_weigh) rfl rfl rfl (by decide +kernel) ⟨Nat.le_of_ble_eq_true rfl, Nat.le_of_ble_eq_true rfl⟩) rfl rfl (Nat.le_of_ble_eq_true rfl) ⟨Nat.zero_le _, Nat.zero_le _⟩ dX12_painters_12 (fun H locs hW hk => ?_)
  have ha := keep1 hk ha
  have h1 := keep1 hk h1
  have h2 := keep1 hk h2
  have h4 := keep1 hk h4
  have hK0 := keep_tr hK0 hk
  refine lv_aload_n hx hb dX12_painters_15 rfl (lv_at hl 0 rfl) ?_
  refine b_get hM (hW.at_ a) 10 7 ha rfl rfl (by decide) wi_X12 (wgm fk_RX12_52) (x := .ref (a + 29)) rfl dX12_painters_16 ?_
  obtain ⟨r7, hr7, hf⟩ := bd_elim hf
  refine s_callVi [] [] hM hml hl.1 hW h1 rfl (by decide) (Ct_rd (c_X7_total l G fu _ (a + 29) (S6 (a + 29)) h1 hr7)) (cwV 0 hM.2.2.2.1 (gV mk_RX12_300 im_X7_total se_X7_total it_RX7 cd_X7_total) rfl rfl rfl (by decide +kernel) ⟨Nat.le_of_ble_eq_true rfl, Nat.le_of_ble_eq_true rfl⟩) rfl rfl (Nat.le_of_ble_eq_true rfl) ⟨Nat.zero_le _, Nat.zero_le _⟩ dX12_painters_19 (fun H locs hW hk => ?_)
  cases hf
  exact W.iret hx hb hr (b_ret0 hW hK0 _) hW.2.2.2 dX12_painters_22 hlk
noncomputable def f_X12_painters (fu : Nat) (S : ST) (a : Nat) : Option (Int32 × ST) := f_X12_painters_0 fu S a
set_option maxHeartbeats 4000000 in
set_option maxRecDepth 100000 in
theorem c_X12_painters (l : Launch) (G : GG) (fu : Nat) (S : ST) (a : Nat) {z : Int32} {w : ST} (ha : gC (S a) = 11) (hf : f_X12_painters fu S a = some (z, w)) : Ct l yX12_painters w_X12_painters RM_X12_painters G S [.ref a] (some (.int z)) w 0 0 := by
  refine Met.ofW (cc := cX12_painters) (maxL := 1) (ret := (some .int)) (by decide) rfl ?_
  intro p e s m args below meth c s₁ B hml hv
  obtain ⟨rfl, hB, hK, hz⟩ := hv
  have hM : MC G p s m _ c cX12_painters w_X12_painters RX12 := ⟨B.exec, B.bytes, findClass_of_methodNamed B.named, atoms_spec (ws := w_X12_painters) B.pre, hK, hz⟩
  have hW : WB G S s s.heap [] := ⟨hB, va_S.rf⟩
  have hl := lv_entry ([.ref a]) (n := 1) (Nat.le_of_ble_eq_true rfl)
  rw [lg_entry_eq]
  generalize (lg_sl ([.ref a]) ++ List.replicate (1 - (lg_sl ([.ref a])).length) Slot.unset).toArray = ls at hl ⊢
  have hl : lv_has ls 1 [(0, .ref a)] := hl
  exact t_X12_painters_0 (fu := fu) hM hml B.returns B.notSynchronized hf ha (fun _ _ => rfl) _ _ hW _ (lv_sub hl [0] rfl)
abbrev RM_X12_painter : Room := { frames := 4, cells := 0, slots := 0, locals := 97 }
abbrev w_X12_painter : List Cond := Cond.code yX12_painter cX12_painter 3 (some .int) :: wsL_law0
noncomputable def f_X12_painter_16 (fu : Nat)  (S : ST) (a : Nat) : Option (Int32 × ST) :=
  some ((-1 : Int32), S)
set_option maxHeartbeats 4000000 in
set_option maxRecDepth 100000 in
theorem t_X12_painter_16 {G : GG} {p : Program} {l : Launch} {e : Env} {s : State} {m : MethodId} {args : Array Value} {below : List Frame} {meth : Method} {c : Code} {S0 : ST} {fu : Nat} {z : Int32 × ST} {a : Nat}  {S : ST} (hM : MC G p s m args c cX12_painter w_X12_painter RX12) (hml : c.maxLocals = 3) (hr : meth.sig.returnType = (some .int)) (hlk : meth.locks = false)   (hf : f_X12_painter_16 fu  S a  = some z) : (gC (S a) = 11) → (∀ b, gC (S0 b) ≠ 0 → gC (S b) = gC (S0 b)) → ∀ (H : Heap) (locs : List Loc), WB G S s H locs → ∀ (ls : Array Slot), lv_has ls 3 [] → W p l e RM_X12_painter s m args below meth c H locs 0 0 (QR G below args s (some (.int z.1)) S0 z.2) (F0 m 16 ls []) := by
  intro ha hK0 H locs hW ls hl
  have hx := hM.1
  have hb := hM.2.1
  refine lv_iconst (v := (-1 : Int32)) hx hb dX12_painter_16 (by decide) ?_
  cases hf
  exact W.iret hx hb hr (b_ret0 hW hK0 _) hW.2.2.2 dX12_painter_17 hlk
noncomputable def f_X12_painter_0 (fu : Nat)  (S : ST) (a : Nat) (x1 : Int32) (x2 : Int32) : Option (Int32 × ST) :=
  if x1 < (1 : Int32) then
    (f_X12_painter_16 fu S a)
  else
    (ck (decide (gC (S (a + 9)) = 3)) <|
    bd (f_X3_isThere fu (S (a + 9)) x1) fun r3 =>
    if r3 = 0 then
      (f_X12_painter_16 fu S a)
    else
      (ck (decide (gC (S (a + 29)) = 7)) <|
      bd (gR (S a) 12) fun q6 =>
      ck (decide (gC (S q6) = 1)) <|
      bd (f_X7_weigh fu S (a + 29) (a + 9) q6) fun S9 =>
      if x2 = 0 then
        (bd (f_X7_inFirst fu (S9 (a + 29)) x1) fun r11 =>
        some (r11, S9))
      else
        (bd2 (f_X7_inAll fu (S9 (a + 29)) x1) fun r12 v13 =>
        nm (st S9 (a + 29) v13) fun Sv13 =>
        some (r12, Sv13))))
set_option maxHeartbeats 4000000 in
set_option maxRecDepth 100000 in
theorem t_X12_painter_0 {G : GG} {p : Program} {l : Launch} {e : Env} {s : State} {m : MethodId} {args : Array Value} {below : List Frame} {meth : Method} {c : Code} {S0 : ST} {fu : Nat} {z : Int32 × ST} {a : Nat}  {S : ST} {x1 : Int32} {x2 : Int32} (hM : MC G p s m args c cX12_painter w_X12_painter RX12) (hml : c.maxLocals = 3) (hr : meth.sig.returnType = (some .int)) (hlk : meth.locks = false)   (hf : f_X12_painter_0 fu  S a x1 x2 = some z) : (gC (S a) = 11) → (∀ b, gC (S0 b) ≠ 0 → gC (S b) = gC (S0 b)) → ∀ (H : Heap) (locs : List Loc), WB G S s H locs → ∀ (ls : Array Slot), lv_has ls 3 [(0, .ref a), (1, .int x1), (2, .int x2)] → W p l e RM_X12_painter s m args below meth c H locs 0 0 (QR G below args s (some (.int z.1)) S0 z.2) (F0 m 0 ls []) := by
  intro ha hK0 H locs hW ls hl
  have hx := hM.1
  have hb := hM.2.1
  refine lv_iload_n hx hb dX12_painter_0 rfl (lv_at hl 1 rfl) ?_
  refine lv_iconst (v := (1 : Int32)) hx hb dX12_painter_1 (by decide) ?_
  refine lv_icmp_lt (tgt := 16) hx hb dX12_painter_2 (by decide) (fun c1 => ?_) (fun c1 => ?_)
  · have hf := if_t c1 hf
    exact t_X12_painter_16 (fu := fu) hM hml hr hlk hf ha hK0 _ _ hW _ (lv_sub hl [] rfl)
  · have hf := if_f c1 hf
    refine lv_aload_n hx hb dX12_painter_5 rfl (lv_at hl 0 rfl) ?_
    refine b_get hM (hW.at_ a) 10 2 ha rfl rfl (by decide) wi_X12 (wgm fk_RX12_28) (x := .ref (a + 9)) rfl dX12_painter_6 ?_
    obtain ⟨h2, hf⟩ := ck_elim hf
    have h2 := of_decide_eq_true h2
    refine lv_iload_n hx hb dX12_painter_9 rfl (lv_at hl 1 rfl) ?_
    obtain ⟨r3, hr3, hf⟩ := bd_elim hf
    refine s_callVi [.int x1] [] hM hml hl.1 hW h2 rfl (by decide) (Ct_rd (c_X3_isThere l G fu _ (a + 9) (S (a + 9)) _ h2 hr3)) (cwV 1 hM.2.2.2.1 (gV mk_RX12_130 im_X3_isThere se_X3_isThere it_RX3 cd_X3_isThere) rfl rfl rfl (by decide +kernel) ⟨Nat.le_of_ble_eq_true rfl, Nat.le_of_ble_eq_true rfl⟩) rfl rfl (Nat.le_of_ble_eq_true rfl) ⟨Nat.zero_le _, Nat.zero_le _⟩ dX12_painter_10 (fun H locs hW hk => ?_)
    refine lv_if_ne (tgt := 18) hx hb dX12_painter_13 (by decide) (fun c4 => ?_) (fun c4 => ?_)
    · have hf := if_f c4 hf
      refine lv_aload_n hx hb dX12_painter_18 rfl (lv_at hl 0 rfl) ?_
      refine b_get hM (hW.at_ a) 10 7 ha rfl rfl (by decide) wi_X12 (wgm fk_RX12_52) (x := .ref (a + 29)) rfl dX12_painter_19 ?_
      obtain ⟨h5, hf⟩ := ck_elim hf
      have h5 := of_decide_eq_true h5
      refine lv_aload_n hx hb dX12_painter_22 rfl (lv_at hl 0 rfl) ?_
      refine b_get hM (hW.at_ a) 10 2 ha rfl rfl (by decide) wi_X12 (wgm fk_RX12_28) (x := .ref (a + 9)) rfl dX12_painter_23 ?_
      refine lv_aload_n hx hb dX12_painter_26 rfl (lv_at hl 0 rfl) ?_
      obtain ⟨q6, hq6, hf⟩ := bd_elim hf
      refine b_get hM (hW.at_ a) 10 12 ha rfl rfl (by decide) wi_X12 (wgm fk_RX12_76) (x := .ref q6) (by show va_rf _ = _; rw [hq6]; rfl) dX12_painter_27 ?_
      obtain ⟨h7, hf⟩ := ck_elim hf
      have h7 := of_decide_eq_true h7
      obtain ⟨S9, hr8, hf⟩ := bd_elim hf
      refine s_callVv [.ref (a + 9), .ref q6] [] hM hml hl.1 hW h5 rfl (by decide) (c_X7_weigh l G fu _ (a + 29) _ _ h5 h2 h7 hr8) (cwV 2 hM.2.2.2.1 (gV mk_RX12_296 im_X7_weigh se_X7_weigh it_RX7 cd_X7_weigh) rfl rfl rfl (by decide +kernel) ⟨Nat.le_of_ble_eq_true rfl, Nat.le_of_ble_eq_true rfl⟩) rfl rfl (Nat.le_of_ble_eq_true rfl) ⟨Nat.zero_le _, Nat.zero_le _⟩ dX12_painter_30 (fun H locs hW hk => ?_)
      have ha := keep1 hk ha
      have h2 := keep1 hk h2
      have h5 := keep1 hk h5
      have h7 := keep1 hk h7
      have hK0 := keep_tr hK0 hk
      refine lv_iload_n hx hb dX12_painter_33 rfl (lv_at hl 2 rfl) ?_
      refine lv_if_eq (tgt := 48) hx hb dX12_painter_34 (by decide) (fun c10 => ?_) (fun c10 => ?_)
      · have hf := if_t c10 hf
        refine lv_aload_n hx hb dX12_painter_48 rfl (lv_at hl 0 rfl) ?_
        refine b_get hM (hW.at_ a) 10 7 ha rfl rfl (by decide) wi_X12 (wgm fk_RX12_52) (x := .ref (a + 29)) rfl dX12_painter_49 ?_
        refine lv_iload_n hx hb dX12_painter_52 rfl (lv_at hl 1 rfl) ?_
        obtain ⟨r11, hr11, hf⟩ := bd_elim hf
        refine s_callVi [.int x1] [] hM hml hl.1 hW h5 rfl (by decide) (Ct_rd (c_X7_inFirst l G fu _ (a + 29) (S9 (a + 29)) _ h5 hr11)) (cwV 1 hM.2.2.2.1 (gV mk_RX12_306 im_X7_inFirst se_X7_inFirst it_RX7 cd_X7_inFirst) rfl rfl rfl (by decide +kernel) ⟨Nat.le_of_ble_eq_true rfl, Nat.le_of_ble_eq_true rfl⟩) rfl rfl (Nat.le_of_ble_eq_true rfl) ⟨Nat.zero_le _, Nat.zero_le _⟩ dX12_painter_53 (fun H locs hW hk => ?_)
        cases hf
        exact W.iret hx hb hr (b_ret0 hW hK0 _) hW.2.2.2 dX12_painter_56 hlk
      · have hf := if_f c10 hf
        refine lv_aload_n hx hb dX12_painter_37 rfl (lv_at hl 0 rfl) ?_
        refine b_get hM (hW.at_ a) 10 7 ha rfl rfl (by decide) wi_X12 (wgm fk_RX12_52) (x := .ref (a + 29)) rfl dX12_painter_38 ?_
        refine lv_iload_n hx hb dX12_painter_41 rfl (lv_at hl 1 rfl) ?_
        obtain ⟨r12, v13, hr12, hf⟩ := bd2_elim hf
        refine s_callNi [.int x1] [] hM hml hl.1 hW h5 rfl (by decide) (Ct_self (c_X7_inAll l G fu _ (a + 29) (S9 (a + 29)) _ h5 hr12)) (cwV 1 hM.2.2.2.1 (gV mk_RX12_303 im_X7_inAll se_X7_inAll it_RX7 cd_X7_inAll) rfl rfl rfl (by decide +kernel) ⟨Nat.le_of_ble_eq_true rfl, Nat.le_of_ble_eq_true rfl⟩) rfl rfl (Nat.le_of_ble_eq_true rfl) ⟨Nat.zero_le _, Nat.zero_le _⟩ dX12_painter_42 (fun Sv13 ev13 hk H locs hW => ?_)
        have hf := nm_at ev13 hf
        have ha := keep1 hk ha
        have h2 := keep1 hk h2
        have h5 := keep1 hk h5
        have h7 := keep1 hk h7
        have hK0 := keep_tr hK0 hk
        refine lv_goto (tgt := 56) hx hb dX12_painter_45 (by decide) ?_
        cases hf
        exact W.iret hx hb hr (b_ret0 hW hK0 _) hW.2.2.2 dX12_painter_56 hlk
    · have hf := if_t c4 hf
      exact t_X12_painter_16 (fu := fu) hM hml hr hlk hf ha hK0 _ _ hW _ (lv_sub hl [] rfl)
noncomputable def f_X12_painter (fu : Nat) (S : ST) (a : Nat) (x1 : Int32) (x2 : Int32) : Option (Int32 × ST) := f_X12_painter_0 fu S a x1 x2
set_option maxHeartbeats 4000000 in
set_option maxRecDepth 100000 in
theorem c_X12_painter (l : Launch) (G : GG) (fu : Nat) (S : ST) (a : Nat) (x1 : Int32) (x2 : Int32) {z : Int32} {w : ST} (ha : gC (S a) = 11) (hf : f_X12_painter fu S a x1 x2 = some (z, w)) : Ct l yX12_painter w_X12_painter RM_X12_painter G S [.ref a, .int x1, .int x2] (some (.int z)) w 0 0 := by
  refine Met.ofW (cc := cX12_painter) (maxL := 3) (ret := (some .int)) (by decide) rfl ?_
  intro p e s m args below meth c s₁ B hml hv
  obtain ⟨rfl, hB, hK, hz⟩ := hv
  have hM : MC G p s m _ c cX12_painter w_X12_painter RX12 := ⟨B.exec, B.bytes, findClass_of_methodNamed B.named, atoms_spec (ws := w_X12_painter) B.pre, hK, hz⟩
  have hW : WB G S s s.heap [] := ⟨hB, va_S.rf⟩
  have hl := lv_entry ([.ref a, .int x1, .int x2]) (n := 3) (Nat.le_of_ble_eq_true rfl)
  rw [lg_entry_eq]
  generalize (lg_sl ([.ref a, .int x1, .int x2]) ++ List.replicate (3 - (lg_sl ([.ref a, .int x1, .int x2])).length) Slot.unset).toArray = ls at hl ⊢
  have hl : lv_has ls 3 [(0, .ref a), (1, .int x1), (2, .int x2)] := hl
  exact t_X12_painter_0 (fu := fu) hM hml B.returns B.notSynchronized hf ha (fun _ _ => rfl) _ _ hW _ (lv_sub hl [0, 1, 2] rfl)
abbrev RM_X12_known : Room := { frames := 1, cells := 0, slots := 0, locals := 24 }
abbrev w_X12_known : List Cond := Cond.code yX12_known cX12_known 5 (some .int) :: wsL_law0
noncomputable def f_X12_known_49 (fu : Nat) (k5 : Int32 → Int32 → Option (Int32)) (S : ST) (a : Nat) (x1 : Int32) (x2 : Int32) (x3 : Int32) (x4 : Int32) : Option (Int32) :=
  nm (x4 + (1 : Int32)) fun y1 =>
  k5 x3 y1
set_option maxHeartbeats 4000000 in
set_option maxRecDepth 100000 in
theorem t_X12_known_49 {G : GG} {p : Program} {l : Launch} {e : Env} {s : State} {m : MethodId} {args : Array Value} {below : List Frame} {meth : Method} {c : Code} {S : ST} {fu : Nat} {z : Int32} {a : Nat} {k5 : Int32 → Int32 → Option (Int32)} {x1 : Int32} {x2 : Int32} {x3 : Int32} {x4 : Int32} (hM : MC G p s m args c cX12_known w_X12_known RX12) (hml : c.maxLocals = 5) (hr : meth.sig.returnType = (some .int)) (hlk : meth.locks = false) (ha : gC (S a) = 11) (hk5 : ∀ (x3 : Int32) (x4 : Int32), k5 x3 x4 = some z → ∀ (H : Heap) (locs : List Loc), WB G S s H locs → ∀ (ls : Array Slot), lv_has ls 5 [(0, .ref a), (1, .int x1), (2, .int x2), (3, .int x3), (4, .int x4)] → W p l e RM_X12_known s m args below meth c H locs 0 0 (QR G below args s (some (.int z)) S S) (F0 m 5 ls [])) (hf : f_X12_known_49 fu k5 S a x1 x2 x3 x4 = some z) : ∀ (H : Heap) (locs : List Loc), WB G S s H locs → ∀ (ls : Array Slot), lv_has ls 5 [(0, .ref a), (1, .int x1), (2, .int x2), (3, .int x3), (4, .int x4)] → W p l e RM_X12_known s m args below meth c H locs 0 0 (QR G below args s (some (.int z)) S S) (F0 m 49 ls []) := by
  intro  H locs hW ls hl
  have hx := hM.1
  have hb := hM.2.1
  obtain ⟨y1, ey1⟩ : ∃ y : Int32, y = x4 + (1 : Int32) := ⟨_, rfl⟩
  have hf := nm_at ey1 hf
  refine lv_iinc (v := y1) (lv' := [(4, .int y1), (0, .ref a), (1, .int x1), (2, .int x2), (3, .int x3)]) hx hb dX12_known_49 hl (k := 4) rfl (by rw [ey1]; rfl) (by decide) rfl (fun ls hl => ?_)
  refine lv_goto (tgt := 5) hx hb dX12_known_52 (by decide) ?_
  exact hk5 _ _ hf _ _ hW _ (lv_sub hl [1, 2, 3, 4, 0] rfl)
noncomputable def f_X12_known_5s (fu : Nat)  (k5 : Int32 → Int32 → Option (Int32)) (S : ST) (a : Nat) (x1 : Int32) (x2 : Int32) (x3 : Int32) (x4 : Int32) : Option (Int32) :=
  ck (decide (gC (S (a + 9)) = 3)) <|
  if (gI (S (a + 9)) 7) ≤ x4 then
    (some (x3))
  else
    (bd (gR (S a) 12) fun q3 =>
    ck (decide (gC (S q3) = 1)) <|
    ck (inb x1 4) <|
    bd (f_X3_alike fu (S (a + 9)) x4 (gA (S q3) 6 x1.toNatClampNeg)) fun r6 =>
    if (r6 &&& (x2 ^^^ (-1 : Int32))) = 0 then
      (nm ((x3 ||| ((1 : Int32) <<< (x4 &&& 31)))) fun y8 =>
      f_X12_known_49 fu k5 S a x1 x2 y8 x4)
    else
      (f_X12_known_49 fu k5 S a x1 x2 x3 x4))
noncomputable def f_X12_known_5 (fu n : Nat)  (S : ST) (a : Nat) (x1 : Int32) (x2 : Int32) : Int32 → Int32 → Option (Int32) :=
  lq_2 (fun k5 => f_X12_known_5s fu  k5 S a x1 x2) n
set_option maxHeartbeats 4000000 in
set_option maxRecDepth 100000 in
theorem t_X12_known_5s {G : GG} {p : Program} {l : Launch} {e : Env} {s : State} {m : MethodId} {args : Array Value} {below : List Frame} {meth : Method} {c : Code} {S : ST} {fu : Nat} {z : Int32} {a : Nat}  {k5 : Int32 → Int32 → Option (Int32)} {x1 : Int32} {x2 : Int32} (hM : MC G p s m args c cX12_known w_X12_known RX12) (hml : c.maxLocals = 5) (hr : meth.sig.returnType = (some .int)) (hlk : meth.locks = false) (ha : gC (S a) = 11)  (hk5 : ∀ (x3 : Int32) (x4 : Int32), k5 x3 x4 = some z → ∀ (H : Heap) (locs : List Loc), WB G S s H locs → ∀ (ls : Array Slot), lv_has ls 5 [(0, .ref a), (1, .int x1), (2, .int x2), (3, .int x3), (4, .int x4)] → W p l e RM_X12_known s m args below meth c H locs 0 0 (QR G below args s (some (.int z)) S S) (F0 m 5 ls [])) : ∀ (x3 : Int32) (x4 : Int32), f_X12_known_5s fu  k5 S a x1 x2 x3 x4 = some z → ∀ (H : Heap) (locs : List Loc), WB G S s H locs → ∀ (ls : Array Slot), lv_has ls 5 [(0, .ref a), (1, .int x1), (2, .int x2), (3, .int x3), (4, .int x4)] → W p l e RM_X12_known s m args below meth c H locs 0 0 (QR G below args s (some (.int z)) S S) (F0 m 5 ls []) := by
  intro x3 x4 hf  H locs hW ls hl
  have hx := hM.1
  have hb := hM.2.1
  refine lv_iload hx hb dX12_known_5 (lv_at hl 4 rfl) ?_
  refine lv_aload_n hx hb dX12_known_7 rfl (lv_at hl 0 rfl) ?_
  refine b_get hM (hW.at_ a) 10 2 ha rfl rfl (by decide) wi_X12 (wgm fk_RX12_28) (x := .ref (a + 9)) rfl dX12_known_8 ?_
  obtain ⟨h1, hf⟩ := ck_elim hf
  have h1 := of_decide_eq_true h1
  refine b_get hM (hW.at_ (a + 9)) 2 7 h1 rfl rfl (by decide) wi_X3 (wgm fk_RX12_176) (x := .int (gI (S (a + 9)) 7)) rfl dX12_known_11 ?_
  refine lv_icmp_ge (tgt := 55) hx hb dX12_known_14 (by decide) (fun c2 => ?_) (fun c2 => ?_)
  · have hf := if_t c2 hf
    refine lv_iload_n hx hb dX12_known_55 rfl (lv_at hl 3 rfl) ?_
    cases hf
    exact W.iret hx hb hr (b_ret0 hW (fun _ _ => rfl) _) hW.2.2.2 dX12_known_56 hlk
  · have hf := if_f c2 hf
    refine lv_aload_n hx hb dX12_known_17 rfl (lv_at hl 0 rfl) ?_
    refine b_get hM (hW.at_ a) 10 2 ha rfl rfl (by decide) wi_X12 (wgm fk_RX12_28) (x := .ref (a + 9)) rfl dX12_known_18 ?_
    refine lv_iload hx hb dX12_known_21 (lv_at hl 4 rfl) ?_
    refine lv_aload_n hx hb dX12_known_23 rfl (lv_at hl 0 rfl) ?_
    obtain ⟨q3, hq3, hf⟩ := bd_elim hf
    refine b_get hM (hW.at_ a) 10 12 ha rfl rfl (by decide) wi_X12 (wgm fk_RX12_76) (x := .ref q3) (by show va_rf _ = _; rw [hq3]; rfl) dX12_known_24 ?_
    obtain ⟨h4, hf⟩ := ck_elim hf
    have h4 := of_decide_eq_true h4
    refine b_get hM (hW.at_ q3) 0 6 h4 rfl rfl (by decide) wi_X1 (wgm fk_RX12_315) (x := .ref (q3 + 7)) rfl dX12_known_27 ?_
    refine lv_iload_n hx hb dX12_known_30 rfl (lv_at hl 1 rfl) ?_
    obtain ⟨h5, hf⟩ := ck_elim hf
    refine b_iald (n := 4) hM (hW.at_ q3) 0 6 h4 (by decide) rfl rfl rfl rfl h5 dX12_known_31 ?_
    obtain ⟨r6, hr6, hf⟩ := bd_elim hf
    refine s_callVi [.int x4, .int (gA (S q3) 6 x1.toNatClampNeg)] [] hM hml hl.1 hW h1 rfl (by decide) (Ct_rd (c_X3_alike l G fu _ (a + 9) (S (a + 9)) _ _ h1 hr6)) (cwV 2 hM.2.2.2.1 (gV mk_RX12_318 im_X3_alike se_X3_alike it_RX3 cd_X3_alike) rfl rfl rfl (by decide +kernel) ⟨Nat.le_of_ble_eq_true rfl, Nat.le_of_ble_eq_true rfl⟩) rfl rfl (Nat.le_of_ble_eq_true rfl) ⟨Nat.zero_le _, Nat.zero_le _⟩ dX12_known_32 (fun H locs hW hk => ?_)
    refine lv_iload_n hx hb dX12_known_35 rfl (lv_at hl 2 rfl) ?_
    refine lv_iconst (v := (-1 : Int32)) hx hb dX12_known_36 (by decide) ?_
    refine lv_ixor hx hb dX12_known_37 ?_
    refine lv_iand hx hb dX12_known_38 ?_
    refine lv_if_ne (tgt := 49) hx hb dX12_known_39 (by decide) (fun c7 => ?_) (fun c7 => ?_)
    · have hf := if_f c7 hf
      exact t_X12_known_49 (fu := fu) hM hml hr hlk ha hk5 hf _ _ hW _ (lv_sub hl [0, 1, 2, 3, 4] rfl)
    · have hf := if_t c7 hf
      refine lv_iload_n hx hb dX12_known_42 rfl (lv_at hl 3 rfl) ?_
      refine lv_iconst (v := (1 : Int32)) hx hb dX12_known_43 (by decide) ?_
      refine lv_iload hx hb dX12_known_44 (lv_at hl 4 rfl) ?_
      refine lv_ishl hx hb dX12_known_46 ?_
      refine lv_ior hx hb dX12_known_47 ?_
      refine lv_topi (fun y8 ey8 => ?_)
      have hf := nm_at ey8 hf
      refine lv_istore_n (lv' := [(3, .int y8), (0, .ref a), (1, .int x1), (2, .int x2), (4, .int x4)]) hx hb dX12_known_48 rfl hl (by decide) rfl (fun ls hl => ?_)
      exact t_X12_known_49 (fu := fu) hM hml hr hlk ha hk5 hf _ _ hW _ (lv_sub hl [1, 2, 3, 0, 4] rfl)
theorem t_X12_known_5 {G : GG} {p : Program} {l : Launch} {e : Env} {s : State} {m : MethodId} {args : Array Value} {below : List Frame} {meth : Method} {c : Code} {S : ST} {fu : Nat} {z : Int32} {a : Nat}  {x1 : Int32} {x2 : Int32} (hM : MC G p s m args c cX12_known w_X12_known RX12) (hml : c.maxLocals = 5) (hr : meth.sig.returnType = (some .int)) (hlk : meth.locks = false) (ha : gC (S a) = 11)  : ∀ {n : Nat} (x3 : Int32) (x4 : Int32), f_X12_known_5 fu n  S a x1 x2 x3 x4 = some z → ∀ (H : Heap) (locs : List Loc), WB G S s H locs → ∀ (ls : Array Slot), lv_has ls 5 [(0, .ref a), (1, .int x1), (2, .int x2), (3, .int x3), (4, .int x4)] → W p l e RM_X12_known s m args below meth c H locs 0 0 (QR G below args s (some (.int z)) S S) (F0 m 5 ls []) := by
  intro n
  induction n with
  | zero => intro x3 x4 hf; cases hf
  | succ n ih => intro x3 x4 hf; exact t_X12_known_5s (fu := fu) hM hml hr hlk ha (k5 := f_X12_known_5 fu n  S a x1 x2) ih _ _ hf
noncomputable def f_X12_known_0 (fu : Nat)  (S : ST) (a : Nat) (x1 : Int32) (x2 : Int32) : Option (Int32) :=
  f_X12_known_5 fu fu S a x1 x2 (0 : Int32) (0 : Int32)
set_option maxHeartbeats 4000000 in
set_option maxRecDepth 100000 in
theorem t_X12_known_0 {G : GG} {p : Program} {l : Launch} {e : Env} {s : State} {m : MethodId} {args : Array Value} {below : List Frame} {meth : Method} {c : Code} {S : ST} {fu : Nat} {z : Int32} {a : Nat}  {x1 : Int32} {x2 : Int32} (hM : MC G p s m args c cX12_known w_X12_known RX12) (hml : c.maxLocals = 5) (hr : meth.sig.returnType = (some .int)) (hlk : meth.locks = false) (ha : gC (S a) = 11)  (hf : f_X12_known_0 fu  S a x1 x2 = some z) : ∀ (H : Heap) (locs : List Loc), WB G S s H locs → ∀ (ls : Array Slot), lv_has ls 5 [(0, .ref a), (1, .int x1), (2, .int x2)] → W p l e RM_X12_known s m args below meth c H locs 0 0 (QR G below args s (some (.int z)) S S) (F0 m 0 ls []) := by
  intro  H locs hW ls hl
  have hx := hM.1
  have hb := hM.2.1
  refine lv_iconst (v := (0 : Int32)) hx hb dX12_known_0 (by decide) ?_
  refine lv_istore_n (lv' := [(3, .int (0 : Int32)), (0, .ref a), (1, .int x1), (2, .int x2)]) hx hb dX12_known_1 rfl hl (by decide) rfl (fun ls hl => ?_)
  refine lv_iconst (v := (0 : Int32)) hx hb dX12_known_2 (by decide) ?_
  refine lv_istore (lv' := [(4, .int (0 : Int32)), (3, .int (0 : Int32)), (0, .ref a), (1, .int x1), (2, .int x2)]) hx hb dX12_known_3 hl (by decide) rfl (fun ls hl => ?_)
  exact t_X12_known_5 (fu := fu) hM hml hr hlk ha _ _ hf _ _ hW _ (lv_sub hl [2, 3, 4, 1, 0] rfl)
noncomputable def f_X12_known (fu : Nat) (S : ST) (a : Nat) (x1 : Int32) (x2 : Int32) : Option (Int32) := f_X12_known_0 fu S a x1 x2
set_option maxHeartbeats 4000000 in
set_option maxRecDepth 100000 in
theorem c_X12_known (l : Launch) (G : GG) (fu : Nat) (S : ST) (a : Nat) (x1 : Int32) (x2 : Int32) {z : Int32} (ha : gC (S a) = 11) (hf : f_X12_known fu S a x1 x2 = some z) : Ct l yX12_known w_X12_known RM_X12_known G S [.ref a, .int x1, .int x2] (some (.int z)) S 0 0 := by
  refine Met.ofW (cc := cX12_known) (maxL := 5) (ret := (some .int)) (by decide) rfl ?_
  intro p e s m args below meth c s₁ B hml hv
  obtain ⟨rfl, hB, hK, hz⟩ := hv
  have hM : MC G p s m _ c cX12_known w_X12_known RX12 := ⟨B.exec, B.bytes, findClass_of_methodNamed B.named, atoms_spec (ws := w_X12_known) B.pre, hK, hz⟩
  have hW : WB G S s s.heap [] := ⟨hB, va_S.rf⟩
  have hl := lv_entry ([.ref a, .int x1, .int x2]) (n := 5) (Nat.le_of_ble_eq_true rfl)
  rw [lg_entry_eq]
  generalize (lg_sl ([.ref a, .int x1, .int x2]) ++ List.replicate (5 - (lg_sl ([.ref a, .int x1, .int x2])).length) Slot.unset).toArray = ls at hl ⊢
  have hl : lv_has ls 5 [(0, .ref a), (1, .int x1), (2, .int x2)] := hl
  exact t_X12_known_0 (fu := fu) hM hml B.returns B.notSynchronized ha hf _ _ hW _ (lv_sub hl [0, 1, 2] rfl)
abbrev RM_X12_knows : Room := { frames := 2, cells := 0, slots := 0, locals := 48 }
abbrev w_X12_knows : List Cond := Cond.code yX12_knows cX12_knows 4 (some .int) :: wsL_law0
noncomputable def f_X12_knows_28 (fu : Nat)  (S : ST) (a : Nat) (x1 : Int32) (x2 : Int32) (t0 : Int32) : Option (Int32) :=
  if t0 = 0 then
    (some ((-1 : Int32)))
  else
    (bd (f_X12_known fu S a x1 x2) fun r2 =>
    some (r2))
set_option maxHeartbeats 4000000 in
set_option maxRecDepth 100000 in
theorem t_X12_knows_28 {G : GG} {p : Program} {l : Launch} {e : Env} {s : State} {m : MethodId} {args : Array Value} {below : List Frame} {meth : Method} {c : Code} {S : ST} {fu : Nat} {z : Int32} {a : Nat}  {x1 : Int32} {x2 : Int32} {t0 : Int32} (hM : MC G p s m args c cX12_knows w_X12_knows RX12) (hml : c.maxLocals = 4) (hr : meth.sig.returnType = (some .int)) (hlk : meth.locks = false) (ha : gC (S a) = 11)  (hf : f_X12_knows_28 fu  S a x1 x2 t0 = some z) : ∀ (H : Heap) (locs : List Loc), WB G S s H locs → ∀ (ls : Array Slot), lv_has ls 4 [(0, .ref a), (1, .int x1), (2, .int x2)] → W p l e RM_X12_knows s m args below meth c H locs 0 0 (QR G below args s (some (.int z)) S S) (F0 m 28 ls [.int t0]) := by
  intro  H locs hW ls hl
  have hx := hM.1
  have hb := hM.2.1
  refine lv_istore_n (lv' := [(3, .int t0), (0, .ref a), (1, .int x1), (2, .int x2)]) hx hb dX12_knows_28 rfl hl (by decide) rfl (fun ls hl => ?_)
  refine lv_iload_n hx hb dX12_knows_29 rfl (lv_at hl 0 rfl) ?_
  refine lv_if_eq (tgt := 42) hx hb dX12_knows_30 (by decide) (fun c1 => ?_) (fun c1 => ?_)
  · have hf := if_t c1 hf
    refine lv_iconst (v := (-1 : Int32)) hx hb dX12_knows_42 (by decide) ?_
    cases hf
    exact W.iret hx hb hr (b_ret0 hW (fun _ _ => rfl) _) hW.2.2.2 dX12_knows_43 hlk
  · have hf := if_f c1 hf
    refine lv_aload_n hx hb dX12_knows_33 rfl (lv_at hl 1 rfl) ?_
    refine lv_iload_n hx hb dX12_knows_34 rfl (lv_at hl 2 rfl) ?_
    refine lv_iload_n hx hb dX12_knows_35 rfl (lv_at hl 3 rfl) ?_
    obtain ⟨r2, hr2, hf⟩ := bd_elim hf
    refine s_callVi [.int x1, .int x2] [] hM hml hl.1 hW ha rfl (by decide) (c_X12_known l G fu _ a _ _ ha hr2) (cwV 2 hM.2.2.2.1 (gV mk_RX12_309 im_X12_known se_X12_known it_RX12 cd_X12_known) rfl rfl rfl (by decide +kernel) ⟨Nat.le_of_ble_eq_true rfl, Nat.le_of_ble_eq_true rfl⟩) rfl rfl (Nat.le_of_ble_eq_true rfl) ⟨Nat.zero_le _, Nat.zero_le _⟩ dX12_knows_36 (fun H locs hW hk => ?_)
    refine lv_goto (tgt := 43) hx hb dX12_knows_39 (by decide) ?_
    cases hf
    exact W.iret hx hb hr (b_ret0 hW (fun _ _ => rfl) _) hW.2.2.2 dX12_knows_43 hlk
noncomputable def f_X12_knows_27 (fu : Nat)  (S : ST) (a : Nat) (x1 : Int32) (x2 : Int32) : Option (Int32) :=
  f_X12_knows_28 fu S a x1 x2 (0 : Int32)
set_option maxHeartbeats 4000000 in
set_option maxRecDepth 100000 in
theorem t_X12_knows_27 {G : GG} {p : Program} {l : Launch} {e : Env} {s : State} {m : MethodId} {args : Array Value} {below : List Frame} {meth : Method} {c : Code} {S : ST} {fu : Nat} {z : Int32} {a : Nat}  {x1 : Int32} {x2 : Int32} (hM : MC G p s m args c cX12_knows w_X12_knows RX12) (hml : c.maxLocals = 4) (hr : meth.sig.returnType = (some .int)) (hlk : meth.locks = false) (ha : gC (S a) = 11)  (hf : f_X12_knows_27 fu  S a x1 x2 = some z) : ∀ (H : Heap) (locs : List Loc), WB G S s H locs → ∀ (ls : Array Slot), lv_has ls 4 [(0, .ref a), (1, .int x1), (2, .int x2)] → W p l e RM_X12_knows s m args below meth c H locs 0 0 (QR G below args s (some (.int z)) S S) (F0 m 27 ls []) := by
  intro  H locs hW ls hl
  have hx := hM.1
  have hb := hM.2.1
  refine lv_iconst (v := (0 : Int32)) hx hb dX12_knows_27 (by decide) ?_
  exact t_X12_knows_28 (fu := fu) hM hml hr hlk ha hf _ _ hW _ (lv_sub hl [0, 1, 2] rfl)
noncomputable def f_X12_knows_0 (fu : Nat)  (S : ST) (a : Nat) (x1 : Int32) (x2 : Int32) : Option (Int32) :=
  if x1 < 0 then
    (f_X12_knows_27 fu S a x1 x2)
  else
    (bd (gR (S a) 12) fun q2 =>
    ck (decide (gC (S q2) = 1)) <|
    if (gI (S q2) 10) ≤ x1 then
      (f_X12_knows_27 fu S a x1 x2)
    else
      (bd (f_X12_areThere fu S a x2) fun r5 =>
      if r5 = 0 then
        (f_X12_knows_27 fu S a x1 x2)
      else
        (f_X12_knows_28 fu S a x1 x2 (1 : Int32))))
set_option maxHeartbeats 4000000 in
set_option maxRecDepth 100000 in
theorem t_X12_knows_0 {G : GG} {p : Program} {l : Launch} {e : Env} {s : State} {m : MethodId} {args : Array Value} {below : List Frame} {meth : Method} {c : Code} {S : ST} {fu : Nat} {z : Int32} {a : Nat}  {x1 : Int32} {x2 : Int32} (hM : MC G p s m args c cX12_knows w_X12_knows RX12) (hml : c.maxLocals = 4) (hr : meth.sig.returnType = (some .int)) (hlk : meth.locks = false) (ha : gC (S a) = 11)  (hf : f_X12_knows_0 fu  S a x1 x2 = some z) : ∀ (H : Heap) (locs : List Loc), WB G S s H locs → ∀ (ls : Array Slot), lv_has ls 4 [(0, .ref a), (1, .int x1), (2, .int x2)] → W p l e RM_X12_knows s m args below meth c H locs 0 0 (QR G below args s (some (.int z)) S S) (F0 m 0 ls []) := by
  intro  H locs hW ls hl
  have hx := hM.1
  have hb := hM.2.1
  refine lv_iload_n hx hb dX12_knows_0 rfl (lv_at hl 1 rfl) ?_
  refine lv_if_lt (tgt := 27) hx hb dX12_knows_1 (by decide) (fun c1 => ?_) (fun c1 => ?_)
  · have hf := if_t c1 hf
    exact t_X12_knows_27 (fu := fu) hM hml hr hlk ha hf _ _ hW _ (lv_sub hl [0, 1, 2] rfl)
  · have hf := if_f c1 hf
    refine lv_iload_n hx hb dX12_knows_4 rfl (lv_at hl 1 rfl) ?_
    refine lv_aload_n hx hb dX12_knows_5 rfl (lv_at hl 0 rfl) ?_
    obtain ⟨q2, hq2, hf⟩ := bd_elim hf
    refine b_get hM (hW.at_ a) 10 12 ha rfl rfl (by decide) wi_X12 (wgm fk_RX12_76) (x := .ref q2) (by show va_rf _ = _; rw [hq2]; rfl) dX12_knows_6 ?_
    obtain ⟨h3, hf⟩ := ck_elim hf
    have h3 := of_decide_eq_true h3
    refine b_get hM (hW.at_ q2) 0 10 h3 rfl rfl (by decide) wi_X1 (wgm fk_RX12_182) (x := .int (gI (S q2) 10)) rfl dX12_knows_9 ?_
    refine lv_icmp_ge (tgt := 27) hx hb dX12_knows_12 (by decide) (fun c4 => ?_) (fun c4 => ?_)
    · have hf := if_t c4 hf
      exact t_X12_knows_27 (fu := fu) hM hml hr hlk ha hf _ _ hW _ (lv_sub hl [0, 1, 2] rfl)
    · have hf := if_f c4 hf
      refine lv_aload_n hx hb dX12_knows_15 rfl (lv_at hl 0 rfl) ?_
      refine lv_iload_n hx hb dX12_knows_16 rfl (lv_at hl 2 rfl) ?_
      obtain ⟨r5, hr5, hf⟩ := bd_elim hf
      refine s_callVi [.int x2] [] hM hml hl.1 hW ha rfl (by decide) (c_X12_areThere l G fu _ a _ ha hr5) (cwV 1 hM.2.2.2.1 (gV mk_RX12_253 im_X12_areThere se_X12_areThere it_RX12 cd_X12_areThere) rfl rfl rfl (by decide +kernel) ⟨Nat.le_of_ble_eq_true rfl, Nat.le_of_ble_eq_true rfl⟩) rfl rfl (Nat.le_of_ble_eq_true rfl) ⟨Nat.zero_le _, Nat.zero_le _⟩ dX12_knows_17 (fun H locs hW hk => ?_)
      refine lv_if_eq (tgt := 27) hx hb dX12_knows_20 (by decide) (fun c6 => ?_) (fun c6 => ?_)
      · have hf := if_t c6 hf
        exact t_X12_knows_27 (fu := fu) hM hml hr hlk ha hf _ _ hW _ (lv_sub hl [0, 1, 2] rfl)
      · have hf := if_f c6 hf
        refine lv_iconst (v := (1 : Int32)) hx hb dX12_knows_23 (by decide) ?_
        refine lv_goto (tgt := 28) hx hb dX12_knows_24 (by decide) ?_
        exact t_X12_knows_28 (fu := fu) hM hml hr hlk ha hf _ _ hW _ (lv_sub hl [0, 1, 2] rfl)
noncomputable def f_X12_knows (fu : Nat) (S : ST) (a : Nat) (x1 : Int32) (x2 : Int32) : Option (Int32) := f_X12_knows_0 fu S a x1 x2
set_option maxHeartbeats 4000000 in
set_option maxRecDepth 100000 in
theorem c_X12_knows (l : Launch) (G : GG) (fu : Nat) (S : ST) (a : Nat) (x1 : Int32) (x2 : Int32) {z : Int32} (ha : gC (S a) = 11) (hf : f_X12_knows fu S a x1 x2 = some z) : Ct l yX12_knows w_X12_knows RM_X12_knows G S [.ref a, .int x1, .int x2] (some (.int z)) S 0 0 := by
  refine Met.ofW (cc := cX12_knows) (maxL := 4) (ret := (some .int)) (by decide) rfl ?_
  intro p e s m args below meth c s₁ B hml hv
  obtain ⟨rfl, hB, hK, hz⟩ := hv
  have hM : MC G p s m _ c cX12_knows w_X12_knows RX12 := ⟨B.exec, B.bytes, findClass_of_methodNamed B.named, atoms_spec (ws := w_X12_knows) B.pre, hK, hz⟩
  have hW : WB G S s s.heap [] := ⟨hB, va_S.rf⟩
  have hl := lv_entry ([.ref a, .int x1, .int x2]) (n := 4) (Nat.le_of_ble_eq_true rfl)
  rw [lg_entry_eq]
  generalize (lg_sl ([.ref a, .int x1, .int x2]) ++ List.replicate (4 - (lg_sl ([.ref a, .int x1, .int x2])).length) Slot.unset).toArray = ls at hl ⊢
  have hl : lv_has ls 4 [(0, .ref a), (1, .int x1), (2, .int x2)] := hl
  exact t_X12_knows_0 (fu := fu) hM hml B.returns B.notSynchronized ha hf _ _ hW _ (lv_sub hl [0, 1, 2] rfl)
abbrev RM_X12_knownTo : Room := { frames := 2, cells := 0, slots := 0, locals := 48 }
abbrev w_X12_knownTo : List Cond := Cond.code yX12_knownTo cX12_knownTo 7 (some .int) :: wsL_law0
noncomputable def f_X12_knownTo_17s (fu : Nat) (k5 : Int32 → Int32 → Option (Int32)) (k17 : Int32 → Int32 → Option (Int32)) (S : ST) (a : Nat) (x2 : Int32) (x4 : Int32) (x5 : Int32) (x3 : Int32) (x6 : Int32) : Option (Int32) :=
  bd (gR (S a) 12) fun q1 =>
  ck (decide (gC (S q1) = 1)) <|
  if (gI (S q1) 10) ≤ x6 then
    (nm (x4 + (1 : Int32)) fun y4 =>
    k5 x3 y4)
  else
    (bd (f_X12_known fu S a x6 x5) fun r5 =>
    nm ((x3 &&& r5)) fun y6 =>
    nm (x6 + (1 : Int32)) fun y7 =>
    k17 y6 y7)
noncomputable def f_X12_knownTo_17 (fu n : Nat) (k5 : Int32 → Int32 → Option (Int32)) (S : ST) (a : Nat) (x2 : Int32) (x4 : Int32) (x5 : Int32) : Int32 → Int32 → Option (Int32) :=
  lq_2 (fun k17 => f_X12_knownTo_17s fu k5 k17 S a x2 x4 x5) n
set_option maxHeartbeats 4000000 in
set_option maxRecDepth 100000 in
theorem t_X12_knownTo_17s {G : GG} {p : Program} {l : Launch} {e : Env} {s : State} {m : MethodId} {args : Array Value} {below : List Frame} {meth : Method} {c : Code} {S : ST} {fu : Nat} {z : Int32} {a : Nat} {k5 : Int32 → Int32 → Option (Int32)} {k17 : Int32 → Int32 → Option (Int32)} {x2 : Int32} {x4 : Int32} {x5 : Int32} (hM : MC G p s m args c cX12_knownTo w_X12_knownTo RX12) (hml : c.maxLocals = 7) (hr : meth.sig.returnType = (some .int)) (hlk : meth.locks = false) (ha : gC (S a) = 11) (hk5 : ∀ (x3 : Int32) (x4 : Int32), k5 x3 x4 = some z → ∀ (H : Heap) (locs : List Loc), WB G S s H locs → ∀ (ls : Array Slot), lv_has ls 7 [(0, .ref a), (2, .int x2), (3, .int x3), (4, .int x4)] → W p l e RM_X12_knownTo s m args below meth c H locs 0 0 (QR G below args s (some (.int z)) S S) (F0 m 5 ls [])) (hk17 : ∀ (x3 : Int32) (x6 : Int32), k17 x3 x6 = some z → ∀ (H : Heap) (locs : List Loc), WB G S s H locs → ∀ (ls : Array Slot), lv_has ls 7 [(0, .ref a), (2, .int x2), (3, .int x3), (4, .int x4), (5, .int x5), (6, .int x6)] → W p l e RM_X12_knownTo s m args below meth c H locs 0 0 (QR G below args s (some (.int z)) S S) (F0 m 17 ls [])) : ∀ (x3 : Int32) (x6 : Int32), f_X12_knownTo_17s fu k5 k17 S a x2 x4 x5 x3 x6 = some z → ∀ (H : Heap) (locs : List Loc), WB G S s H locs → ∀ (ls : Array Slot), lv_has ls 7 [(0, .ref a), (2, .int x2), (3, .int x3), (4, .int x4), (5, .int x5), (6, .int x6)] → W p l e RM_X12_knownTo s m args below meth c H locs 0 0 (QR G below args s (some (.int z)) S S) (F0 m 17 ls []) := by
  intro x3 x6 hf  H locs hW ls hl
  have hx := hM.1
  have hb := hM.2.1
  refine lv_iload hx hb dX12_knownTo_17 (lv_at hl 5 rfl) ?_
  refine lv_aload_n hx hb dX12_knownTo_19 rfl (lv_at hl 0 rfl) ?_
  obtain ⟨q1, hq1, hf⟩ := bd_elim hf
  refine b_get hM (hW.at_ a) 10 12 ha rfl rfl (by decide) wi_X12 (wgm fk_RX12_76) (x := .ref q1) (by show va_rf _ = _; rw [hq1]; rfl) dX12_knownTo_20 ?_
  obtain ⟨h2, hf⟩ := ck_elim hf
  have h2 := of_decide_eq_true h2
  refine b_get hM (hW.at_ q1) 0 10 h2 rfl rfl (by decide) wi_X1 (wgm fk_RX12_182) (x := .int (gI (S q1) 10)) rfl dX12_knownTo_23 ?_
  refine lv_icmp_ge (tgt := 46) hx hb dX12_knownTo_26 (by decide) (fun c3 => ?_) (fun c3 => ?_)
  · have hf := if_t c3 hf
    obtain ⟨y4, ey4⟩ : ∃ y : Int32, y = x4 + (1 : Int32) := ⟨_, rfl⟩
    have hf := nm_at ey4 hf
    refine lv_iinc (v := y4) (lv' := [(4, .int y4), (0, .ref a), (2, .int x2), (3, .int x3), (5, .int x5), (6, .int x6)]) hx hb dX12_knownTo_46 hl (k := 3) rfl (by rw [ey4]; rfl) (by decide) rfl (fun ls hl => ?_)
    refine lv_goto (tgt := 5) hx hb dX12_knownTo_49 (by decide) ?_
    exact hk5 _ _ hf _ _ hW _ (lv_sub hl [1, 2, 3, 0] rfl)
  · have hf := if_f c3 hf
    refine lv_iload_n hx hb dX12_knownTo_29 rfl (lv_at hl 2 rfl) ?_
    refine lv_aload_n hx hb dX12_knownTo_30 rfl (lv_at hl 0 rfl) ?_
    refine lv_iload hx hb dX12_knownTo_31 (lv_at hl 5 rfl) ?_
    refine lv_iload hx hb dX12_knownTo_33 (lv_at hl 4 rfl) ?_
    obtain ⟨r5, hr5, hf⟩ := bd_elim hf
    refine s_callVi [.int x6, .int x5] [.int x3] hM hml hl.1 hW ha rfl (by decide) (c_X12_known l G fu _ a _ _ ha hr5) (cwV 2 hM.2.2.2.1 (gV mk_RX12_309 im_X12_known se_X12_known it_RX12 cd_X12_known) rfl rfl rfl (by decide +kernel) ⟨Nat.le_of_ble_eq_true rfl, Nat.le_of_ble_eq_true rfl⟩) rfl rfl (Nat.le_of_ble_eq_true rfl) ⟨Nat.zero_le _, Nat.zero_le _⟩ dX12_knownTo_35 (fun H locs hW hk => ?_)
    refine lv_iand hx hb dX12_knownTo_38 ?_
    refine lv_topi (fun y6 ey6 => ?_)
    have hf := nm_at ey6 hf
    refine lv_istore_n (lv' := [(3, .int y6), (0, .ref a), (2, .int x2), (4, .int x4), (5, .int x5), (6, .int x6)]) hx hb dX12_knownTo_39 rfl hl (by decide) rfl (fun ls hl => ?_)
    obtain ⟨y7, ey7⟩ : ∃ y : Int32, y = x6 + (1 : Int32) := ⟨_, rfl⟩
    have hf := nm_at ey7 hf
    refine lv_iinc (v := y7) (lv' := [(6, .int y7), (3, .int y6), (0, .ref a), (2, .int x2), (4, .int x4), (5, .int x5)]) hx hb dX12_knownTo_40 hl (k := 5) rfl (by rw [ey7]; rfl) (by decide) rfl (fun ls hl => ?_)
    refine lv_goto (tgt := 17) hx hb dX12_knownTo_43 (by decide) ?_
    exact hk17 _ _ hf _ _ hW _ (lv_sub hl [2, 3, 1, 4, 5, 0] rfl)
theorem t_X12_knownTo_17 {G : GG} {p : Program} {l : Launch} {e : Env} {s : State} {m : MethodId} {args : Array Value} {below : List Frame} {meth : Method} {c : Code} {S : ST} {fu : Nat} {z : Int32} {a : Nat} {k5 : Int32 → Int32 → Option (Int32)} {x2 : Int32} {x4 : Int32} {x5 : Int32} (hM : MC G p s m args c cX12_knownTo w_X12_knownTo RX12) (hml : c.maxLocals = 7) (hr : meth.sig.returnType = (some .int)) (hlk : meth.locks = false) (ha : gC (S a) = 11) (hk5 : ∀ (x3 : Int32) (x4 : Int32), k5 x3 x4 = some z → ∀ (H : Heap) (locs : List Loc), WB G S s H locs → ∀ (ls : Array Slot), lv_has ls 7 [(0, .ref a), (2, .int x2), (3, .int x3), (4, .int x4)] → W p l e RM_X12_knownTo s m args below meth c H locs 0 0 (QR G below args s (some (.int z)) S S) (F0 m 5 ls [])) : ∀ {n : Nat} (x3 : Int32) (x6 : Int32), f_X12_knownTo_17 fu n k5 S a x2 x4 x5 x3 x6 = some z → ∀ (H : Heap) (locs : List Loc), WB G S s H locs → ∀ (ls : Array Slot), lv_has ls 7 [(0, .ref a), (2, .int x2), (3, .int x3), (4, .int x4), (5, .int x5), (6, .int x6)] → W p l e RM_X12_knownTo s m args below meth c H locs 0 0 (QR G below args s (some (.int z)) S S) (F0 m 17 ls []) := by
  intro n
  induction n with
  | zero => intro x3 x6 hf; cases hf
  | succ n ih => intro x3 x6 hf; exact t_X12_knownTo_17s (fu := fu) hM hml hr hlk ha hk5 (k17 := f_X12_knownTo_17 fu n k5 S a x2 x4 x5) ih _ _ hf
noncomputable def f_X12_knownTo_5s (fu : Nat)  (k5 : Int32 → Int32 → Option (Int32)) (S : ST) (a : Nat) (x2 : Int32) (x3 : Int32) (x4 : Int32) : Option (Int32) :=
  if x2 ≤ x4 then
    (some (x3))
  else
    (f_X12_knownTo_17 fu fu k5 S a x2 x4 x3 x3 (0 : Int32))
noncomputable def f_X12_knownTo_5 (fu n : Nat)  (S : ST) (a : Nat) (x2 : Int32) : Int32 → Int32 → Option (Int32) :=
  lq_2 (fun k5 => f_X12_knownTo_5s fu  k5 S a x2) n
set_option maxHeartbeats 4000000 in
set_option maxRecDepth 100000 in
theorem t_X12_knownTo_5s {G : GG} {p : Program} {l : Launch} {e : Env} {s : State} {m : MethodId} {args : Array Value} {below : List Frame} {meth : Method} {c : Code} {S : ST} {fu : Nat} {z : Int32} {a : Nat}  {k5 : Int32 → Int32 → Option (Int32)} {x2 : Int32} (hM : MC G p s m args c cX12_knownTo w_X12_knownTo RX12) (hml : c.maxLocals = 7) (hr : meth.sig.returnType = (some .int)) (hlk : meth.locks = false) (ha : gC (S a) = 11)  (hk5 : ∀ (x3 : Int32) (x4 : Int32), k5 x3 x4 = some z → ∀ (H : Heap) (locs : List Loc), WB G S s H locs → ∀ (ls : Array Slot), lv_has ls 7 [(0, .ref a), (2, .int x2), (3, .int x3), (4, .int x4)] → W p l e RM_X12_knownTo s m args below meth c H locs 0 0 (QR G below args s (some (.int z)) S S) (F0 m 5 ls [])) : ∀ (x3 : Int32) (x4 : Int32), f_X12_knownTo_5s fu  k5 S a x2 x3 x4 = some z → ∀ (H : Heap) (locs : List Loc), WB G S s H locs → ∀ (ls : Array Slot), lv_has ls 7 [(0, .ref a), (2, .int x2), (3, .int x3), (4, .int x4)] → W p l e RM_X12_knownTo s m args below meth c H locs 0 0 (QR G below args s (some (.int z)) S S) (F0 m 5 ls []) := by
  intro x3 x4 hf  H locs hW ls hl
  have hx := hM.1
  have hb := hM.2.1
  refine lv_iload hx hb dX12_knownTo_5 (lv_at hl 3 rfl) ?_
  refine lv_iload_n hx hb dX12_knownTo_7 rfl (lv_at hl 1 rfl) ?_
  refine lv_icmp_ge (tgt := 52) hx hb dX12_knownTo_8 (by decide) (fun c1 => ?_) (fun c1 => ?_)
  · have hf := if_t c1 hf
    refine lv_iload_n hx hb dX12_knownTo_52 rfl (lv_at hl 2 rfl) ?_
    cases hf
    exact W.iret hx hb hr (b_ret0 hW (fun _ _ => rfl) _) hW.2.2.2 dX12_knownTo_53 hlk
  · have hf := if_f c1 hf
    refine lv_iload_n hx hb dX12_knownTo_11 rfl (lv_at hl 2 rfl) ?_
    refine lv_istore (lv' := [(5, .int x3), (0, .ref a), (2, .int x2), (3, .int x3), (4, .int x4)]) hx hb dX12_knownTo_12 hl (by decide) rfl (fun ls hl => ?_)
    refine lv_iconst (v := (0 : Int32)) hx hb dX12_knownTo_14 (by decide) ?_
    refine lv_istore (lv' := [(6, .int (0 : Int32)), (5, .int x3), (0, .ref a), (2, .int x2), (3, .int x3), (4, .int x4)]) hx hb dX12_knownTo_15 hl (by decide) rfl (fun ls hl => ?_)
    exact t_X12_knownTo_17 (fu := fu) hM hml hr hlk ha hk5 _ _ hf _ _ hW _ (lv_sub hl [2, 3, 4, 5, 1, 0] rfl)
theorem t_X12_knownTo_5 {G : GG} {p : Program} {l : Launch} {e : Env} {s : State} {m : MethodId} {args : Array Value} {below : List Frame} {meth : Method} {c : Code} {S : ST} {fu : Nat} {z : Int32} {a : Nat}  {x2 : Int32} (hM : MC G p s m args c cX12_knownTo w_X12_knownTo RX12) (hml : c.maxLocals = 7) (hr : meth.sig.returnType = (some .int)) (hlk : meth.locks = false) (ha : gC (S a) = 11)  : ∀ {n : Nat} (x3 : Int32) (x4 : Int32), f_X12_knownTo_5 fu n  S a x2 x3 x4 = some z → ∀ (H : Heap) (locs : List Loc), WB G S s H locs → ∀ (ls : Array Slot), lv_has ls 7 [(0, .ref a), (2, .int x2), (3, .int x3), (4, .int x4)] → W p l e RM_X12_knownTo s m args below meth c H locs 0 0 (QR G below args s (some (.int z)) S S) (F0 m 5 ls []) := by
  intro n
  induction n with
  | zero => intro x3 x4 hf; cases hf
  | succ n ih => intro x3 x4 hf; exact t_X12_knownTo_5s (fu := fu) hM hml hr hlk ha (k5 := f_X12_knownTo_5 fu n  S a x2) ih _ _ hf
noncomputable def f_X12_knownTo_0 (fu : Nat)  (S : ST) (a : Nat) (x1 : Int32) (x2 : Int32) : Option (Int32) :=
  f_X12_knownTo_5 fu fu S a x2 x1 (0 : Int32)
set_option maxHeartbeats 4000000 in
set_option maxRecDepth 100000 in
theorem t_X12_knownTo_0 {G : GG} {p : Program} {l : Launch} {e : Env} {s : State} {m : MethodId} {args : Array Value} {below : List Frame} {meth : Method} {c : Code} {S : ST} {fu : Nat} {z : Int32} {a : Nat}  {x1 : Int32} {x2 : Int32} (hM : MC G p s m args c cX12_knownTo w_X12_knownTo RX12) (hml : c.maxLocals = 7) (hr : meth.sig.returnType = (some .int)) (hlk : meth.locks = false) (ha : gC (S a) = 11)  (hf : f_X12_knownTo_0 fu  S a x1 x2 = some z) : ∀ (H : Heap) (locs : List Loc), WB G S s H locs → ∀ (ls : Array Slot), lv_has ls 7 [(0, .ref a), (1, .int x1), (2, .int x2)] → W p l e RM_X12_knownTo s m args below meth c H locs 0 0 (QR G below args s (some (.int z)) S S) (F0 m 0 ls []) := by
  intro  H locs hW ls hl
  have hx := hM.1
  have hb := hM.2.1
  refine lv_iload_n hx hb dX12_knownTo_0 rfl (lv_at hl 1 rfl) ?_
  refine lv_istore_n (lv' := [(3, .int x1), (0, .ref a), (1, .int x1), (2, .int x2)]) hx hb dX12_knownTo_1 rfl hl (by decide) rfl (fun ls hl => ?_)
  refine lv_iconst (v := (0 : Int32)) hx hb dX12_knownTo_2 (by decide) ?_
  refine lv_istore (lv' := [(4, .int (0 : Int32)), (3, .int x1), (0, .ref a), (1, .int x1), (2, .int x2)]) hx hb dX12_knownTo_3 hl (by decide) rfl (fun ls hl => ?_)
  exact t_X12_knownTo_5 (fu := fu) hM hml hr hlk ha _ _ hf _ _ hW _ (lv_sub hl [2, 4, 1, 0] rfl)
noncomputable def f_X12_knownTo (fu : Nat) (S : ST) (a : Nat) (x1 : Int32) (x2 : Int32) : Option (Int32) := f_X12_knownTo_0 fu S a x1 x2
set_option maxHeartbeats 4000000 in
set_option maxRecDepth 100000 in
theorem c_X12_knownTo (l : Launch) (G : GG) (fu : Nat) (S : ST) (a : Nat) (x1 : Int32) (x2 : Int32) {z : Int32} (ha : gC (S a) = 11) (hf : f_X12_knownTo fu S a x1 x2 = some z) : Ct l yX12_knownTo w_X12_knownTo RM_X12_knownTo G S [.ref a, .int x1, .int x2] (some (.int z)) S 0 0 := by
  refine Met.ofW (cc := cX12_knownTo) (maxL := 7) (ret := (some .int)) (by decide) rfl ?_
  intro p e s m args below meth c s₁ B hml hv
  obtain ⟨rfl, hB, hK, hz⟩ := hv
  have hM : MC G p s m _ c cX12_knownTo w_X12_knownTo RX12 := ⟨B.exec, B.bytes, findClass_of_methodNamed B.named, atoms_spec (ws := w_X12_knownTo) B.pre, hK, hz⟩
  have hW : WB G S s s.heap [] := ⟨hB, va_S.rf⟩
  have hl := lv_entry ([.ref a, .int x1, .int x2]) (n := 7) (Nat.le_of_ble_eq_true rfl)
  rw [lg_entry_eq]
  generalize (lg_sl ([.ref a, .int x1, .int x2]) ++ List.replicate (7 - (lg_sl ([.ref a, .int x1, .int x2])).length) Slot.unset).toArray = ls at hl ⊢
  have hl : lv_has ls 7 [(0, .ref a), (1, .int x1), (2, .int x2)] := hl
  exact t_X12_knownTo_0 (fu := fu) hM hml B.returns B.notSynchronized ha hf _ _ hW _ (lv_sub hl [0, 1, 2] rfl)
abbrev RM_X12_depth : Room := { frames := 3, cells := 0, slots := 0, locals := 74 }
abbrev w_X12_depth : List Cond := Cond.code yX12_depth cX12_depth 3 (some .int) :: wsL_law0
noncomputable def f_X12_depth_19 (fu : Nat)  (S : ST) (a : Nat) : Option (Int32) :=
  some ((-1 : Int32))
set_option maxHeartbeats 4000000 in
set_option maxRecDepth 100000 in
theorem t_X12_depth_19 {G : GG} {p : Program} {l : Launch} {e : Env} {s : State} {m : MethodId} {args : Array Value} {below : List Frame} {meth : Method} {c : Code} {S : ST} {fu : Nat} {z : Int32} {a : Nat}  (hM : MC G p s m args c cX12_depth w_X12_depth RX12) (hml : c.maxLocals = 3) (hr : meth.sig.returnType = (some .int)) (hlk : meth.locks = false) (ha : gC (S a) = 11)  (hf : f_X12_depth_19 fu  S a  = some z) : ∀ (H : Heap) (locs : List Loc), WB G S s H locs → ∀ (ls : Array Slot), lv_has ls 3 [] → W p l e RM_X12_depth s m args below meth c H locs 0 0 (QR G below args s (some (.int z)) S S) (F0 m 19 ls []) := by
  intro  H locs hW ls hl
  have hx := hM.1
  have hb := hM.2.1
  refine lv_iconst (v := (-1 : Int32)) hx hb dX12_depth_19 (by decide) ?_
  cases hf
  exact W.iret hx hb hr (b_ret0 hW (fun _ _ => rfl) _) hW.2.2.2 dX12_depth_20 hlk
noncomputable def f_X12_depth_0 (fu : Nat)  (S : ST) (a : Nat) (x1 : Int32) (x2 : Int32) : Option (Int32) :=
  bd (f_X12_areThere fu S a x1) fun r1 =>
  if r1 = 0 then
    (f_X12_depth_19 fu S a)
  else
    (if x2 < (1 : Int32) then
      (f_X12_depth_19 fu S a)
    else
      (if x2 ≤ (9 : Int32) then
        (bd (f_X12_knownTo fu S a x1 x2) fun r5 =>
        some (r5))
      else
        (f_X12_depth_19 fu S a)))
set_option maxHeartbeats 4000000 in
set_option maxRecDepth 100000 in
theorem t_X12_depth_0 {G : GG} {p : Program} {l : Launch} {e : Env} {s : State} {m : MethodId} {args : Array Value} {below : List Frame} {meth : Method} {c : Code} {S : ST} {fu : Nat} {z : Int32} {a : Nat}  {x1 : Int32} {x2 : Int32} (hM : MC G p s m args c cX12_depth w_X12_depth RX12) (hml : c.maxLocals = 3) (hr : meth.sig.returnType = (some .int)) (hlk : meth.locks = false) (ha : gC (S a) = 11)  (hf : f_X12_depth_0 fu  S a x1 x2 = some z) : ∀ (H : Heap) (locs : List Loc), WB G S s H locs → ∀ (ls : Array Slot), lv_has ls 3 [(0, .ref a), (1, .int x1), (2, .int x2)] → W p l e RM_X12_depth s m args below meth c H locs 0 0 (QR G below args s (some (.int z)) S S) (F0 m 0 ls []) := by
  intro  H locs hW ls hl
  have hx := hM.1
  have hb := hM.2.1
  refine lv_aload_n hx hb dX12_depth_0 rfl (lv_at hl 0 rfl) ?_
  refine lv_iload_n hx hb dX12_depth_1 rfl (lv_at hl 1 rfl) ?_
  obtain ⟨r1, hr1, hf⟩ := bd_elim hf
  refine s_callVi [.int x1] [] hM hml hl.1 hW ha rfl (by decide) (c_X12_areThere l G fu _ a _ ha hr1) (cwV 1 hM.2.2.2.1 (gV mk_RX12_253 im_X12_areThere se_X12_areThere it_RX12 cd_X12_areThere) rfl rfl rfl (by decide +kernel) ⟨Nat.le_of_ble_eq_true rfl, Nat.le_of_ble_eq_true rfl⟩) rfl rfl (Nat.le_of_ble_eq_true rfl) ⟨Nat.zero_le _, Nat.zero_le _⟩ dX12_depth_2 (fun H locs hW hk => ?_)
  refine lv_if_eq (tgt := 19) hx hb dX12_depth_5 (by decide) (fun c2 => ?_) (fun c2 => ?_)
  · have hf := if_t c2 hf
    exact t_X12_depth_19 (fu := fu) hM hml hr hlk ha hf _ _ hW _ (lv_sub hl [] rfl)
  · have hf := if_f c2 hf
    refine lv_iload_n hx hb dX12_depth_8 rfl (lv_at hl 2 rfl) ?_
    refine lv_iconst (v := (1 : Int32)) hx hb dX12_depth_9 (by decide) ?_
    refine lv_icmp_lt (tgt := 19) hx hb dX12_depth_10 (by decide) (fun c3 => ?_) (fun c3 => ?_)
    · have hf := if_t c3 hf
      exact t_X12_depth_19 (fu := fu) hM hml hr hlk ha hf _ _ hW _ (lv_sub hl [] rfl)
    · have hf := if_f c3 hf
      refine lv_iload_n hx hb dX12_depth_13 rfl (lv_at hl 2 rfl) ?_
      refine lv_bipush (v := (9 : Int32)) hx hb dX12_depth_14 (by decide) ?_
      refine lv_icmp_le (tgt := 21) hx hb dX12_depth_16 (by decide) (fun c4 => ?_) (fun c4 => ?_)
      · have hf := if_t c4 hf
        refine lv_aload_n hx hb dX12_depth_21 rfl (lv_at hl 0 rfl) ?_
        refine lv_iload_n hx hb dX12_depth_22 rfl (lv_at hl 1 rfl) ?_
        refine lv_iload_n hx hb dX12_depth_23 rfl (lv_at hl 2 rfl) ?_
        obtain ⟨r5, hr5, hf⟩ := bd_elim hf
        refine s_callVi [.int x1, .int x2] [] hM hml hl.1 hW ha rfl (by decide) (c_X12_knownTo l G fu _ a _ _ ha hr5) (cwV 2 hM.2.2.2.1 (gV mk_RX12_312 im_X12_knownTo se_X12_knownTo it_RX12 cd_X12_knownTo) rfl rfl rfl (by decide +kernel) ⟨Nat.le_of_ble_eq_true rfl, Nat.le_of_ble_eq_true rfl⟩) rfl rfl (Nat.le_of_ble_eq_true rfl) ⟨Nat.zero_le _, Nat.zero_le _⟩ dX12_depth_24 (fun H locs hW hk => ?_)
        cases hf
        exact W.iret hx hb hr (b_ret0 hW (fun _ _ => rfl) _) hW.2.2.2 dX12_depth_27 hlk
      · have hf := if_f c4 hf
        exact t_X12_depth_19 (fu := fu) hM hml hr hlk ha hf _ _ hW _ (lv_sub hl [] rfl)
noncomputable def f_X12_depth (fu : Nat) (S : ST) (a : Nat) (x1 : Int32) (x2 : Int32) : Option (Int32) := f_X12_depth_0 fu S a x1 x2
set_option maxHeartbeats 4000000 in
set_option maxRecDepth 100000 in
theorem c_X12_depth (l : Launch) (G : GG) (fu : Nat) (S : ST) (a : Nat) (x1 : Int32) (x2 : Int32) {z : Int32} (ha : gC (S a) = 11) (hf : f_X12_depth fu S a x1 x2 = some z) : Ct l yX12_depth w_X12_depth RM_X12_depth G S [.ref a, .int x1, .int x2] (some (.int z)) S 0 0 := by
  refine Met.ofW (cc := cX12_depth) (maxL := 3) (ret := (some .int)) (by decide) rfl ?_
  intro p e s m args below meth c s₁ B hml hv
  obtain ⟨rfl, hB, hK, hz⟩ := hv
  have hM : MC G p s m _ c cX12_depth w_X12_depth RX12 := ⟨B.exec, B.bytes, findClass_of_methodNamed B.named, atoms_spec (ws := w_X12_depth) B.pre, hK, hz⟩
  have hW : WB G S s s.heap [] := ⟨hB, va_S.rf⟩
  have hl := lv_entry ([.ref a, .int x1, .int x2]) (n := 3) (Nat.le_of_ble_eq_true rfl)
  rw [lg_entry_eq]
  generalize (lg_sl ([.ref a, .int x1, .int x2]) ++ List.replicate (3 - (lg_sl ([.ref a, .int x1, .int x2])).length) Slot.unset).toArray = ls at hl ⊢
  have hl : lv_has ls 3 [(0, .ref a), (1, .int x1), (2, .int x2)] := hl
  exact t_X12_depth_0 (fu := fu) hM hml B.returns B.notSynchronized ha hf _ _ hW _ (lv_sub hl [0, 1, 2] rfl)
