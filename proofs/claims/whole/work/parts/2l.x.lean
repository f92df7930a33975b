abbrev RM_X12_years : Room := { frames := 6, cells := 0, slots := 0, locals := 150 }
abbrev w_X12_years : List Cond := Cond.code yX12_years cX12_years 5 (some .int) :: wsL_law0
noncomputable def f_X12_years_43 (fu : Nat)  (S : ST) (a : Nat) : Option (Int32 × ST) :=
  some ((-1 : Int32), S)
set_option maxHeartbeats 4000000 in
set_option maxRecDepth 100000 in
theorem t_X12_years_43 {G : GG} {p : Program} {l : Launch} {e : Env} {s : State} {m : MethodId} {args : Array Value} {below : List Frame} {meth : Method} {c : Code} {S0 : ST} {fu : Nat} {z : Int32 × ST} {a : Nat}  {S : ST} (hM : MC G p s m args c cX12_years w_X12_years RX12) (hml : c.maxLocals = 5) (hr : meth.sig.returnType = (some .int)) (hlk : meth.locks = false)   (hf : f_X12_years_43 fu  S a  = some z) : (gC (S a) = 11) → (∀ b, gC (S0 b) ≠ 0 → gC (S b) = gC (S0 b)) → ∀ (H : Heap) (locs : List Loc), WB G S s H locs → ∀ (ls : Array Slot), lv_has ls 5 [] → W p l e RM_X12_years s m args below meth c H locs 0 0 (QR G below args s (some (.int z.1)) S0 z.2) (F0 m 43 ls []) := by
  intro ha hK0 H locs hW ls hl
  have hx := hM.1
  have hb := hM.2.1
  refine lv_iconst (v := (-1 : Int32)) hx hb dX12_years_43 (by decide) ?_
  cases hf
  exact W.iret hx hb hr (b_ret0 hW hK0 _) hW.2.2.2 dX12_years_44 hlk
noncomputable def f_X12_years_27 (fu : Nat)  (S : ST) (a : Nat) (x1 : Int32) (x2 : Int32) (x3 : Int32) (t0 : Int32) : Option (Int32 × ST) :=
  if t0 = 0 then
    (f_X12_years_43 fu S a)
  else
    (if x3 < 0 then
      (f_X12_years_43 fu S a)
    else
      (if x3 ≤ (2 : Int32) then
        (ck (decide (gC (S (a + 32)) = 10)) <|
        ck (decide (gC (S (a + 9)) = 3)) <|
        bd (gR (S a) 12) fun q6 =>
        ck (decide (gC (S q6) = 1)) <|
        bd (f_X11_pass fu S (a + 32) (a + 9) q6 x1 x2) fun S9 =>
        if x3 = 0 then
          (some ((gI (S9 (a + 32)) 2), S9))
        else
          (if x3 = (1 : Int32) then
            (ck (decide (gC (S9 ((a + 32) + 1)) = 3)) <|
            bd (f_X3_allCoins fu (S9 ((a + 32) + 1))) fun r15 =>
            some (r15, S9))
          else
            (ck (decide (gC (S9 ((a + 32) + 1)) = 3)) <|
            bd (f_X3_slipsOn fu (S9 ((a + 32) + 1)) (gI (S9 ((a + 32) + 1)) 8)) fun r13 =>
            some (r13, S9))))
      else
        (f_X12_years_43 fu S a)))
set_option maxHeartbeats 4000000 in
set_option maxRecDepth 100000 in
theorem t_X12_years_27 {G : GG} {p : Program} {l : Launch} {e : Env} {s : State} {m : MethodId} {args : Array Value} {below : List Frame} {meth : Method} {c : Code} {S0 : ST} {fu : Nat} {z : Int32 × ST} {a : Nat}  {S : ST} {x1 : Int32} {x2 : Int32} {x3 : Int32} {t0 : Int32} (hM : MC G p s m args c cX12_years w_X12_years RX12) (hml : c.maxLocals = 5) (hr : meth.sig.returnType = (some .int)) (hlk : meth.locks = false)   (hf : f_X12_years_27 fu  S a x1 x2 x3 t0 = some z) : (gC (S a) = 11) → (∀ b, gC (S0 b) ≠ 0 → gC (S b) = gC (S0 b)) → ∀ (H : Heap) (locs : List Loc), WB G S s H locs → ∀ (ls : Array Slot), lv_has ls 5 [(0, .ref a), (1, .int x1), (2, .int x2), (3, .int x3)] → W p l e RM_X12_years s m args below meth c H locs 0 0 (QR G below args s (some (.int z.1)) S0 z.2) (F0 m 27 ls [.int t0]) := by
  intro ha hK0 H locs hW ls hl
  have hx := hM.1
  have hb := hM.2.1
  refine lv_istore (lv' := [(4, .int t0), (0, .ref a), (1, .int x1), (2, .int x2), (3, .int x3)]) hx hb dX12_years_27 hl (by decide) rfl (fun ls hl => ?_)
  refine lv_iload hx hb dX12_years_29 (lv_at hl 0 rfl) ?_
  refine lv_if_eq (tgt := 43) hx hb dX12_years_31 (by decide) (fun c1 => ?_) (fun c1 => ?_)
  · have hf := if_t c1 hf
    exact t_X12_years_43 (fu := fu) hM hml hr hlk hf ha hK0 _ _ hW _ (lv_sub hl [] rfl)
  · have hf := if_f c1 hf
    refine lv_iload_n hx hb dX12_years_34 rfl (lv_at hl 4 rfl) ?_
    refine lv_if_lt (tgt := 43) hx hb dX12_years_35 (by decide) (fun c2 => ?_) (fun c2 => ?_)
    · have hf := if_t c2 hf
      exact t_X12_years_43 (fu := fu) hM hml hr hlk hf ha hK0 _ _ hW _ (lv_sub hl [] rfl)
    · have hf := if_f c2 hf
      refine lv_iload_n hx hb dX12_years_38 rfl (lv_at hl 4 rfl) ?_
      refine lv_iconst (v := (2 : Int32)) hx hb dX12_years_39 (by decide) ?_
      refine lv_icmp_le (tgt := 45) hx hb dX12_years_40 (by decide) (fun c3 => ?_) (fun c3 => ?_)
      · have hf := if_t c3 hf
        refine lv_aload_n hx hb dX12_years_45 rfl (lv_at hl 1 rfl) ?_
        refine b_get hM (hW.at_ a) 10 8 ha rfl rfl (by decide) wi_X12 (wgm fk_RX12_59) (x := .ref (a + 32)) rfl dX12_years_46 ?_
        obtain ⟨h4, hf⟩ := ck_elim hf
        have h4 := of_decide_eq_true h4
        refine lv_aload_n hx hb dX12_years_49 rfl (lv_at hl 1 rfl) ?_
        refine b_get hM (hW.at_ a) 10 2 ha rfl rfl (by decide) wi_X12 (wgm fk_RX12_28) (x := .ref (a + 9)) rfl dX12_years_50 ?_
        obtain ⟨h5, hf⟩ := ck_elim hf
        have h5 := of_decide_eq_true h5
        refine lv_aload_n hx hb dX12_years_53 rfl (lv_at hl 1 rfl) ?_
        obtain ⟨q6, hq6, hf⟩ := bd_elim hf
        refine b_get hM (hW.at_ a) 10 12 ha rfl rfl (by decide) wi_X12 (wgm fk_RX12_76) (x := .ref q6) (by show va_rf _ = _; rw [hq6]; rfl) dX12_years_54 ?_
        obtain ⟨h7, hf⟩ := ck_elim hf
        have h7 := of_decide_eq_true h7
        refine lv_iload_n hx hb dX12_years_57 rfl (lv_at hl 2 rfl) ?_
        refine lv_iload_n hx hb dX12_years_58 rfl (lv_at hl 3 rfl) ?_
        obtain ⟨S9, hr8, hf⟩ := bd_elim hf
        refine s_callVv [.ref (a + 9), .ref q6, .int x1, .int x2] [] hM hml hl.1 hW h4 rfl (by decide) (c_X11_pass l G fu _ (a + 32) _ _ _ _ h4 h5 h7 hr8) (cwV 4 hM.2.2.2.1 (gV mk_RX12_237 im_X11_pass se_X11_pass it_RX11 cd_X11_pass) rfl rfl rfl (by decide +kernel) ⟨Nat.le_of_ble_eq_true rfl, Nat.le_of_ble_eq_true rfl⟩) rfl rfl (Nat.le_of_ble_eq_true rfl) ⟨Nat.zero_le _, Nat.zero_le _⟩ dX12_years_59 (fun H locs hW hk => ?_)
        have ha := keep1 hk ha
        have h4 := keep1 hk h4
        have h5 := keep1 hk h5
        have h7 := keep1 hk h7
        have hK0 := keep_tr hK0 hk
        refine lv_iload_n hx hb dX12_years_62 rfl (lv_at hl 4 rfl) ?_
        refine lv_if_ne (tgt := 74) hx hb dX12_years_63 (by decide) (fun c10 => ?_) (fun c10 => ?_)
        · have hf := if_f c10 hf
          refine lv_iload_n hx hb dX12_years_74 rfl (lv_at hl 4 rfl) ?_
          refine lv_iconst (v := (1 : Int32)) hx hb dX12_years_75 (by decide) ?_
          refine lv_icmp_ne (tgt := 92) hx hb dX12_years_76 (by decide) (fun c11 => ?_) (fun c11 => ?_)
          · have hf := if_f c11 hf
            refine lv_aload_n hx hb dX12_years_92 rfl (lv_at hl 1 rfl) ?_
            refine b_get hM (hW.at_ a) 10 8 ha rfl rfl (by decide) wi_X12 (wgm fk_RX12_59) (x := .ref (a + 32)) rfl dX12_years_93 ?_
            refine b_get hM (hW.at_ (a + 32)) 9 0 h4 rfl rfl (by decide) wi_X11 (wgm fk_RX12_244) (x := .ref ((a + 32) + 1)) rfl dX12_years_96 ?_
            obtain ⟨h12, hf⟩ := ck_elim hf
            have h12 := of_decide_eq_true h12
            refine lv_aload_n hx hb dX12_years_99 rfl (lv_at hl 1 rfl) ?_
            refine b_get hM (hW.at_ a) 10 8 ha rfl rfl (by decide) wi_X12 (wgm fk_RX12_59) (x := .ref (a + 32)) rfl dX12_years_100 ?_
            refine b_get hM (hW.at_ (a + 32)) 9 0 h4 rfl rfl (by decide) wi_X11 (wgm fk_RX12_244) (x := .ref ((a + 32) + 1)) rfl dX12_years_103 ?_
            refine b_get hM (hW.at_ ((a + 32) + 1)) 2 8 h12 rfl rfl (by decide) wi_X3 (wgm fk_RX12_188) (x := .int (gI (S9 ((a + 32) + 1)) 8)) rfl dX12_years_106 ?_
            obtain ⟨r13, hr13, hf⟩ := bd_elim hf
            refine s_callVi [.int (gI (S9 ((a + 32) + 1)) 8)] [] hM hml hl.1 hW h12 rfl (by decide) (Ct_rd (c_X3_slipsOn l G fu _ ((a + 32) + 1) (S9 ((a + 32) + 1)) _ h12 hr13)) (cwV 1 hM.2.2.2.1 (gV mk_RX12_245 im_X3_slipsOn se_X3_slipsOn it_RX3 cd_X3_slipsOn) rfl rfl rfl (by decide +kernel) ⟨Nat.le_of_ble_eq_true rfl, Nat.le_of_ble_eq_true rfl⟩) rfl rfl (Nat.le_of_ble_eq_true rfl) ⟨Nat.zero_le _, Nat.zero_le _⟩ dX12_years_109 (fun H locs hW hk => ?_)
            cases hf
            exact W.iret hx hb hr (b_ret0 hW hK0 _) hW.2.2.2 dX12_years_112 hlk
          · have hf := if_t c11 hf
            refine lv_aload_n hx hb dX12_years_79 rfl (lv_at hl 1 rfl) ?_
            refine b_get hM (hW.at_ a) 10 8 ha rfl rfl (by decide) wi_X12 (wgm fk_RX12_59) (x := .ref (a + 32)) rfl dX12_years_80 ?_
            refine b_get hM (hW.at_ (a + 32)) 9 0 h4 rfl rfl (by decide) wi_X11 (wgm fk_RX12_244) (x := .ref ((a + 32) + 1)) rfl dX12_years_83 ?_
            obtain ⟨h14, hf⟩ := ck_elim hf
            have h14 := of_decide_eq_true h14
            obtain ⟨r15, hr15, hf⟩ := bd_elim hf
            refine s_callVi [] [] hM hml hl.1 hW h14 rfl (by decide) (Ct_rd (c_X3_allCoins l G fu _ ((a + 32) + 1) (S9 ((a + 32) + 1)) h14 hr15)) (cwV 0 hM.2.2.2.1 (gV mk_RX12_191 im_X3_allCoins se_X3_allCoins it_RX3 cd_X3_allCoins) rfl rfl rfl (by decide +kernel) ⟨Nat.le_of_ble_eq_true rfl, Nat.le_of_ble_eq_true rfl⟩) rfl rfl (Nat.le_of_ble_eq_true rfl) ⟨Nat.zero_le _, Nat.zero_le _⟩ dX12_years_86 (fun H locs hW hk => ?_)
            refine lv_goto (tgt := 112) hx hb dX12_years_89 (by decide) ?_
            cases hf
            exact W.iret hx hb hr (b_ret0 hW hK0 _) hW.2.2.2 dX12_years_112 hlk
        · have hf := if_t c10 hf
          refine lv_aload_n hx hb dX12_years_66 rfl (lv_at hl 1 rfl) ?_
          refine b_get hM (hW.at_ a) 10 8 ha rfl rfl (by decide) wi_X12 (wgm fk_RX12_59) (x := .ref (a + 32)) rfl dX12_years_67 ?_
          refine b_get hM (hW.at_ (a + 32)) 9 2 h4 rfl rfl (by decide) wi_X11 (wgm fk_RX12_241) (x := .int (gI (S9 (a + 32)) 2)) rfl dX12_years_70 ?_
          cases hf
          exact W.iret hx hb hr (b_ret0 hW hK0 _) hW.2.2.2 dX12_years_73 hlk
      · have hf := if_f c3 hf
        exact t_X12_years_43 (fu := fu) hM hml hr hlk hf ha hK0 _ _ hW _ (lv_sub hl [] rfl)
noncomputable def f_X12_years_26 (fu : Nat)  (S : ST) (a : Nat) (x1 : Int32) (x2 : Int32) (x3 : Int32) : Option (Int32 × ST) :=
  f_X12_years_27 fu S a x1 x2 x3 (0 : Int32)
set_option maxHeartbeats 4000000 in
set_option maxRecDepth 100000 in
theorem t_X12_years_26 {G : GG} {p : Program} {l : Launch} {e : Env} {s : State} {m : MethodId} {args : Array Value} {below : List Frame} {meth : Method} {c : Code} {S0 : ST} {fu : Nat} {z : Int32 × ST} {a : Nat}  {S : ST} {x1 : Int32} {x2 : Int32} {x3 : Int32} (hM : MC G p s m args c cX12_years w_X12_years RX12) (hml : c.maxLocals = 5) (hr : meth.sig.returnType = (some .int)) (hlk : meth.locks = false)   (hf : f_X12_years_26 fu  S a x1 x2 x3 = some z) : (gC (S a) = 11) → (∀ b, gC (S0 b) ≠ 0 → gC (S b) = gC (S0 b)) → ∀ (H : Heap) (locs : List Loc), WB G S s H locs → ∀ (ls : Array Slot), lv_has ls 5 [(0, .ref a), (1, .int x1), (2, .int x2), (3, .int x3)] → W p l e RM_X12_years s m args below meth c H locs 0 0 (QR G below args s (some (.int z.1)) S0 z.2) (F0 m 26 ls []) := by
  intro ha hK0 H locs hW ls hl
  have hx := hM.1
  have hb := hM.2.1
  refine lv_iconst (v := (0 : Int32)) hx hb dX12_years_26 (by decide) ?_
  exact t_X12_years_27 (fu := fu) hM hml hr hlk hf ha hK0 _ _ hW _ (lv_sub hl [0, 1, 2, 3] rfl)
noncomputable def f_X12_years_0 (fu : Nat)  (S : ST) (a : Nat) (x1 : Int32) (x2 : Int32) (x3 : Int32) : Option (Int32 × ST) :=
  if x1 < 0 then
    (f_X12_years_26 fu S a x1 x2 x3)
  else
    (if (9999 : Int32) < x1 then
      (f_X12_years_26 fu S a x1 x2 x3)
    else
      (if x2 < (1 : Int32) then
        (f_X12_years_26 fu S a x1 x2 x3)
      else
        (if (60 : Int32) < x2 then
          (f_X12_years_26 fu S a x1 x2 x3)
        else
          (f_X12_years_27 fu S a x1 x2 x3 (1 : Int32)))))
set_option maxHeartbeats 4000000 in
set_option maxRecDepth 100000 in
theorem t_X12_years_0 {G : GG} {p : Program} {l : Launch} {e : Env} {s : State} {m : MethodId} {args : Array Value} {below : List Frame} {meth : Method} {c : Code} {S0 : ST} {fu : Nat} {z : Int32 × ST} {a : Nat}  {S : ST} {x1 : Int32} {x2 : Int32} {x3 : Int32} (hM : MC G p s m args c cX12_years w_X12_years RX12) (hml : c.maxLocals = 5) (hr : meth.sig.returnType = (some .int)) (hlk : meth.locks = false)   (hf : f_X12_years_0 fu  S a x1 x2 x3 = some z) : (gC (S a) = 11) → (∀ b, gC (S0 b) ≠ 0 → gC (S b) = gC (S0 b)) → ∀ (H : Heap) (locs : List Loc), WB G S s H locs → ∀ (ls : Array Slot), lv_has ls 5 [(0, .ref a), (1, .int x1), (2, .int x2), (3, .int x3)] → W p l e RM_X12_years s m args below meth c H locs 0 0 (QR G below args s (some (.int z.1)) S0 z.2) (F0 m 0 ls []) := by
  intro ha hK0 H locs hW ls hl
  have hx := hM.1
  have hb := hM.2.1
  refine lv_iload_n hx hb dX12_years_0 rfl (lv_at hl 1 rfl) ?_
  refine lv_if_lt (tgt := 26) hx hb dX12_years_1 (by decide) (fun c1 => ?_) (fun c1 => ?_)
  · have hf := if_t c1 hf
    exact t_X12_years_26 (fu := fu) hM hml hr hlk hf ha hK0 _ _ hW _ (lv_sub hl [0, 1, 2, 3] rfl)
  · have hf := if_f c1 hf
    refine lv_iload_n hx hb dX12_years_4 rfl (lv_at hl 1 rfl) ?_
    refine lv_sipush (v := (9999 : Int32)) hx hb dX12_years_5 (by decide) ?_
    refine lv_icmp_gt (tgt := 26) hx hb dX12_years_8 (by decide) (fun c2 => ?_) (fun c2 => ?_)
    · have hf := if_t c2 hf
      exact t_X12_years_26 (fu := fu) hM hml hr hlk hf ha hK0 _ _ hW _ (lv_sub hl [0, 1, 2, 3] rfl)
    · have hf := if_f c2 hf
      refine lv_iload_n hx hb dX12_years_11 rfl (lv_at hl 2 rfl) ?_
      refine lv_iconst (v := (1 : Int32)) hx hb dX12_years_12 (by decide) ?_
      refine lv_icmp_lt (tgt := 26) hx hb dX12_years_13 (by decide) (fun c3 => ?_) (fun c3 => ?_)
      · have hf := if_t c3 hf
        exact t_X12_years_26 (fu := fu) hM hml hr hlk hf ha hK0 _ _ hW _ (lv_sub hl [0, 1, 2, 3] rfl)
      · have hf := if_f c3 hf
        refine lv_iload_n hx hb dX12_years_16 rfl (lv_at hl 2 rfl) ?_
        refine lv_bipush (v := (60 : Int32)) hx hb dX12_years_17 (by decide) ?_
        refine lv_icmp_gt (tgt := 26) hx hb dX12_years_19 (by decide) (fun c4 => ?_) (fun c4 => ?_)
        · have hf := if_t c4 hf
          exact t_X12_years_26 (fu := fu) hM hml hr hlk hf ha hK0 _ _ hW _ (lv_sub hl [0, 1, 2, 3] rfl)
        · have hf := if_f c4 hf
          refine lv_iconst (v := (1 : Int32)) hx hb dX12_years_22 (by decide) ?_
          refine lv_goto (tgt := 27) hx hb dX12_years_23 (by decide) ?_
          exact t_X12_years_27 (fu := fu) hM hml hr hlk hf ha hK0 _ _ hW _ (lv_sub hl [0, 1, 2, 3] rfl)
noncomputable def f_X12_years (fu : Nat) (S : ST) (a : Nat) (x1 : Int32) (x2 : Int32) (x3 : Int32) : Option (Int32 × ST) := f_X12_years_0 fu S a x1 x2 x3
set_option maxHeartbeats 4000000 in
set_option maxRecDepth 100000 in
theorem c_X12_years (l : Launch) (G : GG) (fu : Nat) (S : ST) (a : Nat) (x1 : Int32) (x2 : Int32) (x3 : Int32) {z : Int32} {w : ST} (ha : gC (S a) = 11) (hf : f_X12_years fu S a x1 x2 x3 = some (z, w)) : Ct l yX12_years w_X12_years RM_X12_years G S [.ref a, .int x1, .int x2, .int x3] (some (.int z)) w 0 0 := by
  refine Met.ofW (cc := cX12_years) (maxL := 5) (ret := (some .int)) (by decide) rfl ?_
  intro p e s m args below meth c s₁ B hml hv
  obtain ⟨rfl, hB, hK, hz⟩ := hv
  have hM : MC G p s m _ c cX12_years w_X12_years RX12 := ⟨B.exec, B.bytes, findClass_of_methodNamed B.named, atoms_spec (ws := w_X12_years) B.pre, hK, hz⟩
  have hW : WB G S s s.heap [] := ⟨hB, va_S.rf⟩
  have hl := lv_entry ([.ref a, .int x1, .int x2, .int x3]) (n := 5) (Nat.le_of_ble_eq_true rfl)
  rw [lg_entry_eq]
  generalize (lg_sl ([.ref a, .int x1, .int x2, .int x3]) ++ List.replicate (5 - (lg_sl ([.ref a, .int x1, .int x2, .int x3])).length) Slot.unset).toArray = ls at hl ⊢
  have hl : lv_has ls 5 [(0, .ref a), (1, .int x1), (2, .int x2), (3, .int x3)] := hl
  exact t_X12_years_0 (fu := fu) hM hml B.returns B.notSynchronized hf ha (fun _ _ => rfl) _ _ hW _ (lv_sub hl [0, 1, 2, 3] rfl)
abbrev RM_X12_areThere : Room := { frames := 0, cells := 0, slots := 0, locals := 0 }
abbrev w_X12_areThere : List Cond := Cond.code yX12_areThere cX12_areThere 2 (some .boolean) :: wsL_law0
noncomputable def f_X12_areThere_21 (fu : Nat)  (S : ST) (a : Nat) : Option (Int32) :=
  some ((0 : Int32))
set_option maxHeartbeats 4000000 in
set_option maxRecDepth 100000 in
theorem t_X12_areThere_21 {G : GG} {p : Program} {l : Launch} {e : Env} {s : State} {m : MethodId} {args : Array Value} {below : List Frame} {meth : Method} {c : Code} {S : ST} {fu : Nat} {z : Int32} {a : Nat}  (hM : MC G p s m args c cX12_areThere w_X12_areThere RX12) (hml : c.maxLocals = 2) (hr : meth.sig.returnType = (some .boolean)) (hlk : meth.locks = false) (ha : gC (S a) = 11)  (hf : f_X12_areThere_21 fu  S a  = some z) : ∀ (H : Heap) (locs : List Loc), WB G S s H locs → ∀ (ls : Array Slot), lv_has ls 2 [] → W p l e RM_X12_areThere s m args below meth c H locs 0 0 (QR G below args s (some (.int z)) S S) (F0 m 21 ls []) := by
  intro  H locs hW ls hl
  have hx := hM.1
  have hb := hM.2.1
  refine lv_iconst (v := (0 : Int32)) hx hb dX12_areThere_21 (by decide) ?_
  cases hf
  exact W.zret (v := (0 : Int32)) hx hb hr (by decide) (b_ret0 hW (fun _ _ => rfl) _) hW.2.2.2 dX12_areThere_22 hlk
noncomputable def f_X12_areThere_0 (fu : Nat)  (S : ST) (a : Nat) (x1 : Int32) : Option (Int32) :=
  if x1 < 0 then
    (f_X12_areThere_21 fu S a)
  else
    (ck (decide (gC (S (a + 9)) = 3)) <|
    if ((1 : Int32) <<< ((gI (S (a + 9)) 7) &&& 31)) ≤ x1 then
      (f_X12_areThere_21 fu S a)
    else
      (some ((1 : Int32))))
set_option maxHeartbeats 4000000 in
set_option maxRecDepth 100000 in
theorem t_X12_areThere_0 {G : GG} {p : Program} {l : Launch} {e : Env} {s : State} {m : MethodId} {args : Array Value} {below : List Frame} {meth : Method} {c : Code} {S : ST} {fu : Nat} {z : Int32} {a : Nat}  {x1 : Int32} (hM : MC G p s m args c cX12_areThere w_X12_areThere RX12) (hml : c.maxLocals = 2) (hr : meth.sig.returnType = (some .boolean)) (hlk : meth.locks = false) (ha : gC (S a) = 11)  (hf : f_X12_areThere_0 fu  S a x1 = some z) : ∀ (H : Heap) (locs : List Loc), WB G S s H locs → ∀ (ls : Array Slot), lv_has ls 2 [(0, .ref a), (1, .int x1)] → W p l e RM_X12_areThere s m args below meth c H locs 0 0 (QR G below args s (some (.int z)) S S) (F0 m 0 ls []) := by
  intro  H locs hW ls hl
  have hx := hM.1
  have hb := hM.2.1
  refine lv_iload_n hx hb dX12_areThere_0 rfl (lv_at hl 1 rfl) ?_
  refine lv_if_lt (tgt := 21) hx hb dX12_areThere_1 (by decide) (fun c1 => ?_) (fun c1 => ?_)
  · have hf := if_t c1 hf
    exact t_X12_areThere_21 (fu := fu) hM hml hr hlk ha hf _ _ hW _ (lv_sub hl [] rfl)
  · have hf := if_f c1 hf
    refine lv_iload_n hx hb dX12_areThere_4 rfl (lv_at hl 1 rfl) ?_
    refine lv_iconst (v := (1 : Int32)) hx hb dX12_areThere_5 (by decide) ?_
    refine lv_aload_n hx hb dX12_areThere_6 rfl (lv_at hl 0 rfl) ?_
    refine b_get hM (hW.at_ a) 10 2 ha rfl rfl (by decide) wi_X12 (wgm fk_RX12_28) (x := .ref (a + 9)) rfl dX12_areThere_7 ?_
    obtain ⟨h2, hf⟩ := ck_elim hf
    have h2 := of_decide_eq_true h2
    refine b_get hM (hW.at_ (a + 9)) 2 7 h2 rfl rfl (by decide) wi_X3 (wgm fk_RX12_176) (x := .int (gI (S (a + 9)) 7)) rfl dX12_areThere_10 ?_
    refine lv_ishl hx hb dX12_areThere_13 ?_
    refine lv_icmp_ge (tgt := 21) hx hb dX12_areThere_14 (by decide) (fun c3 => ?_) (fun c3 => ?_)
    · have hf := if_t c3 hf
      exact t_X12_areThere_21 (fu := fu) hM hml hr hlk ha hf _ _ hW _ (lv_sub hl [] rfl)
    · have hf := if_f c3 hf
      refine lv_iconst (v := (1 : Int32)) hx hb dX12_areThere_17 (by decide) ?_
      refine lv_goto (tgt := 22) hx hb dX12_areThere_18 (by decide) ?_
      cases hf
      exact W.zret (v := (1 : Int32)) hx hb hr (by decide) (b_ret0 hW (fun _ _ => rfl) _) hW.2.2.2 dX12_areThere_22 hlk
noncomputable def f_X12_areThere (fu : Nat) (S : ST) (a : Nat) (x1 : Int32) : Option (Int32) := f_X12_areThere_0 fu S a x1
set_option maxHeartbeats 4000000 in
set_option maxRecDepth 100000 in
theorem c_X12_areThere (l : Launch) (G : GG) (fu : Nat) (S : ST) (a : Nat) (x1 : Int32) {z : Int32} (ha : gC (S a) = 11) (hf : f_X12_areThere fu S a x1 = some z) : Ct l yX12_areThere w_X12_areThere RM_X12_areThere G S [.ref a, .int x1] (some (.int z)) S 0 0 := by
  refine Met.ofW (cc := cX12_areThere) (maxL := 2) (ret := (some .boolean)) (by decide) rfl ?_
  intro p e s m args below meth c s₁ B hml hv
  obtain ⟨rfl, hB, hK, hz⟩ := hv
  have hM : MC G p s m _ c cX12_areThere w_X12_areThere RX12 := ⟨B.exec, B.bytes, findClass_of_methodNamed B.named, atoms_spec (ws := w_X12_areThere) B.pre, hK, hz⟩
  have hW : WB G S s s.heap [] := ⟨hB, va_S.rf⟩
  have hl := lv_entry ([.ref a, .int x1]) (n := 2) (Nat.le_of_ble_eq_true rfl)
  rw [lg_entry_eq]
  generalize (lg_sl ([.ref a, .int x1]) ++ List.replicate (2 - (lg_sl ([.ref a, .int x1])).length) Slot.unset).toArray = ls at hl ⊢
  have hl : lv_has ls 2 [(0, .ref a), (1, .int x1)] := hl
  exact t_X12_areThere_0 (fu := fu) hM hml B.returns B.notSynchronized ha hf _ _ hW _ (lv_sub hl [0, 1] rfl)
abbrev RM_X12_tree : Room := { frames := 12, cells := 0, slots := 0, locals := 320 }
abbrev w_X12_tree : List Cond := Cond.code yX12_tree cX12_tree 4 (some .int) :: wsL_law0
noncomputable def f_X12_tree_33 (fu : Nat)  (S : ST) (a : Nat) : Option (Int32 × ST) :=
  some ((-1 : Int32), S)
set_option maxHeartbeats 4000000 in
set_option maxRecDepth 100000 in
theorem t_X12_tree_33 {G : GG} {p : Program} {l : Launch} {e : Env} {s : State} {m : MethodId} {args : Array Value} {below : List Frame} {meth : Method} {c : Code} {S0 : ST} {fu : Nat} {z : Int32 × ST} {a : Nat}  {S : ST} (hM : MC G p s m args c cX12_tree w_X12_tree RX12) (hml : c.maxLocals = 4) (hr : meth.sig.returnType = (some .int)) (hlk : meth.locks = false)   (hf : f_X12_tree_33 fu  S a  = some z) : (gC (S a) = 11) → (∀ b, gC (S0 b) ≠ 0 → gC (S b) = gC (S0 b)) → ∀ (H : Heap) (locs : List Loc), WB G S s H locs → ∀ (ls : Array Slot), lv_has ls 4 [] → W p l e RM_X12_tree s m args below meth c H locs 0 0 (QR G below args s (some (.int z.1)) S0 z.2) (F0 m 33 ls []) := by
  intro ha hK0 H locs hW ls hl
  have hx := hM.1
  have hb := hM.2.1
  refine lv_iconst (v := (-1 : Int32)) hx hb dX12_tree_33 (by decide) ?_
  cases hf
  exact W.iret hx hb hr (b_ret0 hW hK0 _) hW.2.2.2 dX12_tree_34 hlk
noncomputable def f_X12_tree_0 (fu : Nat)  (S : ST) (a : Nat) (x1 : Int32) (x2 : Int32) : Option (Int32 × ST) :=
  bd (f_J6_bitCount_0f7a4 fu x1) fun r1 =>
  bd (f_X12_areThere fu S a x1) fun r2 =>
  if r2 = 0 then
    (f_X12_tree_33 fu S a)
  else
    (if r1 < (1 : Int32) then
      (f_X12_tree_33 fu S a)
    else
      (if (6 : Int32) < r1 then
        (f_X12_tree_33 fu S a)
      else
        (if x2 < 0 then
          (f_X12_tree_33 fu S a)
        else
          (if x2 ≤ r1 then
            (ck (decide (gC (S (a + 25)) = 9)) <|
            ck (decide (gC (S (a + 9)) = 3)) <|
            bd (f_X9_grow fu S (a + 25) (a + 9) x1) fun S11 =>
            if x2 = 0 then
              (some ((gI (S11 (a + 25)) 4), S11))
            else
              (if x2 = (1 : Int32) then
                (some ((gI (S11 (a + 25)) 5), S11))
              else
                (bd (f_X9_joinedTo fu (S11 (a + 25)) (x2 - (1 : Int32))) fun r14 =>
                some (r14, S11))))
          else
            (f_X12_tree_33 fu S a)))))
set_option maxHeartbeats 4000000 in
set_option maxRecDepth 100000 in
theorem t_X12_tree_0 {G : GG} {p : Program} {l : Launch} {e : Env} {s : State} {m : MethodId} {args : Array Value} {below : List Frame} {meth : Method} {c : Code} {S0 : ST} {fu : Nat} {z : Int32 × ST} {a : Nat}  {S : ST} {x1 : Int32} {x2 : Int32} (hM : MC G p s m args c cX12_tree w_X12_tree RX12) (hml : c.maxLocals = 4) (hr : meth.sig.returnType = (some .int)) (hlk : meth.locks = false)   (hf : f_X12_tree_0 fu  S a x1 x2 = some z) : (gC (S a) = 11) → (∀ b, gC (S0 b) ≠ 0 → gC (S b) = gC (S0 b)) → ∀ (H : Heap) (locs : List Loc), WB G S s H locs → ∀ (ls : Array Slot), lv_has ls 4 [(0, .ref a), (1, .int x1), (2, .int x2)] → W p l e RM_X12_tree s m args below meth c H locs 0 0 (QR G below args s (some (.int z.1)) S0 z.2) (F0 m 0 ls []) := by
  intro ha hK0 H locs hW ls hl
  have hx := hM.1
  have hb := hM.2.1
  refine lv_iload_n hx hb dX12_tree_0 rfl (lv_at hl 1 rfl) ?_
  obtain ⟨r1, hr1, hf⟩ := bd_elim hf
  refine s_callSi [.int x1] [] hM hml hl.1 hW (c_J6_bitCount_0f7a4 l G fu _ _ hr1) (va_cwS 1 hM.2.2.2.1 (gS mk_RX12_248 sm_J6_bitCount_0f7a4 it_RJ6 cd_J6_bitCount_0f7a4) rfl rfl rfl (by decide +kernel) ⟨Nat.le_of_ble_eq_true rfl, Nat.le_of_ble_eq_true rfl⟩) rfl rfl (Nat.le_of_ble_eq_true rfl) ⟨Nat.zero_le _, Nat.zero_le _⟩ dX12_tree_1 (fun H locs hW hk => ?_)
  refine lv_istore_n (lv' := [(3, .int r1), (0, .ref a), (1, .int x1), (2, .int x2)]) hx hb dX12_tree_4 rfl hl (by decide) rfl (fun ls hl => ?_)
  refine lv_aload_n hx hb dX12_tree_5 rfl (lv_at hl 1 rfl) ?_
  refine lv_iload_n hx hb dX12_tree_6 rfl (lv_at hl 2 rfl) ?_
  obtain ⟨r2, hr2, hf⟩ := bd_elim hf
  refine s_callVi [.int x1] [] hM hml hl.1 hW ha rfl (by decide) (c_X12_areThere l G fu _ a _ ha hr2) (cwV 1 hM.2.2.2.1 (gV mk_RX12_253 im_X12_areThere se_X12_areThere it_RX12 cd_X12_areThere) rfl rfl rfl (by decide +kernel) ⟨Nat.le_of_ble_eq_true rfl, Nat.le_of_ble_eq_true rfl⟩) rfl rfl (Nat.le_of_ble_eq_true rfl) ⟨Nat.zero_le _, Nat.zero_le _⟩ dX12_tree_7 (fun H locs hW hk => ?_)
  refine lv_if_eq (tgt := 33) hx hb dX12_tree_10 (by decide) (fun c3 => ?_) (fun c3 => ?_)
  · have hf := if_t c3 hf
    exact t_X12_tree_33 (fu := fu) hM hml hr hlk hf ha hK0 _ _ hW _ (lv_sub hl [] rfl)
  · have hf := if_f c3 hf
    refine lv_iload_n hx hb dX12_tree_13 rfl (lv_at hl 0 rfl) ?_
    refine lv_iconst (v := (1 : Int32)) hx hb dX12_tree_14 (by decide) ?_
    refine lv_icmp_lt (tgt := 33) hx hb dX12_tree_15 (by decide) (fun c4 => ?_) (fun c4 => ?_)
    · have hf := if_t c4 hf
      exact t_X12_tree_33 (fu := fu) hM hml hr hlk hf ha hK0 _ _ hW _ (lv_sub hl [] rfl)
    · have hf := if_f c4 hf
      refine lv_iload_n hx hb dX12_tree_18 rfl (lv_at hl 0 rfl) ?_
      refine lv_bipush (v := (6 : Int32)) hx hb dX12_tree_19 (by decide) ?_
      refine lv_icmp_gt (tgt := 33) hx hb dX12_tree_21 (by decide) (fun c5 => ?_) (fun c5 => ?_)
      · have hf := if_t c5 hf
        exact t_X12_tree_33 (fu := fu) hM hml hr hlk hf ha hK0 _ _ hW _ (lv_sub hl [] rfl)
      · have hf := if_f c5 hf
        refine lv_iload_n hx hb dX12_tree_24 rfl (lv_at hl 3 rfl) ?_
        refine lv_if_lt (tgt := 33) hx hb dX12_tree_25 (by decide) (fun c6 => ?_) (fun c6 => ?_)
        · have hf := if_t c6 hf
          exact t_X12_tree_33 (fu := fu) hM hml hr hlk hf ha hK0 _ _ hW _ (lv_sub hl [] rfl)
        · have hf := if_f c6 hf
          refine lv_iload_n hx hb dX12_tree_28 rfl (lv_at hl 3 rfl) ?_
          refine lv_iload_n hx hb dX12_tree_29 rfl (lv_at hl 0 rfl) ?_
          refine lv_icmp_le (tgt := 35) hx hb dX12_tree_30 (by decide) (fun c7 => ?_) (fun c7 => ?_)
          · have hf := if_t c7 hf
            refine lv_aload_n hx hb dX12_tree_35 rfl (lv_at hl 1 rfl) ?_
            refine b_get hM (hW.at_ a) 10 6 ha rfl rfl (by decide) wi_X12 (wgm fk_RX12_45) (x := .ref (a + 25)) rfl dX12_tree_36 ?_
            obtain ⟨h8, hf⟩ := ck_elim hf
            have h8 := of_decide_eq_true h8
            refine lv_aload_n hx hb dX12_tree_39 rfl (lv_at hl 1 rfl) ?_
            refine b_get hM (hW.at_ a) 10 2 ha rfl rfl (by decide) wi_X12 (wgm fk_RX12_28) (x := .ref (a + 9)) rfl dX12_tree_40 ?_
            obtain ⟨h9, hf⟩ := ck_elim hf
            have h9 := of_decide_eq_true h9
            refine lv_iload_n hx hb dX12_tree_43 rfl (lv_at hl 2 rfl) ?_
            obtain ⟨S11, hr10, hf⟩ := bd_elim hf
            refine s_callVv [.ref (a + 9), .int x1] [] hM hml hl.1 hW h8 rfl (by decide) (c_X9_grow l G fu _ (a + 25) _ _ h8 h9 hr10) (cwV 2 hM.2.2.2.1 (gV mk_RX12_256 im_X9_grow se_X9_grow it_RX9 cd_X9_grow) rfl rfl rfl (by decide +kernel) ⟨Nat.le_of_ble_eq_true rfl, Nat.le_of_ble_eq_true rfl⟩) rfl rfl (Nat.le_of_ble_eq_true rfl) ⟨Nat.zero_le _, Nat.zero_le _⟩ dX12_tree_44 (fun H locs hW hk => ?_)
            have ha := keep1 hk ha
            have h8 := keep1 hk h8
            have h9 := keep1 hk h9
            have hK0 := keep_tr hK0 hk
            refine lv_iload_n hx hb dX12_tree_47 rfl (lv_at hl 3 rfl) ?_
            refine lv_if_ne (tgt := 59) hx hb dX12_tree_48 (by decide) (fun c12 => ?_) (fun c12 => ?_)
            · have hf := if_f c12 hf
              refine lv_iload_n hx hb dX12_tree_59 rfl (lv_at hl 3 rfl) ?_
              refine lv_iconst (v := (1 : Int32)) hx hb dX12_tree_60 (by decide) ?_
              refine lv_icmp_ne (tgt := 74) hx hb dX12_tree_61 (by decide) (fun c13 => ?_) (fun c13 => ?_)
              · have hf := if_f c13 hf
                refine lv_aload_n hx hb dX12_tree_74 rfl (lv_at hl 1 rfl) ?_
                refine b_get hM (hW.at_ a) 10 6 ha rfl rfl (by decide) wi_X12 (wgm fk_RX12_45) (x := .ref (a + 25)) rfl dX12_tree_75 ?_
                refine lv_iload_n hx hb dX12_tree_78 rfl (lv_at hl 3 rfl) ?_
                refine lv_iconst (v := (1 : Int32)) hx hb dX12_tree_79 (by decide) ?_
                refine lv_isub hx hb dX12_tree_80 ?_
                obtain ⟨r14, hr14, hf⟩ := bd_elim hf
                refine s_callVi [.int (x2 - (1 : Int32))] [] hM hml hl.1 hW h8 rfl (by decide) (Ct_rd (c_X9_joinedTo l G fu _ (a + 25) (S11 (a + 25)) _ h8 hr14)) (cwV 1 hM.2.2.2.1 (gV mk_RX12_266 im_X9_joinedTo se_X9_joinedTo it_RX9 cd_X9_joinedTo) rfl rfl rfl (by decide +kernel) ⟨Nat.le_of_ble_eq_true rfl, Nat.le_of_ble_eq_true rfl⟩) rfl rfl (Nat.le_of_ble_eq_true rfl) ⟨Nat.zero_le _, Nat.zero_le _⟩ dX12_tree_81 (fun H locs hW hk => ?_)
                cases hf
                exact W.iret hx hb hr (b_ret0 hW hK0 _) hW.2.2.2 dX12_tree_84 hlk
              · have hf := if_t c13 hf
                refine lv_aload_n hx hb dX12_tree_64 rfl (lv_at hl 1 rfl) ?_
                refine b_get hM (hW.at_ a) 10 6 ha rfl rfl (by decide) wi_X12 (wgm fk_RX12_45) (x := .ref (a + 25)) rfl dX12_tree_65 ?_
                refine b_get hM (hW.at_ (a + 25)) 8 5 h8 rfl rfl (by decide) wi_X9 (wgm fk_RX12_263) (x := .int (gI (S11 (a + 25)) 5)) rfl dX12_tree_68 ?_
                refine lv_goto (tgt := 84) hx hb dX12_tree_71 (by decide) ?_
                cases hf
                exact W.iret hx hb hr (b_ret0 hW hK0 _) hW.2.2.2 dX12_tree_84 hlk
            · have hf := if_t c12 hf
              refine lv_aload_n hx hb dX12_tree_51 rfl (lv_at hl 1 rfl) ?_
              refine b_get hM (hW.at_ a) 10 6 ha rfl rfl (by decide) wi_X12 (wgm fk_RX12_45) (x := .ref (a + 25)) rfl dX12_tree_52 ?_
              refine b_get hM (hW.at_ (a + 25)) 8 4 h8 rfl rfl (by decide) wi_X9 (wgm fk_RX12_260) (x := .int (gI (S11 (a + 25)) 4)) rfl dX12_tree_55 ?_
              cases hf
              exact W.iret hx hb hr (b_ret0 hW hK0 _) hW.2.2.2 dX12_tree_58 hlk
          · have hf := if_f c7 hf
            exact t_X12_tree_33 (fu := fu) hM hml hr hlk hf ha hK0 _ _ hW _ (lv_sub hl [] rfl)
noncomputable def f_X12_tree (fu : Nat) (S : ST) (a : Nat) (x1 : Int32) (x2 : Int32) : Option (Int32 × ST) := f_X12_tree_0 fu S a x1 x2
set_option maxHeartbeats 4000000 in
set_option maxRecDepth 100000 in
theorem c_X12_tree (l : Launch) (G : GG) (fu : Nat) (S : ST) (a : Nat) (x1 : Int32) (x2 : Int32) {z : Int32} {w : ST} (ha : gC (S a) = 11) (hf : f_X12_tree fu S a x1 x2 = some (z, w)) : Ct l yX12_tree w_X12_tree RM_X12_tree G S [.ref a, .int x1, .int x2] (some (.int z)) w 0 0 := by
  refine Met.ofW (cc := cX12_tree) (maxL := 4) (ret := (some .int)) (by decide) rfl ?_
  intro p e s m args below meth c s₁ B hml hv
  obtain ⟨rfl, hB, hK, hz⟩ := hv
  have hM : MC G p s m _ c cX12_tree w_X12_tree RX12 := ⟨B.exec, B.bytes, findClass_of_methodNamed B.named, atoms_spec (ws := w_X12_tree) B.pre, hK, hz⟩
  have hW : WB G S s s.heap [] := ⟨hB, va_S.rf⟩
  have hl := lv_entry ([.ref a, .int x1, .int x2]) (n := 4) (Nat.le_of_ble_eq_true rfl)
  rw [lg_entry_eq]
  generalize (lg_sl ([.ref a, .int x1, .int x2]) ++ List.replicate (4 - (lg_sl ([.ref a, .int x1, .int x2])).length) Slot.unset).toArray = ls at hl ⊢
  have hl : lv_has ls 4 [(0, .ref a), (1, .int x1), (2, .int x2)] := hl
  exact t_X12_tree_0 (fu := fu) hM hml B.returns B.notSynchronized hf ha (fun _ _ => rfl) _ _ hW _ (lv_sub hl [0, 1, 2] rfl)
abbrev RM_X12_kin : Room := { frames := 1, cells := 0, slots := 0, locals := 21 }
abbrev w_X12_kin : List Cond := Cond.code yX12_kin cX12_kin 4 (some .int) :: wsL_law0
noncomputable def f_X12_kin_54 (fu : Nat) (k21 : Int32 → Int32 → Option (Int32)) (S : ST) (a : Nat) (x1 : Int32) (x2 : Int32) (x3 : Int32) : Option (Int32) :=
  nm (x3 + (1 : Int32)) fun y1 =>
  k21 x2 y1
set_option maxHeartbeats 4000000 in
set_option maxRecDepth 100000 in
theorem t_X12_kin_54 {G : GG} {p : Program} {l : Launch} {e : Env} {s : State} {m : MethodId} {args : Array Value} {below : List Frame} {meth : Method} {c : Code} {S : ST} {fu : Nat} {z : Int32} {a : Nat} {k21 : Int32 → Int32 → Option (Int32)} {x1 : Int32} {x2 : Int32} {x3 : Int32} (hM : MC G p s m args c cX12_kin w_X12_kin RX12) (hml : c.maxLocals = 4) (hr : meth.sig.returnType = (some .int)) (hlk : meth.locks = false) (ha : gC (S a) = 11) (hk21 : ∀ (x2 : Int32) (x3 : Int32), k21 x2 x3 = some z → ∀ (H : Heap) (locs : List Loc), WB G S s H locs → ∀ (ls : Array Slot), lv_has ls 4 [(0, .ref a), (1, .int x1), (2, .int x2), (3, .int x3)] → W p l e RM_X12_kin s m args below meth c H locs 0 0 (QR G below args s (some (.int z)) S S) (F0 m 21 ls [])) (hf : f_X12_kin_54 fu k21 S a x1 x2 x3 = some z) : ∀ (H : Heap) (locs : List Loc), WB G S s H locs → ∀ (ls : Array Slot), lv_has ls 4 [(0, .ref a), (1, .int x1), (2, .int x2), (3, .int x3)] → W p l e RM_X12_kin s m args below meth c H locs 0 0 (QR G below args s (some (.int z)) S S) (F0 m 54 ls []) := by
  intro  H locs hW ls hl
  have hx := hM.1
  have hb := hM.2.1
  obtain ⟨y1, ey1⟩ : ∃ y : Int32, y = x3 + (1 : Int32) := ⟨_, rfl⟩
  have hf := nm_at ey1 hf
  refine lv_iinc (v := y1) (lv' := [(3, .int y1), (0, .ref a), (1, .int x1), (2, .int x2)]) hx hb dX12_kin_54 hl (k := 3) rfl (by rw [ey1]; rfl) (by decide) rfl (fun ls hl => ?_)
  refine lv_goto (tgt := 21) hx hb dX12_kin_57 (by decide) ?_
  exact hk21 _ _ hf _ _ hW _ (lv_sub hl [1, 2, 3, 0] rfl)
noncomputable def f_X12_kin_21s (fu : Nat)  (k21 : Int32 → Int32 → Option (Int32)) (S : ST) (a : Nat) (x1 : Int32) (x2 : Int32) (x3 : Int32) : Option (Int32) :=
  ck (decide (gC (S (a + 9)) = 3)) <|
  if (gI (S (a + 9)) 7) ≤ x3 then
    (some ((x2 &&& (((1 : Int32) <<< (x1 &&& 31)) ^^^ (-1 : Int32)))))
  else
    (ck (inb x3 8) <|
    if ((x2 >>> ((gA (S (a + 9)) 2 x3.toNatClampNeg) &&& 31)) &&& (1 : Int32)) = 0 then
      (f_X12_kin_54 fu k21 S a x1 x2 x3)
    else
      (nm ((x2 ||| ((1 : Int32) <<< (x3 &&& 31)))) fun y5 =>
      f_X12_kin_54 fu k21 S a x1 y5 x3))
noncomputable def f_X12_kin_21 (fu n : Nat)  (S : ST) (a : Nat) (x1 : Int32) : Int32 → Int32 → Option (Int32) :=
  lq_2 (fun k21 => f_X12_kin_21s fu  k21 S a x1) n
set_option maxHeartbeats 4000000 in
set_option maxRecDepth 100000 in
theorem t_X12_kin_21s {G : GG} {p : Program} {l : Launch} {e : Env} {s : State} {m : MethodId} {args : Array Value} {below : List Frame} {meth : Method} {c : Code} {S : ST} {fu : Nat} {z : Int32} {a : Nat}  {k21 : Int32 → Int32 → Option (Int32)} {x1 : Int32} (hM : MC G p s m args c cX12_kin w_X12_kin RX12) (hml : c.maxLocals = 4) (hr : meth.sig.returnType = (some .int)) (hlk : meth.locks = false) (ha : gC (S a) = 11)  (hk21 : ∀ (x2 : Int32) (x3 : Int32), k21 x2 x3 = some z → ∀ (H : Heap) (locs : List Loc), WB G S s H locs → ∀ (ls : Array Slot), lv_has ls 4 [(0, .ref a), (1, .int x1), (2, .int x2), (3, .int x3)] → W p l e RM_X12_kin s m args below meth c H locs 0 0 (QR G below args s (some (.int z)) S S) (F0 m 21 ls [])) : ∀ (x2 : Int32) (x3 : Int32), f_X12_kin_21s fu  k21 S a x1 x2 x3 = some z → ∀ (H : Heap) (locs : List Loc), WB G S s H locs → ∀ (ls : Array Slot), lv_has ls 4 [(0, .ref a), (1, .int x1), (2, .int x2), (3, .int x3)] → W p l e RM_X12_kin s m args below meth c H locs 0 0 (QR G below args s (some (.int z)) S S) (F0 m 21 ls []) := by
  intro x2 x3 hf  H locs hW ls hl
  have hx := hM.1
  have hb := hM.2.1
  refine lv_iload_n hx hb dX12_kin_21 rfl (lv_at hl 3 rfl) ?_
  refine lv_aload_n hx hb dX12_kin_22 rfl (lv_at hl 0 rfl) ?_
  refine b_get hM (hW.at_ a) 10 2 ha rfl rfl (by decide) wi_X12 (wgm fk_RX12_28) (x := .ref (a + 9)) rfl dX12_kin_23 ?_
  obtain ⟨h1, hf⟩ := ck_elim hf
  have h1 := of_decide_eq_true h1
  refine b_get hM (hW.at_ (a + 9)) 2 7 h1 rfl rfl (by decide) wi_X3 (wgm fk_RX12_176) (x := .int (gI (S (a + 9)) 7)) rfl dX12_kin_26 ?_
  refine lv_icmp_ge (tgt := 60) hx hb dX12_kin_29 (by decide) (fun c2 => ?_) (fun c2 => ?_)
  · have hf := if_t c2 hf
    refine lv_iload_n hx hb dX12_kin_60 rfl (lv_at hl 2 rfl) ?_
    refine lv_iconst (v := (1 : Int32)) hx hb dX12_kin_61 (by decide) ?_
    refine lv_iload_n hx hb dX12_kin_62 rfl (lv_at hl 1 rfl) ?_
    refine lv_ishl hx hb dX12_kin_63 ?_
    refine lv_iconst (v := (-1 : Int32)) hx hb dX12_kin_64 (by decide) ?_
    refine lv_ixor hx hb dX12_kin_65 ?_
    refine lv_iand hx hb dX12_kin_66 ?_
    cases hf
    exact W.iret hx hb hr (b_ret0 hW (fun _ _ => rfl) _) hW.2.2.2 dX12_kin_67 hlk
  · have hf := if_f c2 hf
    refine lv_iload_n hx hb dX12_kin_32 rfl (lv_at hl 2 rfl) ?_
    refine lv_aload_n hx hb dX12_kin_33 rfl (lv_at hl 0 rfl) ?_
    refine b_get hM (hW.at_ a) 10 2 ha rfl rfl (by decide) wi_X12 (wgm fk_RX12_28) (x := .ref (a + 9)) rfl dX12_kin_34 ?_
    refine b_get hM (hW.at_ (a + 9)) 2 2 h1 rfl rfl (by decide) wi_X3 (wgm fk_RX12_140) (x := .ref ((a + 9) + 3)) rfl dX12_kin_37 ?_
    refine lv_iload_n hx hb dX12_kin_40 rfl (lv_at hl 3 rfl) ?_
    obtain ⟨h3, hf⟩ := ck_elim hf
    refine b_iald (n := 8) hM (hW.at_ (a + 9)) 2 2 h1 (by decide) rfl rfl rfl rfl h3 dX12_kin_41 ?_
    refine lv_ishr hx hb dX12_kin_42 ?_
    refine lv_iconst (v := (1 : Int32)) hx hb dX12_kin_43 (by decide) ?_
    refine lv_iand hx hb dX12_kin_44 ?_
    refine lv_if_eq (tgt := 54) hx hb dX12_kin_45 (by decide) (fun c4 => ?_) (fun c4 => ?_)
    · have hf := if_t c4 hf
      exact t_X12_kin_54 (fu := fu) hM hml hr hlk ha hk21 hf _ _ hW _ (lv_sub hl [0, 1, 2, 3] rfl)
    · have hf := if_f c4 hf
      refine lv_iload_n hx hb dX12_kin_48 rfl (lv_at hl 2 rfl) ?_
      refine lv_iconst (v := (1 : Int32)) hx hb dX12_kin_49 (by decide) ?_
      refine lv_iload_n hx hb dX12_kin_50 rfl (lv_at hl 3 rfl) ?_
      refine lv_ishl hx hb dX12_kin_51 ?_
      refine lv_ior hx hb dX12_kin_52 ?_
      refine lv_topi (fun y5 ey5 => ?_)
      have hf := nm_at ey5 hf
      refine lv_istore_n (lv' := [(2, .int y5), (0, .ref a), (1, .int x1), (3, .int x3)]) hx hb dX12_kin_53 rfl hl (by decide) rfl (fun ls hl => ?_)
      exact t_X12_kin_54 (fu := fu) hM hml hr hlk ha hk21 hf _ _ hW _ (lv_sub hl [1, 2, 0, 3] rfl)
theorem t_X12_kin_21 {G : GG} {p : Program} {l : Launch} {e : Env} {s : State} {m : MethodId} {args : Array Value} {below : List Frame} {meth : Method} {c : Code} {S : ST} {fu : Nat} {z : Int32} {a : Nat}  {x1 : Int32} (hM : MC G p s m args c cX12_kin w_X12_kin RX12) (hml : c.maxLocals = 4) (hr : meth.sig.returnType = (some .int)) (hlk : meth.locks = false) (ha : gC (S a) = 11)  : ∀ {n : Nat} (x2 : Int32) (x3 : Int32), f_X12_kin_21 fu n  S a x1 x2 x3 = some z → ∀ (H : Heap) (locs : List Loc), WB G S s H locs → ∀ (ls : Array Slot), lv_has ls 4 [(0, .ref a), (1, .int x1), (2, .int x2), (3, .int x3)] → W p l e RM_X12_kin s m args below meth c H locs 0 0 (QR G below args s (some (.int z)) S S) (F0 m 21 ls []) := by
  intro n
  induction n with
  | zero => intro x2 x3 hf; cases hf
  | succ n ih => intro x2 x3 hf; exact t_X12_kin_21s (fu := fu) hM hml hr hlk ha (k21 := f_X12_kin_21 fu n  S a x1) ih _ _ hf
noncomputable def f_X12_kin_0 (fu : Nat)  (S : ST) (a : Nat) (x1 : Int32) : Option (Int32) :=
  ck (decide (gC (S (a + 9)) = 3)) <|
  bd (f_X3_isThere fu (S (a + 9)) x1) fun r2 =>
  if r2 = 0 then
    (some ((-1 : Int32)))
  else
    (nm (((1 : Int32) <<< (x1 &&& 31))) fun y4 =>
    nm ((x1 + (1 : Int32))) fun y5 =>
    f_X12_kin_21 fu fu S a x1 y4 y5)
set_option maxHeartbeats 4000000 in
set_option maxRecDepth 100000 in
theorem t_X12_kin_0 {G : GG} {p : Program} {l : Launch} {e : Env} {s : State} {m : MethodId} {args : Array Value} {below : List Frame} {meth : Method} {c : Code} {S : ST} {fu : Nat} {z : Int32} {a : Nat}  {x1 : Int32} (hM : MC G p s m args c cX12_kin w_X12_kin RX12) (hml : c.maxLocals = 4) (hr : meth.sig.returnType = (some .int)) (hlk : meth.locks = false) (ha : gC (S a) = 11)  (hf : f_X12_kin_0 fu  S a x1 = some z) : ∀ (H : Heap) (locs : List Loc), WB G S s H locs → ∀ (ls : Array Slot), lv_has ls 4 [(0, .ref a), (1, .int x1)] → W p l e RM_X12_kin s m args below meth c H locs 0 0 (QR G below args s (some (.int z)) S S) (F0 m 0 ls []) := by
  intro  H locs hW ls hl
  have hx := hM.1
  have hb := hM.2.1
  refine lv_aload_n hx hb dX12_kin_0 rfl (lv_at hl 0 rfl) ?_
  refine b_get hM (hW.at_ a) 10 2 ha rfl rfl (by decide) wi_X12 (wgm fk_RX12_28) (x := .ref (a + 9)) rfl dX12_kin_1 ?_
  obtain ⟨h1, hf⟩ := ck_elim hf
  have h1 := of_decide_eq_true h1
  refine lv_iload_n hx hb dX12_kin_4 rfl (lv_at hl 1 rfl) ?_
  obtain ⟨r2, hr2, hf⟩ := bd_elim hf
  refine s_callVi [.int x1] [] hM hml hl.1 hW h1 rfl (by decide) (Ct_rd (c_X3_isThere l G fu _ (a + 9) (S (a + 9)) _ h1 hr2)) (cwV 1 hM.2.2.2.1 (gV mk_RX12_130 im_X3_isThere se_X3_isThere it_RX3 cd_X3_isThere) rfl rfl rfl (by decide +kernel) ⟨Nat.le_of_ble_eq_true rfl, Nat.le_of_ble_eq_true rfl⟩) rfl rfl (Nat.le_of_ble_eq_true rfl) ⟨Nat.zero_le _, Nat.zero_le _⟩ dX12_kin_5 (fun H locs hW hk => ?_)
  refine lv_if_ne (tgt := 13) hx hb dX12_kin_8 (by decide) (fun c3 => ?_) (fun c3 => ?_)
  · have hf := if_f c3 hf
    refine lv_iconst (v := (1 : Int32)) hx hb dX12_kin_13 (by decide) ?_
    refine lv_iload_n hx hb dX12_kin_14 rfl (lv_at hl 1 rfl) ?_
    refine lv_ishl hx hb dX12_kin_15 ?_
    refine lv_topi (fun y4 ey4 => ?_)
    have hf := nm_at ey4 hf
    refine lv_istore_n (lv' := [(2, .int y4), (0, .ref a), (1, .int x1)]) hx hb dX12_kin_16 rfl hl (by decide) rfl (fun ls hl => ?_)
    refine lv_iload_n hx hb dX12_kin_17 rfl (lv_at hl 2 rfl) ?_
    refine lv_iconst (v := (1 : Int32)) hx hb dX12_kin_18 (by decide) ?_
    refine lv_iadd hx hb dX12_kin_19 ?_
    refine lv_topi (fun y5 ey5 => ?_)
    have hf := nm_at ey5 hf
    refine lv_istore_n (lv' := [(3, .int y5), (2, .int y4), (0, .ref a), (1, .int x1)]) hx hb dX12_kin_20 rfl hl (by decide) rfl (fun ls hl => ?_)
    exact t_X12_kin_21 (fu := fu) hM hml hr hlk ha _ _ hf _ _ hW _ (lv_sub hl [2, 3, 1, 0] rfl)
  · have hf := if_t c3 hf
    refine lv_iconst (v := (-1 : Int32)) hx hb dX12_kin_11 (by decide) ?_
    cases hf
    exact W.iret hx hb hr (b_ret0 hW (fun _ _ => rfl) _) hW.2.2.2 dX12_kin_12 hlk
noncomputable def f_X12_kin (fu : Nat) (S : ST) (a : Nat) (x1 : Int32) : Option (Int32) := f_X12_kin_0 fu S a x1
set_option maxHeartbeats 4000000 in
set_option maxRecDepth 100000 in
theorem c_X12_kin (l : Launch) (G : GG) (fu : Nat) (S : ST) (a : Nat) (x1 : Int32) {z : Int32} (ha : gC (S a) = 11) (hf : f_X12_kin fu S a x1 = some z) : Ct l yX12_kin w_X12_kin RM_X12_kin G S [.ref a, .int x1] (some (.int z)) S 0 0 := by
  refine Met.ofW (cc := cX12_kin) (maxL := 4) (ret := (some .int)) (by decide) rfl ?_
  intro p e s m args below meth c s₁ B hml hv
  obtain ⟨rfl, hB, hK, hz⟩ := hv
  have hM : MC G p s m _ c cX12_kin w_X12_kin RX12 := ⟨B.exec, B.bytes, findClass_of_methodNamed B.named, atoms_spec (ws := w_X12_kin) B.pre, hK, hz⟩
  have hW : WB G S s s.heap [] := ⟨hB, va_S.rf⟩
  have hl := lv_entry ([.ref a, .int x1]) (n := 4) (Nat.le_of_ble_eq_true rfl)
  rw [lg_entry_eq]
  generalize (lg_sl ([.ref a, .int x1]) ++ List.replicate (4 - (lg_sl ([.ref a, .int x1])).length) Slot.unset).toArray = ls at hl ⊢
  have hl : lv_has ls 4 [(0, .ref a), (1, .int x1)] := hl
  exact t_X12_kin_0 (fu := fu) hM hml B.returns B.notSynchronized ha hf _ _ hW _ (lv_sub hl [0, 1] rfl)
abbrev RM_X12_nearest : Room := { frames := 2, cells := 0, slots := 0, locals := 42 }
abbrev w_X12_nearest : List Cond := Cond.code yX12_nearest cX12_nearest 5 (some .int) :: wsL_law0
noncomputable def f_X12_nearest_87 (fu : Nat) (k17 : Int32 → Int32 → Option (Int32)) (S : ST) (a : Nat) (x1 : Int32) (x2 : Int32) (x3 : Int32) : Option (Int32) :=
  nm (x3 + (1 : Int32)) fun y1 =>
  k17 x2 y1
set_option maxHeartbeats 4000000 in
set_option maxRecDepth 100000 in
theorem t_X12_nearest_87 {G : GG} {p : Program} {l : Launch} {e : Env} {s : State} {m : MethodId} {args : Array Value} {below : List Frame} {meth : Method} {c : Code} {S : ST} {fu : Nat} {z : Int32} {a : Nat} {k17 : Int32 → Int32 → Option (Int32)} {x1 : Int32} {x2 : Int32} {x3 : Int32} (hM : MC G p s m args c cX12_nearest w_X12_nearest RX12) (hml : c.maxLocals = 5) (hr : meth.sig.returnType = (some .int)) (hlk : meth.locks = false) (ha : gC (S a) = 11) (hk17 : ∀ (x2 : Int32) (x3 : Int32), k17 x2 x3 = some z → ∀ (H : Heap) (locs : List Loc), WB G S s H locs → ∀ (ls : Array Slot), lv_has ls 5 [(0, .ref a), (1, .int x1), (2, .int x2), (3, .int x3)] → W p l e RM_X12_nearest s m args below meth c H locs 0 0 (QR G below args s (some (.int z)) S S) (F0 m 17 ls [])) (hf : f_X12_nearest_87 fu k17 S a x1 x2 x3 = some z) : ∀ (H : Heap) (locs : List Loc), WB G S s H locs → ∀ (ls : Array Slot), lv_has ls 5 [(0, .ref a), (1, .int x1), (2, .int x2), (3, .int x3)] → W p l e RM_X12_nearest s m args below meth c H locs 0 0 (QR G below args s (some (.int z)) S S) (F0 m 87 ls []) := by
  intro  H locs hW ls hl
  have hx := hM.1
  have hb := hM.2.1
  obtain ⟨y1, ey1⟩ : ∃ y : Int32, y = x3 + (1 : Int32) := ⟨_, rfl⟩
  have hf := nm_at ey1 hf
  refine lv_iinc (v := y1) (lv' := [(3, .int y1), (0, .ref a), (1, .int x1), (2, .int x2)]) hx hb dX12_nearest_87 hl (k := 3) rfl (by rw [ey1]; rfl) (by decide) rfl (fun ls hl => ?_)
  refine lv_goto (tgt := 17) hx hb dX12_nearest_90 (by decide) ?_
  exact hk17 _ _ hf _ _ hW _ (lv_sub hl [1, 2, 3, 0] rfl)
noncomputable def f_X12_nearest_85 (fu : Nat) (k17 : Int32 → Int32 → Option (Int32)) (S : ST) (a : Nat) (x1 : Int32) (x3 : Int32) : Option (Int32) :=
  f_X12_nearest_87 fu k17 S a x1 x3 x3
set_option maxHeartbeats 4000000 in
set_option maxRecDepth 100000 in
theorem t_X12_nearest_85 {G : GG} {p : Program} {l : Launch} {e : Env} {s : State} {m : MethodId} {args : Array Value} {below : List Frame} {meth : Method} {c : Code} {S : ST} {fu : Nat} {z : Int32} {a : Nat} {k17 : Int32 → Int32 → Option (Int32)} {x1 : Int32} {x3 : Int32} (hM : MC G p s m args c cX12_nearest w_X12_nearest RX12) (hml : c.maxLocals = 5) (hr : meth.sig.returnType = (some .int)) (hlk : meth.locks = false) (ha : gC (S a) = 11) (hk17 : ∀ (x2 : Int32) (x3 : Int32), k17 x2 x3 = some z → ∀ (H : Heap) (locs : List Loc), WB G S s H locs → ∀ (ls : Array Slot), lv_has ls 5 [(0, .ref a), (1, .int x1), (2, .int x2), (3, .int x3)] → W p l e RM_X12_nearest s m args below meth c H locs 0 0 (QR G below args s (some (.int z)) S S) (F0 m 17 ls [])) (hf : f_X12_nearest_85 fu k17 S a x1 x3 = some z) : ∀ (H : Heap) (locs : List Loc), WB G S s H locs → ∀ (ls : Array Slot), lv_has ls 5 [(0, .ref a), (1, .int x1), (3, .int x3)] → W p l e RM_X12_nearest s m args below meth c H locs 0 0 (QR G below args s (some (.int z)) S S) (F0 m 85 ls []) := by
  intro  H locs hW ls hl
  have hx := hM.1
  have hb := hM.2.1
  refine lv_iload_n hx hb dX12_nearest_85 rfl (lv_at hl 2 rfl) ?_
  refine lv_istore_n (lv' := [(2, .int x3), (0, .ref a), (1, .int x1), (3, .int x3)]) hx hb dX12_nearest_86 rfl hl (by decide) rfl (fun ls hl => ?_)
  exact t_X12_nearest_87 (fu := fu) hM hml hr hlk ha hk17 hf _ _ hW _ (lv_sub hl [1, 2, 0, 3] rfl)
noncomputable def f_X12_nearest_52 (fu : Nat) (k17 : Int32 → Int32 → Option (Int32)) (S : ST) (a : Nat) (x1 : Int32) (x2 : Int32) (x3 : Int32) (t0 : Int32) : Option (Int32) :=
  if t0 = 0 then
    (f_X12_nearest_87 fu k17 S a x1 x2 x3)
  else
    (if x2 = (-1 : Int32) then
      (f_X12_nearest_85 fu k17 S a x1 x3)
    else
      (ck (decide (gC (S (a + 9)) = 3)) <|
      bd (f_X3_apart fu (S (a + 9)) x1 x3) fun r4 =>
      bd (f_X3_apart fu (S (a + 9)) x1 x2) fun r5 =>
      if r5 ≤ r4 then
        (f_X12_nearest_87 fu k17 S a x1 x2 x3)
      else
        (f_X12_nearest_85 fu k17 S a x1 x3)))
set_option maxHeartbeats 4000000 in
set_option maxRecDepth 100000 in
theorem t_X12_nearest_52 {G : GG} {p : Program} {l : Launch} {e : Env} {s : State} {m : MethodId} {args : Array Value} {below : List Frame} {meth : Method} {c : Code} {S : ST} {fu : Nat} {z : Int32} {a : Nat} {k17 : Int32 → Int32 → Option (Int32)} {x1 : Int32} {x2 : Int32} {x3 : Int32} {t0 : Int32} (hM : MC G p s m args c cX12_nearest w_X12_nearest RX12) (hml : c.maxLocals = 5) (hr : meth.sig.returnType = (some .int)) (hlk : meth.locks = false) (ha : gC (S a) = 11) (hk17 : ∀ (x2 : Int32) (x3 : Int32), k17 x2 x3 = some z → ∀ (H : Heap) (locs : List Loc), WB G S s H locs → ∀ (ls : Array Slot), lv_has ls 5 [(0, .ref a), (1, .int x1), (2, .int x2), (3, .int x3)] → W p l e RM_X12_nearest s m args below meth c H locs 0 0 (QR G below args s (some (.int z)) S S) (F0 m 17 ls [])) (hf : f_X12_nearest_52 fu k17 S a x1 x2 x3 t0 = some z) : ∀ (H : Heap) (locs : List Loc), WB G S s H locs → ∀ (ls : Array Slot), lv_has ls 5 [(0, .ref a), (1, .int x1), (2, .int x2), (3, .int x3)] → W p l e RM_X12_nearest s m args below meth c H locs 0 0 (QR G below args s (some (.int z)) S S) (F0 m 52 ls [.int t0]) := by
  intro  H locs hW ls hl
  have hx := hM.1
  have hb := hM.2.1
  refine lv_istore (lv' := [(4, .int t0), (0, .ref a), (1, .int x1), (2, .int x2), (3, .int x3)]) hx hb dX12_nearest_52 hl (by decide) rfl (fun ls hl => ?_)
  refine lv_iload hx hb dX12_nearest_54 (lv_at hl 0 rfl) ?_
  refine lv_if_eq (tgt := 87) hx hb dX12_nearest_56 (by decide) (fun c1 => ?_) (fun c1 => ?_)
  · have hf := if_t c1 hf
    exact t_X12_nearest_87 (fu := fu) hM hml hr hlk ha hk17 hf _ _ hW _ (lv_sub hl [1, 2, 3, 4] rfl)
  · have hf := if_f c1 hf
    refine lv_iload_n hx hb dX12_nearest_59 rfl (lv_at hl 3 rfl) ?_
    refine lv_iconst (v := (-1 : Int32)) hx hb dX12_nearest_60 (by decide) ?_
    refine lv_icmp_eq (tgt := 85) hx hb dX12_nearest_61 (by decide) (fun c2 => ?_) (fun c2 => ?_)
    · have hf := if_t c2 hf
      exact t_X12_nearest_85 (fu := fu) hM hml hr hlk ha hk17 hf _ _ hW _ (lv_sub hl [1, 2, 4] rfl)
    · have hf := if_f c2 hf
      refine lv_aload_n hx hb dX12_nearest_64 rfl (lv_at hl 1 rfl) ?_
      refine b_get hM (hW.at_ a) 10 2 ha rfl rfl (by decide) wi_X12 (wgm fk_RX12_28) (x := .ref (a + 9)) rfl dX12_nearest_65 ?_
      obtain ⟨h3, hf⟩ := ck_elim hf
      have h3 := of_decide_eq_true h3
      refine lv_iload_n hx hb dX12_nearest_68 rfl (lv_at hl 2 rfl) ?_
      refine lv_iload_n hx hb dX12_nearest_69 rfl (lv_at hl 4 rfl) ?_
      obtain ⟨r4, hr4, hf⟩ := bd_elim hf
      refine s_callVi [.int x1, .int x3] [] hM hml hl.1 hW h3 rfl (by decide) (Ct_rd (c_X3_apart l G fu _ (a + 9) (S (a + 9)) _ _ h3 hr4)) (cwV 2 hM.2.2.2.1 (gV mk_RX12_150 im_X3_apart se_X3_apart it_RX3 cd_X3_apart) rfl rfl rfl (by decide +kernel) ⟨Nat.le_of_ble_eq_true rfl, Nat.le_of_ble_eq_true rfl⟩) rfl rfl (Nat.le_of_ble_eq_true rfl) ⟨Nat.zero_le _, Nat.zero_le _⟩ dX12_nearest_70 (fun H locs hW hk => ?_)
      refine lv_aload_n hx hb dX12_nearest_73 rfl (lv_at hl 1 rfl) ?_
      refine b_get hM (hW.at_ a) 10 2 ha rfl rfl (by decide) wi_X12 (wgm fk_RX12_28) (x := .ref (a + 9)) rfl dX12_nearest_74 ?_
      refine lv_iload_n hx hb dX12_nearest_77 rfl (lv_at hl 2 rfl) ?_
      refine lv_iload_n hx hb dX12_nearest_78 rfl (lv_at hl 3 rfl) ?_
      obtain ⟨r5, hr5, hf⟩ := bd_elim hf
      refine s_callVi [.int x1, .int x2] [.int r4] hM hml hl.1 hW h3 rfl (by decide) (Ct_rd (c_X3_apart l G fu _ (a + 9) (S (a + 9)) _ _ h3 hr5)) (cwV 2 hM.2.2.2.1 (gV mk_RX12_150 im_X3_apart se_X3_apart it_RX3 cd_X3_apart) rfl rfl rfl (by decide +kernel) ⟨Nat.le_of_ble_eq_true rfl, Nat.le_of_ble_eq_true rfl⟩) rfl rfl (Nat.le_of_ble_eq_true rfl) ⟨Nat.zero_le _, Nat.zero_le _⟩ dX12_nearest_79 (fun H locs hW hk => ?_)
      refine lv_icmp_ge (tgt := 87) hx hb dX12_nearest_82 (by decide) (fun c6 => ?_) (fun c6 => ?_)
      · have hf := if_t c6 hf
        exact t_X12_nearest_87 (fu := fu) hM hml hr hlk ha hk17 hf _ _ hW _ (lv_sub hl [1, 2, 3, 4] rfl)
      · have hf := if_f c6 hf
        exact t_X12_nearest_85 (fu := fu) hM hml hr hlk ha hk17 hf _ _ hW _ (lv_sub hl [1, 2, 4] rfl)
noncomputable def f_X12_nearest_51 (fu : Nat) (k17 : Int32 → Int32 → Option (Int32)) (S : ST) (a : Nat) (x1 : Int32) (x2 : Int32) (x3 : Int32) : Option (Int32) :=
  f_X12_nearest_52 fu k17 S a x1 x2 x3 (0 : Int32)
set_option maxHeartbeats 4000000 in
set_option maxRecDepth 100000 in
theorem t_X12_nearest_51 {G : GG} {p : Program} {l : Launch} {e : Env} {s : State} {m : MethodId} {args : Array Value} {below : List Frame} {meth : Method} {c : Code} {S : ST} {fu : Nat} {z : Int32} {a : Nat} {k17 : Int32 → Int32 → Option (Int32)} {x1 : Int32} {x2 : Int32} {x3 : Int32} (hM : MC G p s m args c cX12_nearest w_X12_nearest RX12) (hml : c.maxLocals = 5) (hr : meth.sig.returnType = (some .int)) (hlk : meth.locks = false) (ha : gC (S a) = 11) (hk17 : ∀ (x2 : Int32) (x3 : Int32), k17 x2 x3 = some z → ∀ (H : Heap) (locs : List Loc), WB G S s H locs → ∀ (ls : Array Slot), lv_has ls 5 [(0, .ref a), (1, .int x1), (2, .int x2), (3, .int x3)] → W p l e RM_X12_nearest s m args below meth c H locs 0 0 (QR G below args s (some (.int z)) S S) (F0 m 17 ls [])) (hf : f_X12_nearest_51 fu k17 S a x1 x2 x3 = some z) : ∀ (H : Heap) (locs : List Loc), WB G S s H locs → ∀ (ls : Array Slot), lv_has ls 5 [(0, .ref a), (1, .int x1), (2, .int x2), (3, .int x3)] → W p l e RM_X12_nearest s m args below meth c H locs 0 0 (QR G below args s (some (.int z)) S S) (F0 m 51 ls []) := by
  intro  H locs hW ls hl
  have hx := hM.1
  have hb := hM.2.1
  refine lv_iconst (v := (0 : Int32)) hx hb dX12_nearest_51 (by decide) ?_
  exact t_X12_nearest_52 (fu := fu) hM hml hr hlk ha hk17 hf _ _ hW _ (lv_sub hl [0, 1, 2, 3] rfl)
noncomputable def f_X12_nearest_17s (fu : Nat)  (k17 : Int32 → Int32 → Option (Int32)) (S : ST) (a : Nat) (x1 : Int32) (x2 : Int32) (x3 : Int32) : Option (Int32) :=
  ck (decide (gC (S (a + 9)) = 3)) <|
  if (gI (S (a + 9)) 7) ≤ x3 then
    (some (x2))
  else
    (if x3 = x1 then
      (f_X12_nearest_51 fu k17 S a x1 x2 x3)
    else
      (ck (inb x3 8) <|
      if (gA (S (a + 9)) 4 x3.toNatClampNeg) = (6 : Int32) then
        (f_X12_nearest_51 fu k17 S a x1 x2 x3)
      else
        (f_X12_nearest_52 fu k17 S a x1 x2 x3 (1 : Int32))))
noncomputable def f_X12_nearest_17 (fu n : Nat)  (S : ST) (a : Nat) (x1 : Int32) : Int32 → Int32 → Option (Int32) :=
  lq_2 (fun k17 => f_X12_nearest_17s fu  k17 S a x1) n
set_option maxHeartbeats 4000000 in
set_option maxRecDepth 100000 in
theorem t_X12_nearest_17s {G : GG} {p : Program} {l : Launch} {e : Env} {s : State} {m : MethodId} {args : Array Value} {below : List Frame} {meth : Method} {c : Code} {S : ST} {fu : Nat} {z : Int32} {a : Nat}  {k17 : Int32 → Int32 → Option (Int32)} {x1 : Int32} (hM : MC G p s m args c cX12_nearest w_X12_nearest RX12) (hml : c.maxLocals = 5) (hr : meth.sig.returnType = (some .int)) (hlk : meth.locks = false) (ha : gC (S a) = 11)  (hk17 : ∀ (x2 : Int32) (x3 : Int32), k17 x2 x3 = some z → ∀ (H : Heap) (locs : List Loc), WB G S s H locs → ∀ (ls : Array Slot), lv_has ls 5 [(0, .ref a), (1, .int x1), (2, .int x2), (3, .int x3)] → W p l e RM_X12_nearest s m args below meth c H locs 0 0 (QR G below args s (some (.int z)) S S) (F0 m 17 ls [])) : ∀ (x2 : Int32) (x3 : Int32), f_X12_nearest_17s fu  k17 S a x1 x2 x3 = some z → ∀ (H : Heap) (locs : List Loc), WB G S s H locs → ∀ (ls : Array Slot), lv_has ls 5 [(0, .ref a), (1, .int x1), (2, .int x2), (3, .int x3)] → W p l e RM_X12_nearest s m args below meth c H locs 0 0 (QR G below args s (some (.int z)) S S) (F0 m 17 ls []) := by
  intro x2 x3 hf  H locs hW ls hl
  have hx := hM.1
  have hb := hM.2.1
  refine lv_iload_n hx hb dX12_nearest_17 rfl (lv_at hl 3 rfl) ?_
  refine lv_aload_n hx hb dX12_nearest_18 rfl (lv_at hl 0 rfl) ?_
  refine b_get hM (hW.at_ a) 10 2 ha rfl rfl (by decide) wi_X12 (wgm fk_RX12_28) (x := .ref (a + 9)) rfl dX12_nearest_19 ?_
  obtain ⟨h1, hf⟩ := ck_elim hf
  have h1 := of_decide_eq_true h1
  refine b_get hM (hW.at_ (a + 9)) 2 7 h1 rfl rfl (by decide) wi_X3 (wgm fk_RX12_176) (x := .int (gI (S (a + 9)) 7)) rfl dX12_nearest_22 ?_
  refine lv_icmp_ge (tgt := 93) hx hb dX12_nearest_25 (by decide) (fun c2 => ?_) (fun c2 => ?_)
  · have hf := if_t c2 hf
    refine lv_iload_n hx hb dX12_nearest_93 rfl (lv_at hl 2 rfl) ?_
    cases hf
    exact W.iret hx hb hr (b_ret0 hW (fun _ _ => rfl) _) hW.2.2.2 dX12_nearest_94 hlk
  · have hf := if_f c2 hf
    refine lv_iload_n hx hb dX12_nearest_28 rfl (lv_at hl 3 rfl) ?_
    refine lv_iload_n hx hb dX12_nearest_29 rfl (lv_at hl 1 rfl) ?_
    refine lv_icmp_eq (tgt := 51) hx hb dX12_nearest_30 (by decide) (fun c3 => ?_) (fun c3 => ?_)
    · have hf := if_t c3 hf
      exact t_X12_nearest_51 (fu := fu) hM hml hr hlk ha hk17 hf _ _ hW _ (lv_sub hl [0, 1, 2, 3] rfl)
    · have hf := if_f c3 hf
      refine lv_aload_n hx hb dX12_nearest_33 rfl (lv_at hl 0 rfl) ?_
      refine b_get hM (hW.at_ a) 10 2 ha rfl rfl (by decide) wi_X12 (wgm fk_RX12_28) (x := .ref (a + 9)) rfl dX12_nearest_34 ?_
      refine b_get hM (hW.at_ (a + 9)) 2 4 h1 rfl rfl (by decide) wi_X3 (wgm fk_RX12_137) (x := .ref ((a + 9) + 5)) rfl dX12_nearest_37 ?_
      refine lv_iload_n hx hb dX12_nearest_40 rfl (lv_at hl 3 rfl) ?_
      obtain ⟨h4, hf⟩ := ck_elim hf
      refine b_iald (n := 8) hM (hW.at_ (a + 9)) 2 4 h1 (by decide) rfl rfl rfl rfl h4 dX12_nearest_41 ?_
      refine lv_bipush (v := (6 : Int32)) hx hb dX12_nearest_42 (by decide) ?_
      refine lv_icmp_eq (tgt := 51) hx hb dX12_nearest_44 (by decide) (fun c5 => ?_) (fun c5 => ?_)
      · have hf := if_t c5 hf
        exact t_X12_nearest_51 (fu := fu) hM hml hr hlk ha hk17 hf _ _ hW _ (lv_sub hl [0, 1, 2, 3] rfl)
      · have hf := if_f c5 hf
        refine lv_iconst (v := (1 : Int32)) hx hb dX12_nearest_47 (by decide) ?_
        refine lv_goto (tgt := 52) hx hb dX12_nearest_48 (by decide) ?_
        exact t_X12_nearest_52 (fu := fu) hM hml hr hlk ha hk17 hf _ _ hW _ (lv_sub hl [0, 1, 2, 3] rfl)
theorem t_X12_nearest_17 {G : GG} {p : Program} {l : Launch} {e : Env} {s : State} {m : MethodId} {args : Array Value} {below : List Frame} {meth : Method} {c : Code} {S : ST} {fu : Nat} {z : Int32} {a : Nat}  {x1 : Int32} (hM : MC G p s m args c cX12_nearest w_X12_nearest RX12) (hml : c.maxLocals = 5) (hr : meth.sig.returnType = (some .int)) (hlk : meth.locks = false) (ha : gC (S a) = 11)  : ∀ {n : Nat} (x2 : Int32) (x3 : Int32), f_X12_nearest_17 fu n  S a x1 x2 x3 = some z → ∀ (H : Heap) (locs : List Loc), WB G S s H locs → ∀ (ls : Array Slot), lv_has ls 5 [(0, .ref a), (1, .int x1), (2, .int x2), (3, .int x3)] → W p l e RM_X12_nearest s m args below meth c H locs 0 0 (QR G below args s (some (.int z)) S S) (F0 m 17 ls []) := by
  intro n
  induction n with
  | zero => intro x2 x3 hf; cases hf
  | succ n ih => intro x2 x3 hf; exact t_X12_nearest_17s (fu := fu) hM hml hr hlk ha (k17 := f_X12_nearest_17 fu n  S a x1) ih _ _ hf
noncomputable def f_X12_nearest_0 (fu : Nat)  (S : ST) (a : Nat) (x1 : Int32) : Option (Int32) :=
  ck (decide (gC (S (a + 9)) = 3)) <|
  bd (f_X3_isThere fu (S (a + 9)) x1) fun r2 =>
  if r2 = 0 then
    (some ((-1 : Int32)))
  else
    (f_X12_nearest_17 fu fu S a x1 (-1 : Int32) (0 : Int32))
set_option maxHeartbeats 4000000 in
set_option maxRecDepth 100000 in
theorem t_X12_nearest_0 {G : GG} {p : Program} {l : Launch} {e : Env} {s : State} {m : MethodId} {args : Array Value} {below : List Frame} {meth : Method} {c : Code} {S : ST} {fu : Nat} {z : Int32} {a : Nat}  {x1 : Int32} (hM : MC G p s m args c cX12_nearest w_X12_nearest RX12) (hml : c.maxLocals = 5) (hr : meth.sig.returnType = (some .int)) (hlk : meth.locks = false) (ha : gC (S a) = 11)  (hf : f_X12_nearest_0 fu  S a x1 = some z) : ∀ (H : Heap) (locs : List Loc), WB G S s H locs → ∀ (ls : Array Slot), lv_has ls 5 [(0, .ref a), (1, .int x1)] → W p l e RM_X12_nearest s m args below meth c H locs 0 0 (QR G below args s (some (.int z)) S S) (F0 m 0 ls []) := by
  intro  H locs hW ls hl
  have hx := hM.1
  have hb := hM.2.1
  refine lv_aload_n hx hb dX12_nearest_0 rfl (lv_at hl 0 rfl) ?_
  refine b_get hM (hW.at_ a) 10 2 ha rfl rfl (by decide) wi_X12 (wgm fk_RX12_28) (x := .ref (a + 9)) rfl dX12_nearest_1 ?_
  obtain ⟨h1, hf⟩ := ck_elim hf
  have h1 := of_decide_eq_true h1
  refine lv_iload_n hx hb dX12_nearest_4 rfl (lv_at hl 1 rfl) ?_
  obtain ⟨r2, hr2, hf⟩ := bd_elim hf
  refine s_callVi [.int x1] [] hM hml hl.1 hW h1 rfl (by decide) (Ct_rd (c_X3_isThere l G fu _ (a + 9) (S (a + 9)) _ h1 hr2)) (cwV 1 hM.2.2.2.1 (gV mk_RX12_130 im_X3_isThere se_X3_isThere it_RX3 cd_X3_isThere) rfl rfl rfl (by decide +kernel) ⟨Nat.le_of_ble_eq_true rfl, Nat.le_of_ble_eq_true rfl⟩) rfl rfl (Nat.le_of_ble_eq_true rfl) ⟨Nat.zero_le _, Nat.zero_le _⟩ dX12_nearest_5 (fun H locs hW hk => ?_)
  refine lv_if_ne (tgt := 13) hx hb dX12_nearest_8 (by decide) (fun c3 => ?_) (fun c3 => ?_)
  · have hf := if_f c3 hf
    refine lv_iconst (v := (-1 : Int32)) hx hb dX12_nearest_13 (by decide) ?_
    refine lv_istore_n (lv' := [(2, .int (-1 : Int32)), (0, .ref a), (1, .int x1)]) hx hb dX12_nearest_14 rfl hl (by decide) rfl (fun ls hl => ?_)
    refine lv_iconst (v := (0 : Int32)) hx hb dX12_nearest_15 (by decide) ?_
    refine lv_istore_n (lv' := [(3, .int (0 : Int32)), (2, .int (-1 : Int32)), (0, .ref a), (1, .int x1)]) hx hb dX12_nearest_16 rfl hl (by decide) rfl (fun ls hl => ?_)
    exact t_X12_nearest_17 (fu := fu) hM hml hr hlk ha _ _ hf _ _ hW _ (lv_sub hl [2, 3, 1, 0] rfl)
  · have hf := if_t c3 hf
    refine lv_iconst (v := (-1 : Int32)) hx hb dX12_nearest_11 (by decide) ?_
    cases hf
    exact W.iret hx hb hr (b_ret0 hW (fun _ _ => rfl) _) hW.2.2.2 dX12_nearest_12 hlk
noncomputable def f_X12_nearest (fu : Nat) (S : ST) (a : Nat) (x1 : Int32) : Option (Int32) := f_X12_nearest_0 fu S a x1
set_option maxHeartbeats 4000000 in
set_option maxRecDepth 100000 in
theorem c_X12_nearest (l : Launch) (G : GG) (fu : Nat) (S : ST) (a : Nat) (x1 : Int32) {z : Int32} (ha : gC (S a) = 11) (hf : f_X12_nearest fu S a x1 = some z) : Ct l yX12_nearest w_X12_nearest RM_X12_nearest G S [.ref a, .int x1] (some (.int z)) S 0 0 := by
  refine Met.ofW (cc := cX12_nearest) (maxL := 5) (ret := (some .int)) (by decide) rfl ?_
  intro p e s m args below meth c s₁ B hml hv
  obtain ⟨rfl, hB, hK, hz⟩ := hv
  have hM : MC G p s m _ c cX12_nearest w_X12_nearest RX12 := ⟨B.exec, B.bytes, findClass_of_methodNamed B.named, atoms_spec (ws := w_X12_nearest) B.pre, hK, hz⟩
  have hW : WB G S s s.heap [] := ⟨hB, va_S.rf⟩
  have hl := lv_entry ([.ref a, .int x1]) (n := 5) (Nat.le_of_ble_eq_true rfl)
  rw [lg_entry_eq]
  generalize (lg_sl ([.ref a, .int x1]) ++ List.replicate (5 - (lg_sl ([.ref a, .int x1])).length) Slot.unset).toArray = ls at hl ⊢
  have hl : lv_has ls 5 [(0, .ref a), (1, .int x1)] := hl
  exact t_X12_nearest_0 (fu := fu) hM hml B.returns B.notSynchronized ha hf _ _ hW _ (lv_sub hl [0, 1] rfl)
abbrev RM_X12_meet : Room := { frames := 1, cells := 0, slots := 0, locals := 21 }
abbrev w_X12_meet : List Cond := Cond.code yX12_meet cX12_meet 5 (some .int) :: wsL_law0
noncomputable def f_X12_meet_78 (fu : Nat) (k38 : Int32 → Int32 → Option (Int32)) (S : ST) (a : Nat) (x1 : Int32) (x2 : Int32) (x3 : Int32) (x4 : Int32) : Option (Int32) :=
  nm (x4 + (1 : Int32)) fun y1 =>
  k38 x3 y1
set_option maxHeartbeats 4000000 in
set_option maxRecDepth 100000 in
theorem t_X12_meet_78 {G : GG} {p : Program} {l : Launch} {e : Env} {s : State} {m : MethodId} {args : Array Value} {below : List Frame} {meth : Method} {c : Code} {S : ST} {fu : Nat} {z : Int32} {a : Nat} {k38 : Int32 → Int32 → Option (Int32)} {x1 : Int32} {x2 : Int32} {x3 : Int32} {x4 : Int32} (hM : MC G p s m args c cX12_meet w_X12_meet RX12) (hml : c.maxLocals = 5) (hr : meth.sig.returnType = (some .int)) (hlk : meth.locks = false) (ha : gC (S a) = 11) (hk38 : ∀ (x3 : Int32) (x4 : Int32), k38 x3 x4 = some z → ∀ (H : Heap) (locs : List Loc), WB G S s H locs → ∀ (ls : Array Slot), lv_has ls 5 [(0, .ref a), (1, .int x1), (2, .int x2), (3, .int x3), (4, .int x4)] → W p l e RM_X12_meet s m args below meth c H locs 0 0 (QR G below args s (some (.int z)) S S) (F0 m 38 ls [])) (hf : f_X12_meet_78 fu k38 S a x1 x2 x3 x4 = some z) : ∀ (H : Heap) (locs : List Loc), WB G S s H locs → ∀ (ls : Array Slot), lv_has ls 5 [(0, .ref a), (1, .int x1), (2, .int x2), (3, .int x3), (4, .int x4)] → W p l e RM_X12_meet s m args below meth c H locs 0 0 (QR G below args s (some (.int z)) S S) (F0 m 78 ls []) := by
  intro  H locs hW ls hl
  have hx := hM.1
  have hb := hM.2.1
  obtain ⟨y1, ey1⟩ : ∃ y : Int32, y = x4 + (1 : Int32) := ⟨_, rfl⟩
  have hf := nm_at ey1 hf
  refine lv_iinc (v := y1) (lv' := [(4, .int y1), (0, .ref a), (1, .int x1), (2, .int x2), (3, .int x3)]) hx hb dX12_meet_78 hl (k := 4) rfl (by rw [ey1]; rfl) (by decide) rfl (fun ls hl => ?_)
  refine lv_goto (tgt := 38) hx hb dX12_meet_81 (by decide) ?_
  exact hk38 _ _ hf _ _ hW _ (lv_sub hl [1, 2, 3, 4, 0] rfl)
noncomputable def f_X12_meet_38s (fu : Nat)  (k38 : Int32 → Int32 → Option (Int32)) (S : ST) (a : Nat) (x1 : Int32) (x2 : Int32) (x3 : Int32) (x4 : Int32) : Option (Int32) :=
  bd (gR (S a) 12) fun q1 =>
  ck (decide (gC (S q1) = 1)) <|
  if (gI (S q1) 9) ≤ x4 then
    (some (x3))
  else
    (if x4 = x1 then
      (f_X12_meet_78 fu k38 S a x1 x2 x3 x4)
    else
      (bd (gR (S a) 12) fun q5 =>
      ck (decide (gC (S q5) = 1)) <|
      ck (inb x4 5) <|
      if ((gA (S q5) 5 x4.toNatClampNeg) &&& x2) = 0 then
        (f_X12_meet_78 fu k38 S a x1 x2 x3 x4)
      else
        (nm ((x3 ||| ((1 : Int32) <<< (x4 &&& 31)))) fun y9 =>
        f_X12_meet_78 fu k38 S a x1 x2 y9 x4)))
noncomputable def f_X12_meet_38 (fu n : Nat)  (S : ST) (a : Nat) (x1 : Int32) (x2 : Int32) : Int32 → Int32 → Option (Int32) :=
  lq_2 (fun k38 => f_X12_meet_38s fu  k38 S a x1 x2) n
set_option maxHeartbeats 4000000 in
set_option maxRecDepth 100000 in
theorem t_X12_meet_38s {G : GG} {p : Program} {l : Launch} {e : Env} {s : State} {m : MethodId} {args : Array Value} {below : List Frame} {meth : Method} {c : Code} {S : ST} {fu : Nat} {z : Int32} {a : Nat}  {k38 : Int32 → Int32 → Option (Int32)} {x1 : Int32} {x2 : Int32} (hM : MC G p s m args c cX12_meet w_X12_meet RX12) (hml : c.maxLocals = 5) (hr : meth.sig.returnType = (some .int)) (hlk : meth.locks = false) (ha : gC (S a) = 11)  (hk38 : ∀ (x3 : Int32) (x4 : Int32), k38 x3 x4 = some z → ∀ (H : Heap) (locs : List Loc), WB G S s H locs → ∀ (ls : Array Slot), lv_has ls 5 [(0, .ref a), (1, .int x1), (2, .int x2), (3, .int x3), (4, .int x4)] → W p l e RM_X12_meet s m args below meth c H locs 0 0 (QR G below args s (some (.int z)) S S) (F0 m 38 ls [])) : ∀ (x3 : Int32) (x4 : Int32), f_X12_meet_38s fu  k38 S a x1 x2 x3 x4 = some z → ∀ (H : Heap) (locs : List Loc), WB G S s H locs → ∀ (ls : Array Slot), lv_has ls 5 [(0, .ref a), (1, .int x1), (2, .int x2), (3, .int x3), (4, .int x4)] → W p l e RM_X12_meet s m args below meth c H locs 0 0 (QR G below args s (some (.int z)) S S) (F0 m 38 ls []) := by
  intro x3 x4 hf  H locs hW ls hl
  have hx := hM.1
  have hb := hM.2.1
  refine lv_iload hx hb dX12_meet_38 (lv_at hl 4 rfl) ?_
  refine lv_aload_n hx hb dX12_meet_40 rfl (lv_at hl 0 rfl) ?_
  obtain ⟨q1, hq1, hf⟩ := bd_elim hf
  refine b_get hM (hW.at_ a) 10 12 ha rfl rfl (by decide) wi_X12 (wgm fk_RX12_76) (x := .ref q1) (by show va_rf _ = _; rw [hq1]; rfl) dX12_meet_41 ?_
  obtain ⟨h2, hf⟩ := ck_elim hf
  have h2 := of_decide_eq_true h2
  refine b_get hM (hW.at_ q1) 0 9 h2 rfl rfl (by decide) wi_X1 (wgm fk_RX12_179) (x := .int (gI (S q1) 9)) rfl dX12_meet_44 ?_
  refine lv_icmp_ge (tgt := 84) hx hb dX12_meet_47 (by decide) (fun c3 => ?_) (fun c3 => ?_)
  · have hf := if_t c3 hf
    refine lv_iload_n hx hb dX12_meet_84 rfl (lv_at hl 3 rfl) ?_
    cases hf
    exact W.iret hx hb hr (b_ret0 hW (fun _ _ => rfl) _) hW.2.2.2 dX12_meet_85 hlk
  · have hf := if_f c3 hf
    refine lv_iload hx hb dX12_meet_50 (lv_at hl 4 rfl) ?_
    refine lv_iload_n hx hb dX12_meet_52 rfl (lv_at hl 1 rfl) ?_
    refine lv_icmp_eq (tgt := 78) hx hb dX12_meet_53 (by decide) (fun c4 => ?_) (fun c4 => ?_)
    · have hf := if_t c4 hf
      exact t_X12_meet_78 (fu := fu) hM hml hr hlk ha hk38 hf _ _ hW _ (lv_sub hl [0, 1, 2, 3, 4] rfl)
    · have hf := if_f c4 hf
      refine lv_aload_n hx hb dX12_meet_56 rfl (lv_at hl 0 rfl) ?_
      obtain ⟨q5, hq5, hf⟩ := bd_elim hf
      refine b_get hM (hW.at_ a) 10 12 ha rfl rfl (by decide) wi_X12 (wgm fk_RX12_76) (x := .ref q5) (by show va_rf _ = _; rw [hq5]; rfl) dX12_meet_57 ?_
      obtain ⟨h6, hf⟩ := ck_elim hf
      have h6 := of_decide_eq_true h6
      refine b_get hM (hW.at_ q5) 0 5 h6 rfl rfl (by decide) wi_X1 (wgm fk_RX12_166) (x := .ref (q5 + 6)) rfl dX12_meet_60 ?_
      refine lv_iload hx hb dX12_meet_63 (lv_at hl 4 rfl) ?_
      obtain ⟨h7, hf⟩ := ck_elim hf
      refine b_iald (n := 5) hM (hW.at_ q5) 0 5 h6 (by decide) rfl rfl rfl rfl h7 dX12_meet_65 ?_
      refine lv_iload_n hx hb dX12_meet_66 rfl (lv_at hl 2 rfl) ?_
      refine lv_iand hx hb dX12_meet_67 ?_
      refine lv_if_eq (tgt := 78) hx hb dX12_meet_68 (by decide) (fun c8 => ?_) (fun c8 => ?_)
      · have hf := if_t c8 hf
        exact t_X12_meet_78 (fu := fu) hM hml hr hlk ha hk38 hf _ _ hW _ (lv_sub hl [0, 1, 2, 3, 4] rfl)
      · have hf := if_f c8 hf
        refine lv_iload_n hx hb dX12_meet_71 rfl (lv_at hl 3 rfl) ?_
        refine lv_iconst (v := (1 : Int32)) hx hb dX12_meet_72 (by decide) ?_
        refine lv_iload hx hb dX12_meet_73 (lv_at hl 4 rfl) ?_
        refine lv_ishl hx hb dX12_meet_75 ?_
        refine lv_ior hx hb dX12_meet_76 ?_
        refine lv_topi (fun y9 ey9 => ?_)
        have hf := nm_at ey9 hf
        refine lv_istore_n (lv' := [(3, .int y9), (0, .ref a), (1, .int x1), (2, .int x2), (4, .int x4)]) hx hb dX12_meet_77 rfl hl (by decide) rfl (fun ls hl => ?_)
        exact t_X12_meet_78 (fu := fu) hM hml hr hlk ha hk38 hf _ _ hW _ (lv_sub hl [1, 2, 3, 0, 4] rfl)
theorem t_X12_meet_38 {G : GG} {p : Program} {l : Launch} {e : Env} {s : State} {m : MethodId} {args : Array Value} {below : List Frame} {meth : Method} {c : Code} {S : ST} {fu : Nat} {z : Int32} {a : Nat}  {x1 : Int32} {x2 : Int32} (hM : MC G p s m args c cX12_meet w_X12_meet RX12) (hml : c.maxLocals = 5) (hr : meth.sig.returnType = (some .int)) (hlk : meth.locks = false) (ha : gC (S a) = 11)  : ∀ {n : Nat} (x3 : Int32) (x4 : Int32), f_X12_meet_38 fu n  S a x1 x2 x3 x4 = some z → ∀ (H : Heap) (locs : List Loc), WB G S s H locs → ∀ (ls : Array Slot), lv_has ls 5 [(0, .ref a), (1, .int x1), (2, .int x2), (3, .int x3), (4, .int x4)] → W p l e RM_X12_meet s m args below meth c H locs 0 0 (QR G below args s (some (.int z)) S S) (F0 m 38 ls []) := by
  intro n
  induction n with
  | zero => intro x3 x4 hf; cases hf
  | succ n ih => intro x3 x4 hf; exact t_X12_meet_38s (fu := fu) hM hml hr hlk ha (k38 := f_X12_meet_38 fu n  S a x1 x2) ih _ _ hf
noncomputable def f_X12_meet_0 (fu : Nat)  (S : ST) (a : Nat) (x1 : Int32) : Option (Int32) :=
  bd (gR (S a) 12) fun q1 =>
  ck (decide (gC (S q1) = 1)) <|
  bd (f_X1_hasThief fu (S q1) x1) fun r3 =>
  if r3 = 0 then
    (some ((-1 : Int32)))
  else
    (bd (gR (S a) 12) fun q5 =>
    ck (decide (gC (S q5) = 1)) <|
    ck (inb x1 5) <|
    ck (decide (gC (S (a + 9)) = 3)) <|
    nm (((gA (S q5) 5 x1.toNatClampNeg) &&& ((gI (S (a + 9)) 9) ^^^ (-1 : Int32)))) fun y9 =>
    f_X12_meet_38 fu fu S a x1 y9 (0 : Int32) (0 : Int32))
set_option maxHeartbeats 4000000 in
set_option maxRecDepth 100000 in
theorem t_X12_meet_0 {G : GG} {p : Program} {l : Launch} {e : Env} {s : State} {m : MethodId} {args : Array Value} {below : List Frame} {meth : Method} {c : Code} {S : ST} {fu : Nat} {z : Int32} {a : Nat}  {x1 : Int32} (hM : MC G p s m args c cX12_meet w_X12_meet RX12) (hml : c.maxLocals = 5) (hr : meth.sig.returnType = (some .int)) (hlk : meth.locks = false) (ha : gC (S a) = 11)  (hf : f_X12_meet_0 fu  S a x1 = some z) : ∀ (H : Heap) (locs : List Loc), WB G S s H locs → ∀ (ls : Array Slot), lv_has ls 5 [(0, .ref a), (1, .int x1)] → W p l e RM_X12_meet s m args below meth c H locs 0 0 (QR G below args s (some (.int z)) S S) (F0 m 0 ls []) := by
  intro  H locs hW ls hl
  have hx := hM.1
  have hb := hM.2.1
  refine lv_aload_n hx hb dX12_meet_0 rfl (lv_at hl 0 rfl) ?_
  obtain ⟨q1, hq1, hf⟩ := bd_elim hf
  refine b_get hM (hW.at_ a) 10 12 ha rfl rfl (by decide) wi_X12 (wgm fk_RX12_76) (x := .ref q1) (by show va_rf _ = _; rw [hq1]; rfl) dX12_meet_1 ?_
  obtain ⟨h2, hf⟩ := ck_elim hf
  have h2 := of_decide_eq_true h2
  refine lv_iload_n hx hb dX12_meet_4 rfl (lv_at hl 1 rfl) ?_
  obtain ⟨r3, hr3, hf⟩ := bd_elim hf
  refine s_callVi [.int x1] [] hM hml hl.1 hW h2 rfl (by decide) (Ct_rd (c_X1_hasThief l G fu _ q1 (S q1) _ h2 hr3)) (cwV 1 hM.2.2.2.1 (gV mk_RX12_154 im_X1_hasThief se_X1_hasThief it_RX1 cd_X1_hasThief) rfl rfl rfl (by decide +kernel) ⟨Nat.le_of_ble_eq_true rfl, Nat.le_of_ble_eq_true rfl⟩) rfl rfl (Nat.le_of_ble_eq_true rfl) ⟨Nat.zero_le _, Nat.zero_le _⟩ dX12_meet_5 (fun H locs hW hk => ?_)
  refine lv_if_ne (tgt := 13) hx hb dX12_meet_8 (by decide) (fun c4 => ?_) (fun c4 => ?_)
  · have hf := if_f c4 hf
    refine lv_aload_n hx hb dX12_meet_13 rfl (lv_at hl 0 rfl) ?_
    obtain ⟨q5, hq5, hf⟩ := bd_elim hf
    refine b_get hM (hW.at_ a) 10 12 ha rfl rfl (by decide) wi_X12 (wgm fk_RX12_76) (x := .ref q5) (by show va_rf _ = _; rw [hq5]; rfl) dX12_meet_14 ?_
    obtain ⟨h6, hf⟩ := ck_elim hf
    have h6 := of_decide_eq_true h6
    refine b_get hM (hW.at_ q5) 0 5 h6 rfl rfl (by decide) wi_X1 (wgm fk_RX12_166) (x := .ref (q5 + 6)) rfl dX12_meet_17 ?_
    refine lv_iload_n hx hb dX12_meet_20 rfl (lv_at hl 1 rfl) ?_
    obtain ⟨h7, hf⟩ := ck_elim hf
    refine b_iald (n := 5) hM (hW.at_ q5) 0 5 h6 (by decide) rfl rfl rfl rfl h7 dX12_meet_21 ?_
    refine lv_aload_n hx hb dX12_meet_22 rfl (lv_at hl 0 rfl) ?_
    refine b_get hM (hW.at_ a) 10 2 ha rfl rfl (by decide) wi_X12 (wgm fk_RX12_28) (x := .ref (a + 9)) rfl dX12_meet_23 ?_
    obtain ⟨h8, hf⟩ := ck_elim hf
    have h8 := of_decide_eq_true h8
    refine b_get hM (hW.at_ (a + 9)) 2 9 h8 rfl rfl (by decide) wi_X3 (wgm fk_RX12_195) (x := .int (gI (S (a + 9)) 9)) rfl dX12_meet_26 ?_
    refine lv_iconst (v := (-1 : Int32)) hx hb dX12_meet_29 (by decide) ?_
    refine lv_ixor hx hb dX12_meet_30 ?_
    refine lv_iand hx hb dX12_meet_31 ?_
    refine lv_topi (fun y9 ey9 => ?_)
    have hf := nm_at ey9 hf
    refine lv_istore_n (lv' := [(2, .int y9), (0, .ref a), (1, .int x1)]) hx hb dX12_meet_32 rfl hl (by decide) rfl (fun ls hl => ?_)
    refine lv_iconst (v := (0 : Int32)) hx hb dX12_meet_33 (by decide) ?_
    refine lv_istore_n (lv' := [(3, .int (0 : Int32)), (2, .int y9), (0, .ref a), (1, .int x1)]) hx hb dX12_meet_34 rfl hl (by decide) rfl (fun ls hl => ?_)
    refine lv_iconst (v := (0 : Int32)) hx hb dX12_meet_35 (by decide) ?_
    refine lv_istore (lv' := [(4, .int (0 : Int32)), (3, .int (0 : Int32)), (2, .int y9), (0, .ref a), (1, .int x1)]) hx hb dX12_meet_36 hl (by decide) rfl (fun ls hl => ?_)
    exact t_X12_meet_38 (fu := fu) hM hml hr hlk ha _ _ hf _ _ hW _ (lv_sub hl [3, 4, 2, 1, 0] rfl)
  · have hf := if_t c4 hf
    refine lv_iconst (v := (-1 : Int32)) hx hb dX12_meet_11 (by decide) ?_
    cases hf
    exact W.iret hx hb hr (b_ret0 hW (fun _ _ => rfl) _) hW.2.2.2 dX12_meet_12 hlk
noncomputable def f_X12_meet (fu : Nat) (S : ST) (a : Nat) (x1 : Int32) : Option (Int32) := f_X12_meet_0 fu S a x1
set_option maxHeartbeats 4000000 in
set_option maxRecDepth 100000 in
theorem c_X12_meet (l : Launch) (G : GG) (fu : Nat) (S : ST) (a : Nat) (x1 : Int32) {z : Int32} (ha : gC (S a) = 11) (hf : f_X12_meet fu S a x1 = some z) : Ct l yX12_meet w_X12_meet RM_X12_meet G S [.ref a, .int x1] (some (.int z)) S 0 0 := by
  refine Met.ofW (cc := cX12_meet) (maxL := 5) (ret := (some .int)) (by decide) rfl ?_
  intro p e s m args below meth c s₁ B hml hv
  obtain ⟨rfl, hB, hK, hz⟩ := hv
  have hM : MC G p s m _ c cX12_meet w_X12_meet RX12 := ⟨B.exec, B.bytes, findClass_of_methodNamed B.named, atoms_spec (ws := w_X12_meet) B.pre, hK, hz⟩
  have hW : WB G S s s.heap [] := ⟨hB, va_S.rf⟩
  have hl := lv_entry ([.ref a, .int x1]) (n := 5) (Nat.le_of_ble_eq_true rfl)
  rw [lg_entry_eq]
  generalize (lg_sl ([.ref a, .int x1]) ++ List.replicate (5 - (lg_sl ([.ref a, .int x1])).length) Slot.unset).toArray = ls at hl ⊢
  have hl : lv_has ls 5 [(0, .ref a), (1, .int x1)] := hl
  exact t_X12_meet_0 (fu := fu) hM hml B.returns B.notSynchronized ha hf _ _ hW _ (lv_sub hl [0, 1] rfl)
abbrev RM_X12_joined : Room := { frames := 1, cells := 0, slots := 0, locals := 24 }
abbrev w_X12_joined : List Cond := Cond.code yX12_joined cX12_joined 7 (some .int) :: wsL_law0
noncomputable def f_X12_joined_100 (fu : Nat) (k31 : Int32 → Int32 → Int32 → Option (Int32)) (k49 : Int32 → Int32 → Int32 → Option (Int32)) (S : ST) (a : Nat) (x1 : Int32) (x2 : Int32) (x3 : Int32) (x4 : Int32) (x5 : Int32) (x6 : Int32) : Option (Int32) :=
  nm (x6 + (1 : Int32)) fun y1 =>
  k49 x3 x4 y1
set_option maxHeartbeats 4000000 in
set_option maxRecDepth 100000 in
theorem t_X12_joined_100 {G : GG} {p : Program} {l : Launch} {e : Env} {s : State} {m : MethodId} {args : Array Value} {below : List Frame} {meth : Method} {c : Code} {S : ST} {fu : Nat} {z : Int32} {a : Nat} {k31 : Int32 → Int32 → Int32 → Option (Int32)} {k49 : Int32 → Int32 → Int32 → Option (Int32)} {x1 : Int32} {x2 : Int32} {x3 : Int32} {x4 : Int32} {x5 : Int32} {x6 : Int32} (hM : MC G p s m args c cX12_joined w_X12_joined RX12) (hml : c.maxLocals = 7) (hr : meth.sig.returnType = (some .int)) (hlk : meth.locks = false) (ha : gC (S a) = 11) (hk31 : ∀ (x3 : Int32) (x4 : Int32) (x5 : Int32), k31 x3 x4 x5 = some z → ∀ (H : Heap) (locs : List Loc), WB G S s H locs → ∀ (ls : Array Slot), lv_has ls 7 [(0, .ref a), (1, .int x1), (2, .int x2), (3, .int x3), (4, .int x4), (5, .int x5)] → W p l e RM_X12_joined s m args below meth c H locs 0 0 (QR G below args s (some (.int z)) S S) (F0 m 31 ls [])) (hk49 : ∀ (x3 : Int32) (x4 : Int32) (x6 : Int32), k49 x3 x4 x6 = some z → ∀ (H : Heap) (locs : List Loc), WB G S s H locs → ∀ (ls : Array Slot), lv_has ls 7 [(0, .ref a), (1, .int x1), (2, .int x2), (3, .int x3), (4, .int x4), (5, .int x5), (6, .int x6)] → W p l e RM_X12_joined s m args below meth c H locs 0 0 (QR G below args s (some (.int z)) S S) (F0 m 49 ls [])) (hf : f_X12_joined_100 fu k31 k49 S a x1 x2 x3 x4 x5 x6 = some z) : ∀ (H : Heap) (locs : List Loc), WB G S s H locs → ∀ (ls : Array Slot), lv_has ls 7 [(0, .ref a), (1, .int x1), (2, .int x2), (3, .int x3), (4, .int x4), (5, .int x5), (6, .int x6)] → W p l e RM_X12_joined s m args below meth c H locs 0 0 (QR G below args s (some (.int z)) S S) (F0 m 100 ls []) := by
  intro  H locs hW ls hl
  have hx := hM.1
  have hb := hM.2.1
  obtain ⟨y1, ey1⟩ : ∃ y : Int32, y = x6 + (1 : Int32) := ⟨_, rfl⟩
  have hf := nm_at ey1 hf
  refine lv_iinc (v := y1) (lv' := [(6, .int y1), (0, .ref a), (1, .int x1), (2, .int x2), (3, .int x3), (4, .int x4), (5, .int x5)]) hx hb dX12_joined_100 hl (k := 6) rfl (by rw [ey1]; rfl) (by decide) rfl (fun ls hl => ?_)
  refine lv_goto (tgt := 49) hx hb dX12_joined_103 (by decide) ?_
  exact hk49 _ _ _ hf _ _ hW _ (lv_sub hl [1, 2, 3, 4, 5, 6, 0] rfl)
noncomputable def f_X12_joined_98 (fu : Nat) (k31 : Int32 → Int32 → Int32 → Option (Int32)) (k49 : Int32 → Int32 → Int32 → Option (Int32)) (S : ST) (a : Nat) (x1 : Int32) (x2 : Int32) (x3 : Int32) (x5 : Int32) (x6 : Int32) (t0 : Int32) : Option (Int32) :=
  f_X12_joined_100 fu k31 k49 S a x1 x2 x3 t0 x5 x6
set_option maxHeartbeats 4000000 in
set_option maxRecDepth 100000 in
theorem t_X12_joined_98 {G : GG} {p : Program} {l : Launch} {e : Env} {s : State} {m : MethodId} {args : Array Value} {below : List Frame} {meth : Method} {c : Code} {S : ST} {fu : Nat} {z : Int32} {a : Nat} {k31 : Int32 → Int32 → Int32 → Option (Int32)} {k49 : Int32 → Int32 → Int32 → Option (Int32)} {x1 : Int32} {x2 : Int32} {x3 : Int32} {x5 : Int32} {x6 : Int32} {t0 : Int32} (hM : MC G p s m args c cX12_joined w_X12_joined RX12) (hml : c.maxLocals = 7) (hr : meth.sig.returnType = (some .int)) (hlk : meth.locks = false) (ha : gC (S a) = 11) (hk31 : ∀ (x3 : Int32) (x4 : Int32) (x5 : Int32), k31 x3 x4 x5 = some z → ∀ (H : Heap) (locs : List Loc), WB G S s H locs → ∀ (ls : Array Slot), lv_has ls 7 [(0, .ref a), (1, .int x1), (2, .int x2), (3, .int x3), (4, .int x4), (5, .int x5)] → W p l e RM_X12_joined s m args below meth c H locs 0 0 (QR G below args s (some (.int z)) S S) (F0 m 31 ls [])) (hk49 : ∀ (x3 : Int32) (x4 : Int32) (x6 : Int32), k49 x3 x4 x6 = some z → ∀ (H : Heap) (locs : List Loc), WB G S s H locs → ∀ (ls : Array Slot), lv_has ls 7 [(0, .ref a), (1, .int x1), (2, .int x2), (3, .int x3), (4, .int x4), (5, .int x5), (6, .int x6)] → W p l e RM_X12_joined s m args below meth c H locs 0 0 (QR G below args s (some (.int z)) S S) (F0 m 49 ls [])) (hf : f_X12_joined_98 fu k31 k49 S a x1 x2 x3 x5 x6 t0 = some z) : ∀ (H : Heap) (locs : List Loc), WB G S s H locs → ∀ (ls : Array Slot), lv_has ls 7 [(0, .ref a), (1, .int x1), (2, .int x2), (3, .int x3), (5, .int x5), (6, .int x6)] → W p l e RM_X12_joined s m args below meth c H locs 0 0 (QR G below args s (some (.int z)) S S) (F0 m 98 ls [.int t0]) := by
  intro  H locs hW ls hl
  have hx := hM.1
  have hb := hM.2.1
  refine lv_istore (lv' := [(4, .int t0), (0, .ref a), (1, .int x1), (2, .int x2), (3, .int x3), (5, .int x5), (6, .int x6)]) hx hb dX12_joined_98 hl (by decide) rfl (fun ls hl => ?_)
  exact t_X12_joined_100 (fu := fu) hM hml hr hlk ha hk31 hk49 hf _ _ hW _ (lv_sub hl [1, 2, 3, 4, 0, 5, 6] rfl)
noncomputable def f_X12_joined_49s (fu : Nat) (k31 : Int32 → Int32 → Int32 → Option (Int32)) (k49 : Int32 → Int32 → Int32 → Option (Int32)) (S : ST) (a : Nat) (x1 : Int32) (x2 : Int32) (x5 : Int32) (x3 : Int32) (x4 : Int32) (x6 : Int32) : Option (Int32) :=
  ck (decide (gC (S (a + 9)) = 3)) <|
  if (gI (S (a + 9)) 7) ≤ x6 then
    (nm (x5 + (1 : Int32)) fun y3 =>
    k31 x3 x4 y3)
  else
    (bd (f_X3_joins fu (S (a + 9)) x5 x6 x1) fun r4 =>
    if r4 = 0 then
      (f_X12_joined_100 fu k31 k49 S a x1 x2 x3 x4 x5 x6)
    else
      (nm (x3 + (1 : Int32)) fun y6 =>
      if x4 = (-1 : Int32) then
        (f_X12_joined_98 fu k31 k49 S a x1 x2 y6 x5 x6 ((x5 * (8 : Int32)) + x6))
      else
        (f_X12_joined_98 fu k31 k49 S a x1 x2 y6 x5 x6 x4)))
noncomputable def f_X12_joined_49 (fu n : Nat) (k31 : Int32 → Int32 → Int32 → Option (Int32)) (S : ST) (a : Nat) (x1 : Int32) (x2 : Int32) (x5 : Int32) : Int32 → Int32 → Int32 → Option (Int32) :=
  lq_3 (fun k49 => f_X12_joined_49s fu k31 k49 S a x1 x2 x5) n
set_option maxHeartbeats 4000000 in
set_option maxRecDepth 100000 in
theorem t_X12_joined_49s {G : GG} {p : Program} {l : Launch} {e : Env} {s : State} {m : MethodId} {args : Array Value} {below : List Frame} {meth : Method} {c : Code} {S : ST} {fu : Nat} {z : Int32} {a : Nat} {k31 : Int32 → Int32 → Int32 → Option (Int32)} {k49 : Int32 → Int32 → Int32 → Option (Int32)} {x1 : Int32} {x2 : Int32} {x5 : Int32} (hM : MC G p s m args c cX12_joined w_X12_joined RX12) (hml : c.maxLocals = 7) (hr : meth.sig.returnType = (some .int)) (hlk : meth.locks = false) (ha : gC (S a) = 11) (hk31 : ∀ (x3 : Int32) (x4 : Int32) (x5 : Int32), k31 x3 x4 x5 = some z → ∀ (H : Heap) (locs : List Loc), WB G S s H locs → ∀ (ls : Array Slot), lv_has ls 7 [(0, .ref a), (1, .int x1), (2, .int x2), (3, .int x3), (4, .int x4), (5, .int x5)] → W p l e RM_X12_joined s m args below meth c H locs 0 0 (QR G below args s (some (.int z)) S S) (F0 m 31 ls [])) (hk49 : ∀ (x3 : Int32) (x4 : Int32) (x6 : Int32), k49 x3 x4 x6 = some z → ∀ (H : Heap) (locs : List Loc), WB G S s H locs → ∀ (ls : Array Slot), lv_has ls 7 [(0, .ref a), (1, .int x1), (2, .int x2), (3, .int x3), (4, .int x4), (5, .int x5), (6, .int x6)] → W p l e RM_X12_joined s m args below meth c H locs 0 0 (QR G below args s (some (.int z)) S S) (F0 m 49 ls [])) : ∀ (x3 : Int32) (x4 : Int32) (x6 : Int32), f_X12_joined_49s fu k31 k49 S a x1 x2 x5 x3 x4 x6 = some z → ∀ (H : Heap) (locs : List Loc), WB G S s H locs → ∀ (ls : Array Slot), lv_has ls 7 [(0, .ref a), (1, .int x1), (2, .int x2), (3, .int x3), (4, .int x4), (5, .int x5), (6, .int x6)] → W p l e RM_X12_joined s m args below meth c H locs 0 0 (QR G below args s (some (.int z)) S S) (F0 m 49 ls []) := by
  intro x3 x4 x6 hf  H locs hW ls hl
  have hx := hM.1
  have hb := hM.2.1
  refine lv_iload hx hb dX12_joined_49 (lv_at hl 6 rfl) ?_
  refine lv_aload_n hx hb dX12_joined_51 rfl (lv_at hl 0 rfl) ?_
  refine b_get hM (hW.at_ a) 10 2 ha rfl rfl (by decide) wi_X12 (wgm fk_RX12_28) (x := .ref (a + 9)) rfl dX12_joined_52 ?_
  obtain ⟨h1, hf⟩ := ck_elim hf
  have h1 := of_decide_eq_true h1
  refine b_get hM (hW.at_ (a + 9)) 2 7 h1 rfl rfl (by decide) wi_X3 (wgm fk_RX12_176) (x := .int (gI (S (a + 9)) 7)) rfl dX12_joined_55 ?_
  refine lv_icmp_ge (tgt := 106) hx hb dX12_joined_58 (by decide) (fun c2 => ?_) (fun c2 => ?_)
  · have hf := if_t c2 hf
    obtain ⟨y3, ey3⟩ : ∃ y : Int32, y = x5 + (1 : Int32) := ⟨_, rfl⟩
    have hf := nm_at ey3 hf
    refine lv_iinc (v := y3) (lv' := [(5, .int y3), (0, .ref a), (1, .int x1), (2, .int x2), (3, .int x3), (4, .int x4), (6, .int x6)]) hx hb dX12_joined_106 hl (k := 5) rfl (by rw [ey3]; rfl) (by decide) rfl (fun ls hl => ?_)
    refine lv_goto (tgt := 31) hx hb dX12_joined_109 (by decide) ?_
    exact hk31 _ _ _ hf _ _ hW _ (lv_sub hl [1, 2, 3, 4, 5, 0] rfl)
  · have hf := if_f c2 hf
    refine lv_aload_n hx hb dX12_joined_61 rfl (lv_at hl 0 rfl) ?_
    refine b_get hM (hW.at_ a) 10 2 ha rfl rfl (by decide) wi_X12 (wgm fk_RX12_28) (x := .ref (a + 9)) rfl dX12_joined_62 ?_
    refine lv_iload hx hb dX12_joined_65 (lv_at hl 5 rfl) ?_
    refine lv_iload hx hb dX12_joined_67 (lv_at hl 6 rfl) ?_
    refine lv_iload_n hx hb dX12_joined_69 rfl (lv_at hl 1 rfl) ?_
    obtain ⟨r4, hr4, hf⟩ := bd_elim hf
    refine s_callVi [.int x5, .int x6, .int x1] [] hM hml hl.1 hW h1 rfl (by decide) (Ct_rd (c_X3_joins l G fu _ (a + 9) (S (a + 9)) _ _ _ h1 hr4)) (cwV 3 hM.2.2.2.1 (gV mk_RX12_269 im_X3_joins se_X3_joins it_RX3 cd_X3_joins) rfl rfl rfl (by decide +kernel) ⟨Nat.le_of_ble_eq_true rfl, Nat.le_of_ble_eq_true rfl⟩) rfl rfl (Nat.le_of_ble_eq_true rfl) ⟨Nat.zero_le _, Nat.zero_le _⟩ dX12_joined_70 (fun H locs hW hk => ?_)
    refine lv_if_eq (tgt := 100) hx hb dX12_joined_73 (by decide) (fun c5 => ?_) (fun c5 => ?_)
    · have hf := if_t c5 hf
      exact t_X12_joined_100 (fu := fu) hM hml hr hlk ha hk31 hk49 hf _ _ hW _ (lv_sub hl [0, 1, 2, 3, 4, 5, 6] rfl)
    · have hf := if_f c5 hf
      obtain ⟨y6, ey6⟩ : ∃ y : Int32, y = x3 + (1 : Int32) := ⟨_, rfl⟩
      have hf := nm_at ey6 hf
      refine lv_iinc (v := y6) (lv' := [(3, .int y6), (0, .ref a), (1, .int x1), (2, .int x2), (4, .int x4), (5, .int x5), (6, .int x6)]) hx hb dX12_joined_76 hl (k := 3) rfl (by rw [ey6]; rfl) (by decide) rfl (fun ls hl => ?_)
      refine lv_iload hx hb dX12_joined_79 (lv_at hl 4 rfl) ?_
      refine lv_iconst (v := (-1 : Int32)) hx hb dX12_joined_81 (by decide) ?_
      refine lv_icmp_ne (tgt := 96) hx hb dX12_joined_82 (by decide) (fun c7 => ?_) (fun c7 => ?_)
      · have hf := if_f c7 hf
        refine lv_iload hx hb dX12_joined_96 (lv_at hl 4 rfl) ?_
        exact t_X12_joined_98 (fu := fu) hM hml hr hlk ha hk31 hk49 hf _ _ hW _ (lv_sub hl [1, 2, 3, 0, 5, 6] rfl)
      · have hf := if_t c7 hf
        refine lv_iload hx hb dX12_joined_85 (lv_at hl 5 rfl) ?_
        refine lv_bipush (v := (8 : Int32)) hx hb dX12_joined_87 (by decide) ?_
        refine lv_imul hx hb dX12_joined_89 ?_
        refine lv_iload hx hb dX12_joined_90 (lv_at hl 6 rfl) ?_
        refine lv_iadd hx hb dX12_joined_92 ?_
        refine lv_goto (tgt := 98) hx hb dX12_joined_93 (by decide) ?_
        exact t_X12_joined_98 (fu := fu) hM hml hr hlk ha hk31 hk49 hf _ _ hW _ (lv_sub hl [1, 2, 3, 0, 5, 6] rfl)
theorem t_X12_joined_49 {G : GG} {p : Program} {l : Launch} {e : Env} {s : State} {m : MethodId} {args : Array Value} {below : List Frame} {meth : Method} {c : Code} {S : ST} {fu : Nat} {z : Int32} {a : Nat} {k31 : Int32 → Int32 → Int32 → Option (Int32)} {x1 : Int32} {x2 : Int32} {x5 : Int32} (hM : MC G p s m args c cX12_joined w_X12_joined RX12) (hml : c.maxLocals = 7) (hr : meth.sig.returnType = (some .int)) (hlk : meth.locks = false) (ha : gC (S a) = 11) (hk31 : ∀ (x3 : Int32) (x4 : Int32) (x5 : Int32), k31 x3 x4 x5 = some z → ∀ (H : Heap) (locs : List Loc), WB G S s H locs → ∀ (ls : Array Slot), lv_has ls 7 [(0, .ref a), (1, .int x1), (2, .int x2), (3, .int x3), (4, .int x4), (5, .int x5)] → W p l e RM_X12_joined s m args below meth c H locs 0 0 (QR G below args s (some (.int z)) S S) (F0 m 31 ls [])) : ∀ {n : Nat} (x3 : Int32) (x4 : Int32) (x6 : Int32), f_X12_joined_49 fu n k31 S a x1 x2 x5 x3 x4 x6 = some z → ∀ (H : Heap) (locs : List Loc), WB G S s H locs → ∀ (ls : Array Slot), lv_has ls 7 [(0, .ref a), (1, .int x1), (2, .int x2), (3, .int x3), (4, .int x4), (5, .int x5), (6, .int x6)] → W p l e RM_X12_joined s m args below meth c H locs 0 0 (QR G below args s (some (.int z)) S S) (F0 m 49 ls []) := by
  intro n
  induction n with
  | zero => intro x3 x4 x6 hf; cases hf
  | succ n ih => intro x3 x4 x6 hf; exact t_X12_joined_49s (fu := fu) hM hml hr hlk ha hk31 (k49 := f_X12_joined_49 fu n k31 S a x1 x2 x5) ih _ _ _ hf
noncomputable def f_X12_joined_31s (fu : Nat)  (k31 : Int32 → Int32 → Int32 → Option (Int32)) (S : ST) (a : Nat) (x1 : Int32) (x2 : Int32) (x3 : Int32) (x4 : Int32) (x5 : Int32) : Option (Int32) :=
  ck (decide (gC (S (a + 9)) = 3)) <|
  if (gI (S (a + 9)) 7) ≤ x5 then
    (if x2 = 0 then
      (some (x3))
    else
      (some (x4)))
  else
    (nm ((x5 + (1 : Int32))) fun y4 =>
    f_X12_joined_49 fu fu k31 S a x1 x2 x5 x3 x4 y4)
noncomputable def f_X12_joined_31 (fu n : Nat)  (S : ST) (a : Nat) (x1 : Int32) (x2 : Int32) : Int32 → Int32 → Int32 → Option (Int32) :=
  lq_3 (fun k31 => f_X12_joined_31s fu  k31 S a x1 x2) n
set_option maxHeartbeats 4000000 in
set_option maxRecDepth 100000 in
theorem t_X12_joined_31s {G : GG} {p : Program} {l : Launch} {e : Env} {s : State} {m : MethodId} {args : Array Value} {below : List Frame} {meth : Method} {c : Code} {S : ST} {fu : Nat} {z : Int32} {a : Nat}  {k31 : Int32 → Int32 → Int32 → Option (Int32)} {x1 : Int32} {x2 : Int32} (hM : MC G p s m args c cX12_joined w_X12_joined RX12) (hml : c.maxLocals = 7) (hr : meth.sig.returnType = (some .int)) (hlk : meth.locks = false) (ha : gC (S a) = 11)  (hk31 : ∀ (x3 : Int32) (x4 : Int32) (x5 : Int32), k31 x3 x4 x5 = some z → ∀ (H : Heap) (locs : List Loc), WB G S s H locs → ∀ (ls : Array Slot), lv_has ls 7 [(0, .ref a), (1, .int x1), (2, .int x2), (3, .int x3), (4, .int x4), (5, .int x5)] → W p l e RM_X12_joined s m args below meth c H locs 0 0 (QR G below args s (some (.int z)) S S) (F0 m 31 ls [])) : ∀ (x3 : Int32) (x4 : Int32) (x5 : Int32), f_X12_joined_31s fu  k31 S a x1 x2 x3 x4 x5 = some z → ∀ (H : Heap) (locs : List Loc), WB G S s H locs → ∀ (ls : Array Slot), lv_has ls 7 [(0, .ref a), (1, .int x1), (2, .int x2), (3, .int x3), (4, .int x4), (5, .int x5)] → W p l e RM_X12_joined s m args below meth c H locs 0 0 (QR G below args s (some (.int z)) S S) (F0 m 31 ls []) := by
  intro x3 x4 x5 hf  H locs hW ls hl
  have hx := hM.1
  have hb := hM.2.1
  refine lv_iload hx hb dX12_joined_31 (lv_at hl 5 rfl) ?_
  refine lv_aload_n hx hb dX12_joined_33 rfl (lv_at hl 0 rfl) ?_
  refine b_get hM (hW.at_ a) 10 2 ha rfl rfl (by decide) wi_X12 (wgm fk_RX12_28) (x := .ref (a + 9)) rfl dX12_joined_34 ?_
  obtain ⟨h1, hf⟩ := ck_elim hf
  have h1 := of_decide_eq_true h1
  refine b_get hM (hW.at_ (a + 9)) 2 7 h1 rfl rfl (by decide) wi_X3 (wgm fk_RX12_176) (x := .int (gI (S (a + 9)) 7)) rfl dX12_joined_37 ?_
  refine lv_icmp_ge (tgt := 112) hx hb dX12_joined_40 (by decide) (fun c2 => ?_) (fun c2 => ?_)
  · have hf := if_t c2 hf
    refine lv_iload_n hx hb dX12_joined_112 rfl (lv_at hl 2 rfl) ?_
    refine lv_if_ne (tgt := 120) hx hb dX12_joined_113 (by decide) (fun c3 => ?_) (fun c3 => ?_)
    · have hf := if_f c3 hf
      refine lv_iload hx hb dX12_joined_120 (lv_at hl 4 rfl) ?_
      cases hf
      exact W.iret hx hb hr (b_ret0 hW (fun _ _ => rfl) _) hW.2.2.2 dX12_joined_122 hlk
    · have hf := if_t c3 hf
      refine lv_iload_n hx hb dX12_joined_116 rfl (lv_at hl 3 rfl) ?_
      refine lv_goto (tgt := 122) hx hb dX12_joined_117 (by decide) ?_
      cases hf
      exact W.iret hx hb hr (b_ret0 hW (fun _ _ => rfl) _) hW.2.2.2 dX12_joined_122 hlk
  · have hf := if_f c2 hf
    refine lv_iload hx hb dX12_joined_43 (lv_at hl 5 rfl) ?_
    refine lv_iconst (v := (1 : Int32)) hx hb dX12_joined_45 (by decide) ?_
    refine lv_iadd hx hb dX12_joined_46 ?_
    refine lv_topi (fun y4 ey4 => ?_)
    have hf := nm_at ey4 hf
    refine lv_istore (lv' := [(6, .int y4), (0, .ref a), (1, .int x1), (2, .int x2), (3, .int x3), (4, .int x4), (5, .int x5)]) hx hb dX12_joined_47 hl (by decide) rfl (fun ls hl => ?_)
    exact t_X12_joined_49 (fu := fu) hM hml hr hlk ha hk31 _ _ _ hf _ _ hW _ (lv_sub hl [1, 2, 3, 4, 5, 6, 0] rfl)
theorem t_X12_joined_31 {G : GG} {p : Program} {l : Launch} {e : Env} {s : State} {m : MethodId} {args : Array Value} {below : List Frame} {meth : Method} {c : Code} {S : ST} {fu : Nat} {z : Int32} {a : Nat}  {x1 : Int32} {x2 : Int32} (hM : MC G p s m args c cX12_joined w_X12_joined RX12) (hml : c.maxLocals = 7) (hr : meth.sig.returnType = (some .int)) (hlk : meth.locks = false) (ha : gC (S a) = 11)  : ∀ {n : Nat} (x3 : Int32) (x4 : Int32) (x5 : Int32), f_X12_joined_31 fu n  S a x1 x2 x3 x4 x5 = some z → ∀ (H : Heap) (locs : List Loc), WB G S s H locs → ∀ (ls : Array Slot), lv_has ls 7 [(0, .ref a), (1, .int x1), (2, .int x2), (3, .int x3), (4, .int x4), (5, .int x5)] → W p l e RM_X12_joined s m args below meth c H locs 0 0 (QR G below args s (some (.int z)) S S) (F0 m 31 ls []) := by
  intro n
  induction n with
  | zero => intro x3 x4 x5 hf; cases hf
  | succ n ih => intro x3 x4 x5 hf; exact t_X12_joined_31s (fu := fu) hM hml hr hlk ha (k31 := f_X12_joined_31 fu n  S a x1 x2) ih _ _ _ hf
noncomputable def f_X12_joined_20 (fu : Nat)  (S : ST) (a : Nat) : Option (Int32) :=
  some ((-2 : Int32))
set_option maxHeartbeats 4000000 in
set_option maxRecDepth 100000 in
theorem t_X12_joined_20 {G : GG} {p : Program} {l : Launch} {e : Env} {s : State} {m : MethodId} {args : Array Value} {below : List Frame} {meth : Method} {c : Code} {S : ST} {fu : Nat} {z : Int32} {a : Nat}  (hM : MC G p s m args c cX12_joined w_X12_joined RX12) (hml : c.maxLocals = 7) (hr : meth.sig.returnType = (some .int)) (hlk : meth.locks = false) (ha : gC (S a) = 11)  (hf : f_X12_joined_20 fu  S a  = some z) : ∀ (H : Heap) (locs : List Loc), WB G S s H locs → ∀ (ls : Array Slot), lv_has ls 7 [] → W p l e RM_X12_joined s m args below meth c H locs 0 0 (QR G below args s (some (.int z)) S S) (F0 m 20 ls []) := by
  intro  H locs hW ls hl
  have hx := hM.1
  have hb := hM.2.1
  refine lv_bipush (v := (-2 : Int32)) hx hb dX12_joined_20 (by decide) ?_
  cases hf
  exact W.iret hx hb hr (b_ret0 hW (fun _ _ => rfl) _) hW.2.2.2 dX12_joined_22 hlk
noncomputable def f_X12_joined_0 (fu : Nat)  (S : ST) (a : Nat) (x1 : Int32) (x2 : Int32) : Option (Int32) :=
  ck (decide (gC (S (a + 9)) = 3)) <|
  bd (f_X3_isThere fu (S (a + 9)) x1) fun r2 =>
  if r2 = 0 then
    (f_X12_joined_20 fu S a)
  else
    (if x2 < 0 then
      (f_X12_joined_20 fu S a)
    else
      (if x2 ≤ (1 : Int32) then
        (f_X12_joined_31 fu fu S a x1 x2 (0 : Int32) (-1 : Int32) (0 : Int32))
      else
        (f_X12_joined_20 fu S a)))
set_option maxHeartbeats 4000000 in
set_option maxRecDepth 100000 in
theorem t_X12_joined_0 {G : GG} {p : Program} {l : Launch} {e : Env} {s : State} {m : MethodId} {args : Array Value} {below : List Frame} {meth : Method} {c : Code} {S : ST} {fu : Nat} {z : Int32} {a : Nat}  {x1 : Int32} {x2 : Int32} (hM : MC G p s m args c cX12_joined w_X12_joined RX12) (hml : c.maxLocals = 7) (hr : meth.sig.returnType = (some .int)) (hlk : meth.locks = false) (ha : gC (S a) = 11)  (hf : f_X12_joined_0 fu  S a x1 x2 = some z) : ∀ (H : Heap) (locs : List Loc), WB G S s H locs → ∀ (ls : Array Slot), lv_has ls 7 [(0, .ref a), (1, .int x1), (2, .int x2)] → W p l e RM_X12_joined s m args below meth c H locs 0 0 (QR G below args s (some (.int z)) S S) (F0 m 0 ls []) := by
  intro  H locs hW ls hl
  have hx := hM.1
  have hb := hM.2.1
  refine lv_aload_n hx hb dX12_joined_0 rfl (lv_at hl 0 rfl) ?_
  refine b_get hM (hW.at_ a) 10 2 ha rfl rfl (by decide) wi_X12 (wgm fk_RX12_28) (x := .ref (a + 9)) rfl dX12_joined_1 ?_
  obtain ⟨h1, hf⟩ := ck_elim hf
  have h1 := of_decide_eq_true h1
  refine lv_iload_n hx hb dX12_joined_4 rfl (lv_at hl 1 rfl) ?_
  obtain ⟨r2, hr2, hf⟩ := bd_elim hf
  refine s_callVi [.int x1] [] hM hml hl.1 hW h1 rfl (by decide) (Ct_rd (c_X3_isThere l G fu _ (a + 9) (S (a + 9)) _ h1 hr2)) (cwV 1 hM.2.2.2.1 (gV mk_RX12_130 im_X3_isThere se_X3_isThere it_RX3 cd_X3_isThere) rfl rfl rfl (by decide +kernel) ⟨Nat.le_of_ble_eq_true rfl, Nat.le_of_ble_eq_true rfl⟩) rfl rfl (Nat.le_of_ble_eq_true rfl) ⟨Nat.zero_le _, Nat.zero_le _⟩ dX12_joined_5 (fun H locs hW hk => ?_)
  refine lv_if_eq (tgt := 20) hx hb dX12_joined_8 (by decide) (fun c3 => ?_) (fun c3 => ?_)
  · have hf := if_t c3 hf
    exact t_X12_joined_20 (fu := fu) hM hml hr hlk ha hf _ _ hW _ (lv_sub hl [] rfl)
  · have hf := if_f c3 hf
    refine lv_iload_n hx hb dX12_joined_11 rfl (lv_at hl 2 rfl) ?_
    refine lv_if_lt (tgt := 20) hx hb dX12_joined_12 (by decide) (fun c4 => ?_) (fun c4 => ?_)
    · have hf := if_t c4 hf
      exact t_X12_joined_20 (fu := fu) hM hml hr hlk ha hf _ _ hW _ (lv_sub hl [] rfl)
    · have hf := if_f c4 hf
      refine lv_iload_n hx hb dX12_joined_15 rfl (lv_at hl 2 rfl) ?_
      refine lv_iconst (v := (1 : Int32)) hx hb dX12_joined_16 (by decide) ?_
      refine lv_icmp_le (tgt := 23) hx hb dX12_joined_17 (by decide) (fun c5 => ?_) (fun c5 => ?_)
      · have hf := if_t c5 hf
        refine lv_iconst (v := (0 : Int32)) hx hb dX12_joined_23 (by decide) ?_
        refine lv_istore_n (lv' := [(3, .int (0 : Int32)), (0, .ref a), (1, .int x1), (2, .int x2)]) hx hb dX12_joined_24 rfl hl (by decide) rfl (fun ls hl => ?_)
        refine lv_iconst (v := (-1 : Int32)) hx hb dX12_joined_25 (by decide) ?_
        refine lv_istore (lv' := [(4, .int (-1 : Int32)), (3, .int (0 : Int32)), (0, .ref a), (1, .int x1), (2, .int x2)]) hx hb dX12_joined_26 hl (by decide) rfl (fun ls hl => ?_)
        refine lv_iconst (v := (0 : Int32)) hx hb dX12_joined_28 (by decide) ?_
        refine lv_istore (lv' := [(5, .int (0 : Int32)), (4, .int (-1 : Int32)), (3, .int (0 : Int32)), (0, .ref a), (1, .int x1), (2, .int x2)]) hx hb dX12_joined_29 hl (by decide) rfl (fun ls hl => ?_)
        exact t_X12_joined_31 (fu := fu) hM hml hr hlk ha _ _ _ hf _ _ hW _ (lv_sub hl [3, 4, 5, 2, 1, 0] rfl)
      · have hf := if_f c5 hf
        exact t_X12_joined_20 (fu := fu) hM hml hr hlk ha hf _ _ hW _ (lv_sub hl [] rfl)
noncomputable def f_X12_joined (fu : Nat) (S : ST) (a : Nat) (x1 : Int32) (x2 : Int32) : Option (Int32) := f_X12_joined_0 fu S a x1 x2
set_option maxHeartbeats 4000000 in
set_option maxRecDepth 100000 in
theorem c_X12_joined (l : Launch) (G : GG) (fu : Nat) (S : ST) (a : Nat) (x1 : Int32) (x2 : Int32) {z : Int32} (ha : gC (S a) = 11) (hf : f_X12_joined fu S a x1 x2 = some z) : Ct l yX12_joined w_X12_joined RM_X12_joined G S [.ref a, .int x1, .int x2] (some (.int z)) S 0 0 := by
  refine Met.ofW (cc := cX12_joined) (maxL := 7) (ret := (some .int)) (by decide) rfl ?_
  intro p e s m args below meth c s₁ B hml hv
  obtain ⟨rfl, hB, hK, hz⟩ := hv
  have hM : MC G p s m _ c cX12_joined w_X12_joined RX12 := ⟨B.exec, B.bytes, findClass_of_methodNamed B.named, atoms_spec (ws := w_X12_joined) B.pre, hK, hz⟩
  have hW : WB G S s s.heap [] := ⟨hB, va_S.rf⟩
  have hl := lv_entry ([.ref a, .int x1, .int x2]) (n := 7) (Nat.le_of_ble_eq_true rfl)
  rw [lg_entry_eq]
  generalize (lg_sl ([.ref a, .int x1, .int x2]) ++ List.replicate (7 - (lg_sl ([.ref a, .int x1, .int x2])).length) Slot.unset).toArray = ls at hl ⊢
  have hl : lv_has ls 7 [(0, .ref a), (1, .int x1), (2, .int x2)] := hl
  exact t_X12_joined_0 (fu := fu) hM hml B.returns B.notSynchronized ha hf _ _ hW _ (lv_sub hl [0, 1, 2] rfl)
