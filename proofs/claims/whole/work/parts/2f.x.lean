abbrev RM_X5_part (d : Nat) : Room := { frames := 5 * d + 2, cells := 0, slots := 0, locals := 113 * d + 42 }
abbrev w_X5_part : List Cond := Cond.code yX5_part cX5_part 4 none :: wsL_law0
abbrev RM_X5_product (d : Nat) : Room := { frames := 5 * d + 3, cells := 0, slots := 0, locals := 113 * d + 65 }
abbrev w_X5_product : List Cond := Cond.code yX5_product cX5_product 3 none :: wsL_law0
abbrev RM_X5_sum (d : Nat) : Room := { frames := 5 * d + 4, cells := 0, slots := 0, locals := 113 * d + 87 }
abbrev w_X5_sum : List Cond := Cond.code yX5_sum cX5_sum 4 none :: wsL_law0
abbrev RM_X5_test (d : Nat) : Room := { frames := 5 * d + 5, cells := 0, slots := 0, locals := 113 * d + 110 }
abbrev w_X5_test : List Cond := Cond.code yX5_test cX5_test 3 none :: wsL_law0
abbrev RM_X5_expression (d : Nat) : Room := { frames := 5 * d + 6, cells := 0, slots := 0, locals := 113 * d + 132 }
abbrev w_X5_expression : List Cond := Cond.code yX5_expression cX5_expression 4 none :: wsL_law0
noncomputable def f_X5_product_7s (fu : Nat) (rec : ST → Nat → Int32 → Option (ST))  (k7 : Int32 → ST → Option (ST)) (a : Nat) (x1 : Int32) (x2 : Int32) (S : ST) : Option (ST) :=
  if (1000 : Int32) ≤ x2 then
    (some S)
  else
    (bd (gR (S a) 0) fun q2 =>
    ck (decide (gC (S q2) = 8)) <|
    bd (f_X8_isAt fu (S q2) (42 : Int32)) fun r4 =>
    if r4 = 0 then
      (some S)
    else
      (bd (gR (S a) 0) fun q6 =>
      ck (decide (gC (S q6) = 8)) <|
      bd (f_X8_step fu (S q6)) fun v9 =>
      nm (st S q6 v9) fun Sv9 =>
      bd (rec Sv9 a x1) fun S11 =>
      bd (f_X5_put fu (S11 a) (-11 : Int32)) fun v13 =>
      nm (st S11 a v13) fun Sv13 =>
      nm (x2 + (1 : Int32)) fun y14 =>
      k7 y14 Sv13))
noncomputable def f_X5_product_7 (fu n : Nat) (rec : ST → Nat → Int32 → Option (ST))  (a : Nat) (x1 : Int32) : Int32 → ST → Option (ST) :=
  lq_2 (fun k7 => f_X5_product_7s fu rec  k7  a x1) n
set_option maxHeartbeats 4000000 in
set_option maxRecDepth 100000 in
theorem t_X5_product_7s {G : GG} {p : Program} {l : Launch} {e : Env} {s : State} {m : MethodId} {args : Array Value} {below : List Frame} {meth : Method} {c : Code} {S0 : ST} {fu : Nat} {z : ST} {a : Nat} {d : Nat} {rec : ST → Nat → Int32 → Option (ST)}  {k7 : Int32 → ST → Option (ST)} {x1 : Int32} (hM : MC G p s m args c cX5_product w_X5_product RX5) (hml : c.maxLocals = 3) (hr : meth.sig.returnType = none) (hlk : meth.locks = false) (hrec : ∀ (S : ST) (a : Nat) (x1 : Int32) (z : ST), gC (S a) = 5 → rec S a x1 = some z → Ct l yX5_part w_X5_part (RM_X5_part d) G S [.ref a, .int x1] none z 0 0)  (hk7 : ∀ (x2 : Int32) (S : ST), k7 x2 S = some z → (gC (S a) = 5) → (∀ b, gC (S0 b) ≠ 0 → gC (S b) = gC (S0 b)) → ∀ (H : Heap) (locs : List Loc), WB G S s H locs → ∀ (ls : Array Slot), lv_has ls 3 [(0, .ref a), (1, .int x1), (2, .int x2)] → W p l e (RM_X5_product d) s m args below meth c H locs 0 0 (QR G below args s none S0 z) (F0 m 7 ls [])) : ∀ (x2 : Int32) (S : ST), f_X5_product_7s fu rec  k7  a x1 x2 S = some z → (gC (S a) = 5) → (∀ b, gC (S0 b) ≠ 0 → gC (S b) = gC (S0 b)) → ∀ (H : Heap) (locs : List Loc), WB G S s H locs → ∀ (ls : Array Slot), lv_has ls 3 [(0, .ref a), (1, .int x1), (2, .int x2)] → W p l e (RM_X5_product d) s m args below meth c H locs 0 0 (QR G below args s none S0 z) (F0 m 7 ls []) := by
  intro x2 S hf ha hK0 H locs hW ls hl
  have hx := hM.1
  have hb := hM.2.1
  refine lv_iload_n hx hb dX5_product_7 rfl (lv_at hl 2 rfl) ?_
  refine lv_sipush (v := (1000 : Int32)) hx hb dX5_product_8 (by decide) ?_
  refine lv_icmp_ge (tgt := 50) hx hb dX5_product_11 (by decide) (fun c1 => ?_) (fun c1 => ?_)
  · have hf := if_t c1 hf
    cases hf
    exact W.vret hx hb hr (b_ret0 hW hK0 _) hW.2.2.2 dX5_product_50 hlk
  · have hf := if_f c1 hf
    refine lv_aload_n hx hb dX5_product_14 rfl (lv_at hl 0 rfl) ?_
    obtain ⟨q2, hq2, hf⟩ := bd_elim hf
    refine b_get hM (hW.at_ a) 4 0 ha rfl rfl (by decide) wi_X5 (wgm fk_RX5_28) (x := .ref q2) (by show va_rf _ = _; rw [hq2]; rfl) dX5_product_15 ?_
    obtain ⟨h3, hf⟩ := ck_elim hf
    have h3 := of_decide_eq_true h3
    refine lv_bipush (v := (42 : Int32)) hx hb dX5_product_18 (by decide) ?_
    obtain ⟨r4, hr4, hf⟩ := bd_elim hf
    refine s_callVi [.int (42 : Int32)] [] hM hml hl.1 hW h3 rfl (by decide) (Ct_rd (c_X8_isAt l G fu _ q2 (S q2) _ h3 hr4)) (cwV 1 hM.2.2.2.1 (gV mk_RX5_71 im_X8_isAt se_X8_isAt it_RX8 cd_X8_isAt) rfl rfl rfl (by decide +kernel) ⟨by show 0 + 1 ≤ 5 * d + 3; omega, by show 8 + (2 + 11) + 0 ≤ 113 * d + 65; omega⟩) rfl rfl (Nat.le_of_ble_eq_true rfl) ⟨Nat.zero_le _, Nat.zero_le _⟩ dX5_product_20 (fun H locs hW hk => ?_)
    refine lv_if_eq (tgt := 50) hx hb dX5_product_23 (by decide) (fun c5 => ?_) (fun c5 => ?_)
    · have hf := if_t c5 hf
      cases hf
      exact W.vret hx hb hr (b_ret0 hW hK0 _) hW.2.2.2 dX5_product_50 hlk
    · have hf := if_f c5 hf
      refine lv_aload_n hx hb dX5_product_26 rfl (lv_at hl 0 rfl) ?_
      obtain ⟨q6, hq6, hf⟩ := bd_elim hf
      refine b_get hM (hW.at_ a) 4 0 ha rfl rfl (by decide) wi_X5 (wgm fk_RX5_28) (x := .ref q6) (by show va_rf _ = _; rw [hq6]; rfl) dX5_product_27 ?_
      obtain ⟨h7, hf⟩ := ck_elim hf
      have h7 := of_decide_eq_true h7
      obtain ⟨v9, hr8, hf⟩ := bd_elim hf
      refine s_callNv [] [] hM hml hl.1 hW h7 rfl (by decide) (Ct_self (c_X8_step l G fu _ q6 (S q6) h7 hr8)) (cwV 0 hM.2.2.2.1 (gV mk_RX5_62 im_X8_step se_X8_step it_RX8 cd_X8_step) rfl rfl rfl (by decide +kernel) ⟨by show 0 + 1 ≤ 5 * d + 3; omega, by show 8 + (1 + 11) + 0 ≤ 113 * d + 65; omega⟩) rfl rfl (Nat.le_of_ble_eq_true rfl) ⟨Nat.zero_le _, Nat.zero_le _⟩ dX5_product_30 (fun Sv9 ev9 hk H locs hW => ?_)
      have hf := nm_at ev9 hf
      have ha := keep1 hk ha
      have h3 := keep1 hk h3
      have h7 := keep1 hk h7
      have hK0 := keep_tr hK0 hk
      refine lv_aload_n hx hb dX5_product_33 rfl (lv_at hl 0 rfl) ?_
      refine lv_iload_n hx hb dX5_product_34 rfl (lv_at hl 1 rfl) ?_
      obtain ⟨S11, hr10, hf⟩ := bd_elim hf
      refine s_callVv [.int x1] [] hM hml hl.1 hW ha rfl (by decide) (hrec _ a _ _ ha hr10) (cwV 1 hM.2.2.2.1 (gV mk_RX5_77 im_X5_part se_X5_part it_RX5 cd_X5_part) rfl rfl rfl (by decide +kernel) ⟨by show (5 * d + 2) + 1 ≤ 5 * d + 3; omega, by show 8 + (4 + 11) + (113 * d + 42) ≤ 113 * d + 65; omega⟩) rfl rfl (Nat.le_of_ble_eq_true rfl) ⟨Nat.zero_le _, Nat.zero_le _⟩ dX5_product_35 (fun H locs hW hk => ?_)
      have ha := keep1 hk ha
      have h3 := keep1 hk h3
      have h7 := keep1 hk h7
      have hK0 := keep_tr hK0 hk
      refine lv_aload_n hx hb dX5_product_38 rfl (lv_at hl 0 rfl) ?_
      refine lv_bipush (v := (-11 : Int32)) hx hb dX5_product_39 (by decide) ?_
      obtain ⟨v13, hr12, hf⟩ := bd_elim hf
      refine s_callNv [.int (-11 : Int32)] [] hM hml hl.1 hW ha rfl (by decide) (Ct_self (c_X5_put l G fu _ a (S11 a) _ ha hr12)) (cwV 1 hM.2.2.2.1 (gV mk_RX5_65 im_X5_put se_X5_put it_RX5 cd_X5_put) rfl rfl rfl (by decide +kernel) ⟨by show 0 + 1 ≤ 5 * d + 3; omega, by show 8 + (2 + 11) + 0 ≤ 113 * d + 65; omega⟩) rfl rfl (Nat.le_of_ble_eq_true rfl) ⟨Nat.zero_le _, Nat.zero_le _⟩ dX5_product_41 (fun Sv13 ev13 hk H locs hW => ?_)
      have hf := nm_at ev13 hf
      have ha := keep1 hk ha
      have h3 := keep1 hk h3
      have h7 := keep1 hk h7
      have hK0 := keep_tr hK0 hk
      obtain ⟨y14, ey14⟩ : ∃ y : Int32, y = x2 + (1 : Int32) := ⟨_, rfl⟩
      have hf := nm_at ey14 hf
      refine lv_iinc (v := y14) (lv' := [(2, .int y14), (0, .ref a), (1, .int x1)]) hx hb dX5_product_44 hl (k := 2) rfl (by rw [ey14]; rfl) (by decide) rfl (fun ls hl => ?_)
      refine lv_goto (tgt := 7) hx hb dX5_product_47 (by decide) ?_
      exact hk7 _ _ hf ha hK0 _ _ hW _ (lv_sub hl [1, 2, 0] rfl)
theorem t_X5_product_7 {G : GG} {p : Program} {l : Launch} {e : Env} {s : State} {m : MethodId} {args : Array Value} {below : List Frame} {meth : Method} {c : Code} {S0 : ST} {fu : Nat} {z : ST} {a : Nat} {d : Nat} {rec : ST → Nat → Int32 → Option (ST)}  {x1 : Int32} (hM : MC G p s m args c cX5_product w_X5_product RX5) (hml : c.maxLocals = 3) (hr : meth.sig.returnType = none) (hlk : meth.locks = false) (hrec : ∀ (S : ST) (a : Nat) (x1 : Int32) (z : ST), gC (S a) = 5 → rec S a x1 = some z → Ct l yX5_part w_X5_part (RM_X5_part d) G S [.ref a, .int x1] none z 0 0)  : ∀ {n : Nat} (x2 : Int32) (S : ST), f_X5_product_7 fu n rec   a x1 x2 S = some z → (gC (S a) = 5) → (∀ b, gC (S0 b) ≠ 0 → gC (S b) = gC (S0 b)) → ∀ (H : Heap) (locs : List Loc), WB G S s H locs → ∀ (ls : Array Slot), lv_has ls 3 [(0, .ref a), (1, .int x1), (2, .int x2)] → W p l e (RM_X5_product d) s m args below meth c H locs 0 0 (QR G below args s none S0 z) (F0 m 7 ls []) := by
  intro n
  induction n with
  | zero => intro x2 S hf; cases hf
  | succ n ih => intro x2 S hf; exact t_X5_product_7s (fu := fu) hM hml hr hlk hrec (k7 := f_X5_product_7 fu n rec   a x1) ih _ _ hf
noncomputable def f_X5_product_0 (fu : Nat) (rec : ST → Nat → Int32 → Option (ST))  (S : ST) (a : Nat) (x1 : Int32) : Option (ST) :=
  bd (rec S a x1) fun S2 =>
  f_X5_product_7 fu fu rec a x1 (0 : Int32) S2
set_option maxHeartbeats 4000000 in
set_option maxRecDepth 100000 in
theorem t_X5_product_0 {G : GG} {p : Program} {l : Launch} {e : Env} {s : State} {m : MethodId} {args : Array Value} {below : List Frame} {meth : Method} {c : Code} {S0 : ST} {fu : Nat} {z : ST} {a : Nat} {d : Nat} {rec : ST → Nat → Int32 → Option (ST)}  {S : ST} {x1 : Int32} (hM : MC G p s m args c cX5_product w_X5_product RX5) (hml : c.maxLocals = 3) (hr : meth.sig.returnType = none) (hlk : meth.locks = false) (hrec : ∀ (S : ST) (a : Nat) (x1 : Int32) (z : ST), gC (S a) = 5 → rec S a x1 = some z → Ct l yX5_part w_X5_part (RM_X5_part d) G S [.ref a, .int x1] none z 0 0)  (hf : f_X5_product_0 fu rec  S a x1 = some z) : (gC (S a) = 5) → (∀ b, gC (S0 b) ≠ 0 → gC (S b) = gC (S0 b)) → ∀ (H : Heap) (locs : List Loc), WB G S s H locs → ∀ (ls : Array Slot), lv_has ls 3 [(0, .ref a), (1, .int x1)] → W p l e (RM_X5_product d) s m args below meth c H locs 0 0 (QR G below args s none S0 z) (F0 m 0 ls []) := by
  intro ha hK0 H locs hW ls hl
  have hx := hM.1
  have hb := hM.2.1
  refine lv_aload_n hx hb dX5_product_0 rfl (lv_at hl 0 rfl) ?_
  refine lv_iload_n hx hb dX5_product_1 rfl (lv_at hl 1 rfl) ?_
  obtain ⟨S2, hr1, hf⟩ := bd_elim hf
  refine s_callVv [.int x1] [] hM hml hl.1 hW ha rfl (by decide) (hrec _ a _ _ ha hr1) (cwV 1 hM.2.2.2.1 (gV mk_RX5_77 im_X5_part se_X5_part it_RX5 cd_X5_part) rfl rfl rfl (by decide +kernel) ⟨by show (5 * d + 2) + 1 ≤ 5 * d + 3; omega, by show 8 + (4 + 11) + (113 * d + 42) ≤ 113 * d + 65; omega⟩) rfl rfl (Nat.le_of_ble_eq_true rfl) ⟨Nat.zero_le _, Nat.zero_le _⟩ dX5_product_2 (fun H locs hW hk => ?_)
  have ha := keep1 hk ha
  have hK0 := keep_tr hK0 hk
  refine lv_iconst (v := (0 : Int32)) hx hb dX5_product_5 (by decide) ?_
  refine lv_istore_n (lv' := [(2, .int (0 : Int32)), (0, .ref a), (1, .int x1)]) hx hb dX5_product_6 rfl hl (by decide) rfl (fun ls hl => ?_)
  exact t_X5_product_7 (fu := fu) hM hml hr hlk hrec _ _ hf ha hK0 _ _ hW _ (lv_sub hl [1, 2, 0] rfl)
noncomputable def f_X5_product (fu : Nat) (rec : ST → Nat → Int32 → Option (ST)) (S : ST) (a : Nat) (x1 : Int32) : Option (ST) := f_X5_product_0 fu rec S a x1
set_option maxHeartbeats 4000000 in
set_option maxRecDepth 100000 in
theorem c_X5_product (l : Launch) (G : GG) (fu : Nat) {d : Nat} {rec : ST → Nat → Int32 → Option (ST)} (hrec : ∀ (S : ST) (a : Nat) (x1 : Int32) (z : ST), gC (S a) = 5 → rec S a x1 = some z → Ct l yX5_part w_X5_part (RM_X5_part d) G S [.ref a, .int x1] none z 0 0) (S : ST) (a : Nat) (x1 : Int32) {z : ST} (ha : gC (S a) = 5) (hf : f_X5_product fu rec S a x1 = some z) : Ct l yX5_product w_X5_product (RM_X5_product d) G S [.ref a, .int x1] none z 0 0 := by
  refine Met.ofW (cc := cX5_product) (maxL := 3) (ret := none) (by decide) rfl ?_
  intro p e s m args below meth c s₁ B hml hv
  obtain ⟨rfl, hB, hK, hz⟩ := hv
  have hM : MC G p s m _ c cX5_product w_X5_product RX5 := ⟨B.exec, B.bytes, findClass_of_methodNamed B.named, atoms_spec (ws := w_X5_product) B.pre, hK, hz⟩
  have hW : WB G S s s.heap [] := ⟨hB, va_S.rf⟩
  have hl := lv_entry ([.ref a, .int x1]) (n := 3) (Nat.le_of_ble_eq_true rfl)
  rw [lg_entry_eq]
  generalize (lg_sl ([.ref a, .int x1]) ++ List.replicate (3 - (lg_sl ([.ref a, .int x1])).length) Slot.unset).toArray = ls at hl ⊢
  have hl : lv_has ls 3 [(0, .ref a), (1, .int x1)] := hl
  exact t_X5_product_0 (fu := fu) hM hml B.returns B.notSynchronized hrec hf ha (fun _ _ => rfl) _ _ hW _ (lv_sub hl [0, 1] rfl)
noncomputable def f_X5_sum_57 (fu : Nat) (rec : ST → Nat → Int32 → Option (ST)) (k7 : Int32 → ST → Option (ST)) (S : ST) (a : Nat) (x1 : Int32) (x2 : Int32) (t0 : Int32) : Option (ST) :=
  bd (gR (S a) 0) fun q1 =>
  ck (decide (gC (S q1) = 8)) <|
  bd (f_X8_step fu (S q1)) fun v4 =>
  nm (st S q1 v4) fun Sv4 =>
  bd (f_X5_product fu rec Sv4 a x1) fun S6 =>
  bd (f_X5_put fu (S6 a) t0) fun v8 =>
  nm (st S6 a v8) fun Sv8 =>
  nm (x2 + (1 : Int32)) fun y9 =>
  k7 y9 Sv8
set_option maxHeartbeats 4000000 in
set_option maxRecDepth 100000 in
theorem t_X5_sum_57 {G : GG} {p : Program} {l : Launch} {e : Env} {s : State} {m : MethodId} {args : Array Value} {below : List Frame} {meth : Method} {c : Code} {S0 : ST} {fu : Nat} {z : ST} {a : Nat} {d : Nat} {rec : ST → Nat → Int32 → Option (ST)} {k7 : Int32 → ST → Option (ST)} {S : ST} {x1 : Int32} {x2 : Int32} {t0 : Int32} (hM : MC G p s m args c cX5_sum w_X5_sum RX5) (hml : c.maxLocals = 4) (hr : meth.sig.returnType = none) (hlk : meth.locks = false) (hrec : ∀ (S : ST) (a : Nat) (x1 : Int32) (z : ST), gC (S a) = 5 → rec S a x1 = some z → Ct l yX5_part w_X5_part (RM_X5_part d) G S [.ref a, .int x1] none z 0 0) (hk7 : ∀ (x2 : Int32) (S : ST), k7 x2 S = some z → (gC (S a) = 5) → (∀ b, gC (S0 b) ≠ 0 → gC (S b) = gC (S0 b)) → ∀ (H : Heap) (locs : List Loc), WB G S s H locs → ∀ (ls : Array Slot), lv_has ls 4 [(0, .ref a), (1, .int x1), (2, .int x2)] → W p l e (RM_X5_sum d) s m args below meth c H locs 0 0 (QR G below args s none S0 z) (F0 m 7 ls [])) (hf : f_X5_sum_57 fu rec k7 S a x1 x2 t0 = some z) : (gC (S a) = 5) → (∀ b, gC (S0 b) ≠ 0 → gC (S b) = gC (S0 b)) → ∀ (H : Heap) (locs : List Loc), WB G S s H locs → ∀ (ls : Array Slot), lv_has ls 4 [(0, .ref a), (1, .int x1), (2, .int x2)] → W p l e (RM_X5_sum d) s m args below meth c H locs 0 0 (QR G below args s none S0 z) (F0 m 57 ls [.int t0]) := by
  intro ha hK0 H locs hW ls hl
  have hx := hM.1
  have hb := hM.2.1
  refine lv_istore_n (lv' := [(3, .int t0), (0, .ref a), (1, .int x1), (2, .int x2)]) hx hb dX5_sum_57 rfl hl (by decide) rfl (fun ls hl => ?_)
  refine lv_aload_n hx hb dX5_sum_58 rfl (lv_at hl 1 rfl) ?_
  obtain ⟨q1, hq1, hf⟩ := bd_elim hf
  refine b_get hM (hW.at_ a) 4 0 ha rfl rfl (by decide) wi_X5 (wgm fk_RX5_28) (x := .ref q1) (by show va_rf _ = _; rw [hq1]; rfl) dX5_sum_59 ?_
  obtain ⟨h2, hf⟩ := ck_elim hf
  have h2 := of_decide_eq_true h2
  obtain ⟨v4, hr3, hf⟩ := bd_elim hf
  refine s_callNv [] [] hM hml hl.1 hW h2 rfl (by decide) (Ct_self (c_X8_step l G fu _ q1 (S q1) h2 hr3)) (cwV 0 hM.2.2.2.1 (gV mk_RX5_62 im_X8_step se_X8_step it_RX8 cd_X8_step) rfl rfl rfl (by decide +kernel) ⟨by show 0 + 1 ≤ 5 * d + 4; omega, by show 8 + (1 + 11) + 0 ≤ 113 * d + 87; omega⟩) rfl rfl (Nat.le_of_ble_eq_true rfl) ⟨Nat.zero_le _, Nat.zero_le _⟩ dX5_sum_62 (fun Sv4 ev4 hk H locs hW => ?_)
  have hf := nm_at ev4 hf
  have ha := keep1 hk ha
  have h2 := keep1 hk h2
  have hK0 := keep_tr hK0 hk
  refine lv_aload_n hx hb dX5_sum_65 rfl (lv_at hl 1 rfl) ?_
  refine lv_iload_n hx hb dX5_sum_66 rfl (lv_at hl 2 rfl) ?_
  obtain ⟨S6, hr5, hf⟩ := bd_elim hf
  refine s_callVv [.int x1] [] hM hml hl.1 hW ha rfl (by decide) (c_X5_product l G fu hrec _ a _ ha hr5) (cwV 1 hM.2.2.2.1 (gV mk_RX5_74 im_X5_product se_X5_product it_RX5 cd_X5_product) rfl rfl rfl (by decide +kernel) ⟨by show (5 * d + 3) + 1 ≤ 5 * d + 4; omega, by show 8 + (3 + 11) + (113 * d + 65) ≤ 113 * d + 87; omega⟩) rfl rfl (Nat.le_of_ble_eq_true rfl) ⟨Nat.zero_le _, Nat.zero_le _⟩ dX5_sum_67 (fun H locs hW hk => ?_)
  have ha := keep1 hk ha
  have h2 := keep1 hk h2
  have hK0 := keep_tr hK0 hk
  refine lv_aload_n hx hb dX5_sum_70 rfl (lv_at hl 1 rfl) ?_
  refine lv_iload_n hx hb dX5_sum_71 rfl (lv_at hl 0 rfl) ?_
  obtain ⟨v8, hr7, hf⟩ := bd_elim hf
  refine s_callNv [.int t0] [] hM hml hl.1 hW ha rfl (by decide) (Ct_self (c_X5_put l G fu _ a (S6 a) _ ha hr7)) (cwV 1 hM.2.2.2.1 (gV mk_RX5_65 im_X5_put se_X5_put it_RX5 cd_X5_put) rfl rfl rfl (by decide +kernel) ⟨by show 0 + 1 ≤ 5 * d + 4; omega, by show 8 + (2 + 11) + 0 ≤ 113 * d + 87; omega⟩) rfl rfl (Nat.le_of_ble_eq_true rfl) ⟨Nat.zero_le _, Nat.zero_le _⟩ dX5_sum_72 (fun Sv8 ev8 hk H locs hW => ?_)
  have hf := nm_at ev8 hf
  have ha := keep1 hk ha
  have h2 := keep1 hk h2
  have hK0 := keep_tr hK0 hk
  obtain ⟨y9, ey9⟩ : ∃ y : Int32, y = x2 + (1 : Int32) := ⟨_, rfl⟩
  have hf := nm_at ey9 hf
  refine lv_iinc (v := y9) (lv' := [(2, .int y9), (3, .int t0), (0, .ref a), (1, .int x1)]) hx hb dX5_sum_75 hl (k := 3) rfl (by rw [ey9]; rfl) (by decide) rfl (fun ls hl => ?_)
  refine lv_goto (tgt := 7) hx hb dX5_sum_78 (by decide) ?_
  exact hk7 _ _ hf ha hK0 _ _ hW _ (lv_sub hl [2, 3, 0] rfl)
noncomputable def f_X5_sum_38 (fu : Nat) (rec : ST → Nat → Int32 → Option (ST)) (k7 : Int32 → ST → Option (ST)) (S : ST) (a : Nat) (x1 : Int32) (x2 : Int32) : Option (ST) :=
  bd (gR (S a) 0) fun q1 =>
  ck (decide (gC (S q1) = 8)) <|
  bd (f_X8_isAt fu (S q1) (43 : Int32)) fun r3 =>
  if r3 = 0 then
    (f_X5_sum_57 fu rec k7 S a x1 x2 (-10 : Int32))
  else
    (f_X5_sum_57 fu rec k7 S a x1 x2 (-9 : Int32))
set_option maxHeartbeats 4000000 in
set_option maxRecDepth 100000 in
theorem t_X5_sum_38 {G : GG} {p : Program} {l : Launch} {e : Env} {s : State} {m : MethodId} {args : Array Value} {below : List Frame} {meth : Method} {c : Code} {S0 : ST} {fu : Nat} {z : ST} {a : Nat} {d : Nat} {rec : ST → Nat → Int32 → Option (ST)} {k7 : Int32 → ST → Option (ST)} {S : ST} {x1 : Int32} {x2 : Int32} (hM : MC G p s m args c cX5_sum w_X5_sum RX5) (hml : c.maxLocals = 4) (hr : meth.sig.returnType = none) (hlk : meth.locks = false) (hrec : ∀ (S : ST) (a : Nat) (x1 : Int32) (z : ST), gC (S a) = 5 → rec S a x1 = some z → Ct l yX5_part w_X5_part (RM_X5_part d) G S [.ref a, .int x1] none z 0 0) (hk7 : ∀ (x2 : Int32) (S : ST), k7 x2 S = some z → (gC (S a) = 5) → (∀ b, gC (S0 b) ≠ 0 → gC (S b) = gC (S0 b)) → ∀ (H : Heap) (locs : List Loc), WB G S s H locs → ∀ (ls : Array Slot), lv_has ls 4 [(0, .ref a), (1, .int x1), (2, .int x2)] → W p l e (RM_X5_sum d) s m args below meth c H locs 0 0 (QR G below args s none S0 z) (F0 m 7 ls [])) (hf : f_X5_sum_38 fu rec k7 S a x1 x2 = some z) : (gC (S a) = 5) → (∀ b, gC (S0 b) ≠ 0 → gC (S b) = gC (S0 b)) → ∀ (H : Heap) (locs : List Loc), WB G S s H locs → ∀ (ls : Array Slot), lv_has ls 4 [(0, .ref a), (1, .int x1), (2, .int x2)] → W p l e (RM_X5_sum d) s m args below meth c H locs 0 0 (QR G below args s none S0 z) (F0 m 38 ls []) := by
  intro ha hK0 H locs hW ls hl
  have hx := hM.1
  have hb := hM.2.1
  refine lv_aload_n hx hb dX5_sum_38 rfl (lv_at hl 0 rfl) ?_
  obtain ⟨q1, hq1, hf⟩ := bd_elim hf
  refine b_get hM (hW.at_ a) 4 0 ha rfl rfl (by decide) wi_X5 (wgm fk_RX5_28) (x := .ref q1) (by show va_rf _ = _; rw [hq1]; rfl) dX5_sum_39 ?_
  obtain ⟨h2, hf⟩ := ck_elim hf
  have h2 := of_decide_eq_true h2
  refine lv_bipush (v := (43 : Int32)) hx hb dX5_sum_42 (by decide) ?_
  obtain ⟨r3, hr3, hf⟩ := bd_elim hf
  refine s_callVi [.int (43 : Int32)] [] hM hml hl.1 hW h2 rfl (by decide) (Ct_rd (c_X8_isAt l G fu _ q1 (S q1) _ h2 hr3)) (cwV 1 hM.2.2.2.1 (gV mk_RX5_71 im_X8_isAt se_X8_isAt it_RX8 cd_X8_isAt) rfl rfl rfl (by decide +kernel) ⟨by show 0 + 1 ≤ 5 * d + 4; omega, by show 8 + (2 + 11) + 0 ≤ 113 * d + 87; omega⟩) rfl rfl (Nat.le_of_ble_eq_true rfl) ⟨Nat.zero_le _, Nat.zero_le _⟩ dX5_sum_44 (fun H locs hW hk => ?_)
  refine lv_if_eq (tgt := 55) hx hb dX5_sum_47 (by decide) (fun c4 => ?_) (fun c4 => ?_)
  · have hf := if_t c4 hf
    refine lv_bipush (v := (-10 : Int32)) hx hb dX5_sum_55 (by decide) ?_
    exact t_X5_sum_57 (fu := fu) hM hml hr hlk hrec hk7 hf ha hK0 _ _ hW _ (lv_sub hl [0, 1, 2] rfl)
  · have hf := if_f c4 hf
    refine lv_bipush (v := (-9 : Int32)) hx hb dX5_sum_50 (by decide) ?_
    refine lv_goto (tgt := 57) hx hb dX5_sum_52 (by decide) ?_
    exact t_X5_sum_57 (fu := fu) hM hml hr hlk hrec hk7 hf ha hK0 _ _ hW _ (lv_sub hl [0, 1, 2] rfl)
noncomputable def f_X5_sum_7s (fu : Nat) (rec : ST → Nat → Int32 → Option (ST))  (k7 : Int32 → ST → Option (ST)) (a : Nat) (x1 : Int32) (x2 : Int32) (S : ST) : Option (ST) :=
  if (1000 : Int32) ≤ x2 then
    (some S)
  else
    (bd (gR (S a) 0) fun q2 =>
    ck (decide (gC (S q2) = 8)) <|
    bd (f_X8_isAt fu (S q2) (43 : Int32)) fun r4 =>
    if r4 = 0 then
      (bd (gR (S a) 0) fun q6 =>
      ck (decide (gC (S q6) = 8)) <|
      bd (f_X8_isAt fu (S q6) (45 : Int32)) fun r8 =>
      if r8 = 0 then
        (some S)
      else
        (f_X5_sum_38 fu rec k7 S a x1 x2))
    else
      (f_X5_sum_38 fu rec k7 S a x1 x2))
noncomputable def f_X5_sum_7 (fu n : Nat) (rec : ST → Nat → Int32 → Option (ST))  (a : Nat) (x1 : Int32) : Int32 → ST → Option (ST) :=
  lq_2 (fun k7 => f_X5_sum_7s fu rec  k7  a x1) n
set_option maxHeartbeats 4000000 in
set_option maxRecDepth 100000 in
theorem t_X5_sum_7s {G : GG} {p : Program} {l : Launch} {e : Env} {s : State} {m : MethodId} {args : Array Value} {below : List Frame} {meth : Method} {c : Code} {S0 : ST} {fu : Nat} {z : ST} {a : Nat} {d : Nat} {rec : ST → Nat → Int32 → Option (ST)}  {k7 : Int32 → ST → Option (ST)} {x1 : Int32} (hM : MC G p s m args c cX5_sum w_X5_sum RX5) (hml : c.maxLocals = 4) (hr : meth.sig.returnType = none) (hlk : meth.locks = false) (hrec : ∀ (S : ST) (a : Nat) (x1 : Int32) (z : ST), gC (S a) = 5 → rec S a x1 = some z → Ct l yX5_part w_X5_part (RM_X5_part d) G S [.ref a, .int x1] none z 0 0)  (hk7 : ∀ (x2 : Int32) (S : ST), k7 x2 S = some z → (gC (S a) = 5) → (∀ b, gC (S0 b) ≠ 0 → gC (S b) = gC (S0 b)) → ∀ (H : Heap) (locs : List Loc), WB G S s H locs → ∀ (ls : Array Slot), lv_has ls 4 [(0, .ref a), (1, .int x1), (2, .int x2)] → W p l e (RM_X5_sum d) s m args below meth c H locs 0 0 (QR G below args s none S0 z) (F0 m 7 ls [])) : ∀ (x2 : Int32) (S : ST), f_X5_sum_7s fu rec  k7  a x1 x2 S = some z → (gC (S a) = 5) → (∀ b, gC (S0 b) ≠ 0 → gC (S b) = gC (S0 b)) → ∀ (H : Heap) (locs : List Loc), WB G S s H locs → ∀ (ls : Array Slot), lv_has ls 4 [(0, .ref a), (1, .int x1), (2, .int x2)] → W p l e (RM_X5_sum d) s m args below meth c H locs 0 0 (QR G below args s none S0 z) (F0 m 7 ls []) := by
  intro x2 S hf ha hK0 H locs hW ls hl
  have hx := hM.1
  have hb := hM.2.1
  refine lv_iload_n hx hb dX5_sum_7 rfl (lv_at hl 2 rfl) ?_
  refine lv_sipush (v := (1000 : Int32)) hx hb dX5_sum_8 (by decide) ?_
  refine lv_icmp_ge (tgt := 81) hx hb dX5_sum_11 (by decide) (fun c1 => ?_) (fun c1 => ?_)
  · have hf := if_t c1 hf
    cases hf
    exact W.vret hx hb hr (b_ret0 hW hK0 _) hW.2.2.2 dX5_sum_81 hlk
  · have hf := if_f c1 hf
    refine lv_aload_n hx hb dX5_sum_14 rfl (lv_at hl 0 rfl) ?_
    obtain ⟨q2, hq2, hf⟩ := bd_elim hf
    refine b_get hM (hW.at_ a) 4 0 ha rfl rfl (by decide) wi_X5 (wgm fk_RX5_28) (x := .ref q2) (by show va_rf _ = _; rw [hq2]; rfl) dX5_sum_15 ?_
    obtain ⟨h3, hf⟩ := ck_elim hf
    have h3 := of_decide_eq_true h3
    refine lv_bipush (v := (43 : Int32)) hx hb dX5_sum_18 (by decide) ?_
    obtain ⟨r4, hr4, hf⟩ := bd_elim hf
    refine s_callVi [.int (43 : Int32)] [] hM hml hl.1 hW h3 rfl (by decide) (Ct_rd (c_X8_isAt l G fu _ q2 (S q2) _ h3 hr4)) (cwV 1 hM.2.2.2.1 (gV mk_RX5_71 im_X8_isAt se_X8_isAt it_RX8 cd_X8_isAt) rfl rfl rfl (by decide +kernel) ⟨by show 0 + 1 ≤ 5 * d + 4; omega, by show 8 + (2 + 11) + 0 ≤ 113 * d + 87; omega⟩) rfl rfl (Nat.le_of_ble_eq_true rfl) ⟨Nat.zero_le _, Nat.zero_le _⟩ dX5_sum_20 (fun H locs hW hk => ?_)
    refine lv_if_ne (tgt := 38) hx hb dX5_sum_23 (by decide) (fun c5 => ?_) (fun c5 => ?_)
    · have hf := if_f c5 hf
      exact t_X5_sum_38 (fu := fu) hM hml hr hlk hrec hk7 hf ha hK0 _ _ hW _ (lv_sub hl [0, 1, 2] rfl)
    · have hf := if_t c5 hf
      refine lv_aload_n hx hb dX5_sum_26 rfl (lv_at hl 0 rfl) ?_
      obtain ⟨q6, hq6, hf⟩ := bd_elim hf
      refine b_get hM (hW.at_ a) 4 0 ha rfl rfl (by decide) wi_X5 (wgm fk_RX5_28) (x := .ref q6) (by show va_rf _ = _; rw [hq6]; rfl) dX5_sum_27 ?_
      obtain ⟨h7, hf⟩ := ck_elim hf
      have h7 := of_decide_eq_true h7
      refine lv_bipush (v := (45 : Int32)) hx hb dX5_sum_30 (by decide) ?_
      obtain ⟨r8, hr8, hf⟩ := bd_elim hf
      refine s_callVi [.int (45 : Int32)] [] hM hml hl.1 hW h7 rfl (by decide) (Ct_rd (c_X8_isAt l G fu _ q6 (S q6) _ h7 hr8)) (cwV 1 hM.2.2.2.1 (gV mk_RX5_71 im_X8_isAt se_X8_isAt it_RX8 cd_X8_isAt) rfl rfl rfl (by decide +kernel) ⟨by show 0 + 1 ≤ 5 * d + 4; omega, by show 8 + (2 + 11) + 0 ≤ 113 * d + 87; omega⟩) rfl rfl (Nat.le_of_ble_eq_true rfl) ⟨Nat.zero_le _, Nat.zero_le _⟩ dX5_sum_32 (fun H locs hW hk => ?_)
      refine lv_if_eq (tgt := 81) hx hb dX5_sum_35 (by decide) (fun c9 => ?_) (fun c9 => ?_)
      · have hf := if_t c9 hf
        cases hf
        exact W.vret hx hb hr (b_ret0 hW hK0 _) hW.2.2.2 dX5_sum_81 hlk
      · have hf := if_f c9 hf
        exact t_X5_sum_38 (fu := fu) hM hml hr hlk hrec hk7 hf ha hK0 _ _ hW _ (lv_sub hl [0, 1, 2] rfl)
theorem t_X5_sum_7 {G : GG} {p : Program} {l : Launch} {e : Env} {s : State} {m : MethodId} {args : Array Value} {below : List Frame} {meth : Method} {c : Code} {S0 : ST} {fu : Nat} {z : ST} {a : Nat} {d : Nat} {rec : ST → Nat → Int32 → Option (ST)}  {x1 : Int32} (hM : MC G p s m args c cX5_sum w_X5_sum RX5) (hml : c.maxLocals = 4) (hr : meth.sig.returnType = none) (hlk : meth.locks = false) (hrec : ∀ (S : ST) (a : Nat) (x1 : Int32) (z : ST), gC (S a) = 5 → rec S a x1 = some z → Ct l yX5_part w_X5_part (RM_X5_part d) G S [.ref a, .int x1] none z 0 0)  : ∀ {n : Nat} (x2 : Int32) (S : ST), f_X5_sum_7 fu n rec   a x1 x2 S = some z → (gC (S a) = 5) → (∀ b, gC (S0 b) ≠ 0 → gC (S b) = gC (S0 b)) → ∀ (H : Heap) (locs : List Loc), WB G S s H locs → ∀ (ls : Array Slot), lv_has ls 4 [(0, .ref a), (1, .int x1), (2, .int x2)] → W p l e (RM_X5_sum d) s m args below meth c H locs 0 0 (QR G below args s none S0 z) (F0 m 7 ls []) := by
  intro n
  induction n with
  | zero => intro x2 S hf; cases hf
  | succ n ih => intro x2 S hf; exact t_X5_sum_7s (fu := fu) hM hml hr hlk hrec (k7 := f_X5_sum_7 fu n rec   a x1) ih _ _ hf
noncomputable def f_X5_sum_0 (fu : Nat) (rec : ST → Nat → Int32 → Option (ST))  (S : ST) (a : Nat) (x1 : Int32) : Option (ST) :=
  bd (f_X5_product fu rec S a x1) fun S2 =>
  f_X5_sum_7 fu fu rec a x1 (0 : Int32) S2
set_option maxHeartbeats 4000000 in
set_option maxRecDepth 100000 in
theorem t_X5_sum_0 {G : GG} {p : Program} {l : Launch} {e : Env} {s : State} {m : MethodId} {args : Array Value} {below : List Frame} {meth : Method} {c : Code} {S0 : ST} {fu : Nat} {z : ST} {a : Nat} {d : Nat} {rec : ST → Nat → Int32 → Option (ST)}  {S : ST} {x1 : Int32} (hM : MC G p s m args c cX5_sum w_X5_sum RX5) (hml : c.maxLocals = 4) (hr : meth.sig.returnType = none) (hlk : meth.locks = false) (hrec : ∀ (S : ST) (a : Nat) (x1 : Int32) (z : ST), gC (S a) = 5 → rec S a x1 = some z → Ct l yX5_part w_X5_part (RM_X5_part d) G S [.ref a, .int x1] none z 0 0)  (hf : f_X5_sum_0 fu rec  S a x1 = some z) : (gC (S a) = 5) → (∀ b, gC (S0 b) ≠ 0 → gC (S b) = gC (S0 b)) → ∀ (H : Heap) (locs : List Loc), WB G S s H locs → ∀ (ls : Array Slot), lv_has ls 4 [(0, .ref a), (1, .int x1)] → W p l e (RM_X5_sum d) s m args below meth c H locs 0 0 (QR G below args s none S0 z) (F0 m 0 ls []) := by
  intro ha hK0 H locs hW ls hl
  have hx := hM.1
  have hb := hM.2.1
  refine lv_aload_n hx hb dX5_sum_0 rfl (lv_at hl 0 rfl) ?_
  refine lv_iload_n hx hb dX5_sum_1 rfl (lv_at hl 1 rfl) ?_
  obtain ⟨S2, hr1, hf⟩ := bd_elim hf
  refine s_callVv [.int x1] [] hM hml hl.1 hW ha rfl (by decide) (c_X5_product l G fu hrec _ a _ ha hr1) (cwV 1 hM.2.2.2.1 (gV mk_RX5_74 im_X5_product se_X5_product it_RX5 cd_X5_product) rfl rfl rfl (by decide +kernel) ⟨by show (5 * d + 3) + 1 ≤ 5 * d + 4; omega, by show 8 + (3 + 11) + (113 * d + 65) ≤ 113 * d + 87; omega⟩) rfl rfl (Nat.le_of_ble_eq_true rfl) ⟨Nat.zero_le _, Nat.zero_le _⟩ dX5_sum_2 (fun H locs hW hk => ?_)
  have ha := keep1 hk ha
  have hK0 := keep_tr hK0 hk
  refine lv_iconst (v := (0 : Int32)) hx hb dX5_sum_5 (by decide) ?_
  refine lv_istore_n (lv' := [(2, .int (0 : Int32)), (0, .ref a), (1, .int x1)]) hx hb dX5_sum_6 rfl hl (by decide) rfl (fun ls hl => ?_)
  exact t_X5_sum_7 (fu := fu) hM hml hr hlk hrec _ _ hf ha hK0 _ _ hW _ (lv_sub hl [1, 2, 0] rfl)
noncomputable def f_X5_sum (fu : Nat) (rec : ST → Nat → Int32 → Option (ST)) (S : ST) (a : Nat) (x1 : Int32) : Option (ST) := f_X5_sum_0 fu rec S a x1
set_option maxHeartbeats 4000000 in
set_option maxRecDepth 100000 in
theorem c_X5_sum (l : Launch) (G : GG) (fu : Nat) {d : Nat} {rec : ST → Nat → Int32 → Option (ST)} (hrec : ∀ (S : ST) (a : Nat) (x1 : Int32) (z : ST), gC (S a) = 5 → rec S a x1 = some z → Ct l yX5_part w_X5_part (RM_X5_part d) G S [.ref a, .int x1] none z 0 0) (S : ST) (a : Nat) (x1 : Int32) {z : ST} (ha : gC (S a) = 5) (hf : f_X5_sum fu rec S a x1 = some z) : Ct l yX5_sum w_X5_sum (RM_X5_sum d) G S [.ref a, .int x1] none z 0 0 := by
  refine Met.ofW (cc := cX5_sum) (maxL := 4) (ret := none) (by decide) rfl ?_
  intro p e s m args below meth c s₁ B hml hv
  obtain ⟨rfl, hB, hK, hz⟩ := hv
  have hM : MC G p s m _ c cX5_sum w_X5_sum RX5 := ⟨B.exec, B.bytes, findClass_of_methodNamed B.named, atoms_spec (ws := w_X5_sum) B.pre, hK, hz⟩
  have hW : WB G S s s.heap [] := ⟨hB, va_S.rf⟩
  have hl := lv_entry ([.ref a, .int x1]) (n := 4) (Nat.le_of_ble_eq_true rfl)
  rw [lg_entry_eq]
  generalize (lg_sl ([.ref a, .int x1]) ++ List.replicate (4 - (lg_sl ([.ref a, .int x1])).length) Slot.unset).toArray = ls at hl ⊢
  have hl : lv_has ls 4 [(0, .ref a), (1, .int x1)] := hl
  exact t_X5_sum_0 (fu := fu) hM hml B.returns B.notSynchronized hrec hf ha (fun _ _ => rfl) _ _ hW _ (lv_sub hl [0, 1] rfl)
noncomputable def f_X5_test_48 (fu : Nat) (rec : ST → Nat → Int32 → Option (ST))  (S : ST) (a : Nat) (x1 : Int32) (t0 : Int32) : Option (ST) :=
  bd (gR (S a) 0) fun q1 =>
  ck (decide (gC (S q1) = 8)) <|
  bd (f_X8_step fu (S q1)) fun v4 =>
  nm (st S q1 v4) fun Sv4 =>
  bd (f_X5_sum fu rec Sv4 a x1) fun S6 =>
  bd (f_X5_put fu (S6 a) t0) fun v8 =>
  nm (st S6 a v8) fun Sv8 =>
  some Sv8
set_option maxHeartbeats 4000000 in
set_option maxRecDepth 100000 in
theorem t_X5_test_48 {G : GG} {p : Program} {l : Launch} {e : Env} {s : State} {m : MethodId} {args : Array Value} {below : List Frame} {meth : Method} {c : Code} {S0 : ST} {fu : Nat} {z : ST} {a : Nat} {d : Nat} {rec : ST → Nat → Int32 → Option (ST)}  {S : ST} {x1 : Int32} {t0 : Int32} (hM : MC G p s m args c cX5_test w_X5_test RX5) (hml : c.maxLocals = 3) (hr : meth.sig.returnType = none) (hlk : meth.locks = false) (hrec : ∀ (S : ST) (a : Nat) (x1 : Int32) (z : ST), gC (S a) = 5 → rec S a x1 = some z → Ct l yX5_part w_X5_part (RM_X5_part d) G S [.ref a, .int x1] none z 0 0)  (hf : f_X5_test_48 fu rec  S a x1 t0 = some z) : (gC (S a) = 5) → (∀ b, gC (S0 b) ≠ 0 → gC (S b) = gC (S0 b)) → ∀ (H : Heap) (locs : List Loc), WB G S s H locs → ∀ (ls : Array Slot), lv_has ls 3 [(0, .ref a), (1, .int x1)] → W p l e (RM_X5_test d) s m args below meth c H locs 0 0 (QR G below args s none S0 z) (F0 m 48 ls [.int t0]) := by
  intro ha hK0 H locs hW ls hl
  have hx := hM.1
  have hb := hM.2.1
  refine lv_istore_n (lv' := [(2, .int t0), (0, .ref a), (1, .int x1)]) hx hb dX5_test_48 rfl hl (by decide) rfl (fun ls hl => ?_)
  refine lv_aload_n hx hb dX5_test_49 rfl (lv_at hl 1 rfl) ?_
  obtain ⟨q1, hq1, hf⟩ := bd_elim hf
  refine b_get hM (hW.at_ a) 4 0 ha rfl rfl (by decide) wi_X5 (wgm fk_RX5_28) (x := .ref q1) (by show va_rf _ = _; rw [hq1]; rfl) dX5_test_50 ?_
  obtain ⟨h2, hf⟩ := ck_elim hf
  have h2 := of_decide_eq_true h2
  obtain ⟨v4, hr3, hf⟩ := bd_elim hf
  refine s_callNv [] [] hM hml hl.1 hW h2 rfl (by decide) (Ct_self (c_X8_step l G fu _ q1 (S q1) h2 hr3)) (cwV 0 hM.2.2.2.1 (gV mk_RX5_62 im_X8_step se_X8_step it_RX8 cd_X8_step) rfl rfl rfl (by decide +kernel) ⟨by show 0 + 1 ≤ 5 * d + 5; omega, by show 8 + (1 + 11) + 0 ≤ 113 * d + 110; omega⟩) rfl rfl (Nat.le_of_ble_eq_true rfl) ⟨Nat.zero_le _, Nat.zero_le _⟩ dX5_test_53 (fun Sv4 ev4 hk H locs hW => ?_)
  have hf := nm_at ev4 hf
  have ha := keep1 hk ha
  have h2 := keep1 hk h2
  have hK0 := keep_tr hK0 hk
  refine lv_aload_n hx hb dX5_test_56 rfl (lv_at hl 1 rfl) ?_
  refine lv_iload_n hx hb dX5_test_57 rfl (lv_at hl 2 rfl) ?_
  obtain ⟨S6, hr5, hf⟩ := bd_elim hf
  refine s_callVv [.int x1] [] hM hml hl.1 hW ha rfl (by decide) (c_X5_sum l G fu hrec _ a _ ha hr5) (cwV 1 hM.2.2.2.1 (gV mk_RX5_68 im_X5_sum se_X5_sum it_RX5 cd_X5_sum) rfl rfl rfl (by decide +kernel) ⟨by show (5 * d + 4) + 1 ≤ 5 * d + 5; omega, by show 8 + (4 + 11) + (113 * d + 87) ≤ 113 * d + 110; omega⟩) rfl rfl (Nat.le_of_ble_eq_true rfl) ⟨Nat.zero_le _, Nat.zero_le _⟩ dX5_test_58 (fun H locs hW hk => ?_)
  have ha := keep1 hk ha
  have h2 := keep1 hk h2
  have hK0 := keep_tr hK0 hk
  refine lv_aload_n hx hb dX5_test_61 rfl (lv_at hl 1 rfl) ?_
  refine lv_iload_n hx hb dX5_test_62 rfl (lv_at hl 0 rfl) ?_
  obtain ⟨v8, hr7, hf⟩ := bd_elim hf
  refine s_callNv [.int t0] [] hM hml hl.1 hW ha rfl (by decide) (Ct_self (c_X5_put l G fu _ a (S6 a) _ ha hr7)) (cwV 1 hM.2.2.2.1 (gV mk_RX5_65 im_X5_put se_X5_put it_RX5 cd_X5_put) rfl rfl rfl (by decide +kernel) ⟨by show 0 + 1 ≤ 5 * d + 5; omega, by show 8 + (2 + 11) + 0 ≤ 113 * d + 110; omega⟩) rfl rfl (Nat.le_of_ble_eq_true rfl) ⟨Nat.zero_le _, Nat.zero_le _⟩ dX5_test_63 (fun Sv8 ev8 hk H locs hW => ?_)
  have hf := nm_at ev8 hf
  have ha := keep1 hk ha
  have h2 := keep1 hk h2
  have hK0 := keep_tr hK0 hk
  cases hf
  exact W.vret hx hb hr (b_ret0 hW hK0 _) hW.2.2.2 dX5_test_66 hlk
noncomputable def f_X5_test_29 (fu : Nat) (rec : ST → Nat → Int32 → Option (ST))  (S : ST) (a : Nat) (x1 : Int32) : Option (ST) :=
  bd (gR (S a) 0) fun q1 =>
  ck (decide (gC (S q1) = 8)) <|
  bd (f_X8_isAt fu (S q1) (60 : Int32)) fun r3 =>
  if r3 = 0 then
    (f_X5_test_48 fu rec S a x1 (-8 : Int32))
  else
    (f_X5_test_48 fu rec S a x1 (-7 : Int32))
set_option maxHeartbeats 4000000 in
set_option maxRecDepth 100000 in
theorem t_X5_test_29 {G : GG} {p : Program} {l : Launch} {e : Env} {s : State} {m : MethodId} {args : Array Value} {below : List Frame} {meth : Method} {c : Code} {S0 : ST} {fu : Nat} {z : ST} {a : Nat} {d : Nat} {rec : ST → Nat → Int32 → Option (ST)}  {S : ST} {x1 : Int32} (hM : MC G p s m args c cX5_test w_X5_test RX5) (hml : c.maxLocals = 3) (hr : meth.sig.returnType = none) (hlk : meth.locks = false) (hrec : ∀ (S : ST) (a : Nat) (x1 : Int32) (z : ST), gC (S a) = 5 → rec S a x1 = some z → Ct l yX5_part w_X5_part (RM_X5_part d) G S [.ref a, .int x1] none z 0 0)  (hf : f_X5_test_29 fu rec  S a x1 = some z) : (gC (S a) = 5) → (∀ b, gC (S0 b) ≠ 0 → gC (S b) = gC (S0 b)) → ∀ (H : Heap) (locs : List Loc), WB G S s H locs → ∀ (ls : Array Slot), lv_has ls 3 [(0, .ref a), (1, .int x1)] → W p l e (RM_X5_test d) s m args below meth c H locs 0 0 (QR G below args s none S0 z) (F0 m 29 ls []) := by
  intro ha hK0 H locs hW ls hl
  have hx := hM.1
  have hb := hM.2.1
  refine lv_aload_n hx hb dX5_test_29 rfl (lv_at hl 0 rfl) ?_
  obtain ⟨q1, hq1, hf⟩ := bd_elim hf
  refine b_get hM (hW.at_ a) 4 0 ha rfl rfl (by decide) wi_X5 (wgm fk_RX5_28) (x := .ref q1) (by show va_rf _ = _; rw [hq1]; rfl) dX5_test_30 ?_
  obtain ⟨h2, hf⟩ := ck_elim hf
  have h2 := of_decide_eq_true h2
  refine lv_bipush (v := (60 : Int32)) hx hb dX5_test_33 (by decide) ?_
  obtain ⟨r3, hr3, hf⟩ := bd_elim hf
  refine s_callVi [.int (60 : Int32)] [] hM hml hl.1 hW h2 rfl (by decide) (Ct_rd (c_X8_isAt l G fu _ q1 (S q1) _ h2 hr3)) (cwV 1 hM.2.2.2.1 (gV mk_RX5_71 im_X8_isAt se_X8_isAt it_RX8 cd_X8_isAt) rfl rfl rfl (by decide +kernel) ⟨by show 0 + 1 ≤ 5 * d + 5; omega, by show 8 + (2 + 11) + 0 ≤ 113 * d + 110; omega⟩) rfl rfl (Nat.le_of_ble_eq_true rfl) ⟨Nat.zero_le _, Nat.zero_le _⟩ dX5_test_35 (fun H locs hW hk => ?_)
  refine lv_if_eq (tgt := 46) hx hb dX5_test_38 (by decide) (fun c4 => ?_) (fun c4 => ?_)
  · have hf := if_t c4 hf
    refine lv_bipush (v := (-8 : Int32)) hx hb dX5_test_46 (by decide) ?_
    exact t_X5_test_48 (fu := fu) hM hml hr hlk hrec hf ha hK0 _ _ hW _ (lv_sub hl [0, 1] rfl)
  · have hf := if_f c4 hf
    refine lv_bipush (v := (-7 : Int32)) hx hb dX5_test_41 (by decide) ?_
    refine lv_goto (tgt := 48) hx hb dX5_test_43 (by decide) ?_
    exact t_X5_test_48 (fu := fu) hM hml hr hlk hrec hf ha hK0 _ _ hW _ (lv_sub hl [0, 1] rfl)
noncomputable def f_X5_test_0 (fu : Nat) (rec : ST → Nat → Int32 → Option (ST))  (S : ST) (a : Nat) (x1 : Int32) : Option (ST) :=
  bd (f_X5_sum fu rec S a x1) fun S2 =>
  bd (gR (S2 a) 0) fun q3 =>
  ck (decide (gC (S2 q3) = 8)) <|
  bd (f_X8_isAt fu (S2 q3) (60 : Int32)) fun r5 =>
  if r5 = 0 then
    (bd (gR (S2 a) 0) fun q7 =>
    ck (decide (gC (S2 q7) = 8)) <|
    bd (f_X8_isAt fu (S2 q7) (61 : Int32)) fun r9 =>
    if r9 = 0 then
      (some S2)
    else
      (f_X5_test_29 fu rec S2 a x1))
  else
    (f_X5_test_29 fu rec S2 a x1)
set_option maxHeartbeats 4000000 in
set_option maxRecDepth 100000 in
theorem t_X5_test_0 {G : GG} {p : Program} {l : Launch} {e : Env} {s : State} {m : MethodId} {args : Array Value} {below : List Frame} {meth : Method} {c : Code} {S0 : ST} {fu : Nat} {z : ST} {a : Nat} {d : Nat} {rec : ST → Nat → Int32 → Option (ST)}  {S : ST} {x1 : Int32} (hM : MC G p s m args c cX5_test w_X5_test RX5) (hml : c.maxLocals = 3) (hr : meth.sig.returnType = none) (hlk : meth.locks = false) (hrec : ∀ (S : ST) (a : Nat) (x1 : Int32) (z : ST), gC (S a) = 5 → rec S a x1 = some z → Ct l yX5_part w_X5_part (RM_X5_part d) G S [.ref a, .int x1] none z 0 0)  (hf : f_X5_test_0 fu rec  S a x1 = some z) : (gC (S a) = 5) → (∀ b, gC (S0 b) ≠ 0 → gC (S b) = gC (S0 b)) → ∀ (H : Heap) (locs : List Loc), WB G S s H locs → ∀ (ls : Array Slot), lv_has ls 3 [(0, .ref a), (1, .int x1)] → W p l e (RM_X5_test d) s m args below meth c H locs 0 0 (QR G below args s none S0 z) (F0 m 0 ls []) := by
  intro ha hK0 H locs hW ls hl
  have hx := hM.1
  have hb := hM.2.1
  refine lv_aload_n hx hb dX5_test_0 rfl (lv_at hl 0 rfl) ?_
  refine lv_iload_n hx hb dX5_test_1 rfl (lv_at hl 1 rfl) ?_
  obtain ⟨S2, hr1, hf⟩ := bd_elim hf
  refine s_callVv [.int x1] [] hM hml hl.1 hW ha rfl (by decide) (c_X5_sum l G fu hrec _ a _ ha hr1) (cwV 1 hM.2.2.2.1 (gV mk_RX5_68 im_X5_sum se_X5_sum it_RX5 cd_X5_sum) rfl rfl rfl (by decide +kernel) ⟨by show (5 * d + 4) + 1 ≤ 5 * d + 5; omega, by show 8 + (4 + 11) + (113 * d + 87) ≤ 113 * d + 110; omega⟩) rfl rfl (Nat.le_of_ble_eq_true rfl) ⟨Nat.zero_le _, Nat.zero_le _⟩ dX5_test_2 (fun H locs hW hk => ?_)
  have ha := keep1 hk ha
  have hK0 := keep_tr hK0 hk
  refine lv_aload_n hx hb dX5_test_5 rfl (lv_at hl 0 rfl) ?_
  obtain ⟨q3, hq3, hf⟩ := bd_elim hf
  refine b_get hM (hW.at_ a) 4 0 ha rfl rfl (by decide) wi_X5 (wgm fk_RX5_28) (x := .ref q3) (by show va_rf _ = _; rw [hq3]; rfl) dX5_test_6 ?_
  obtain ⟨h4, hf⟩ := ck_elim hf
  have h4 := of_decide_eq_true h4
  refine lv_bipush (v := (60 : Int32)) hx hb dX5_test_9 (by decide) ?_
  obtain ⟨r5, hr5, hf⟩ := bd_elim hf
  refine s_callVi [.int (60 : Int32)] [] hM hml hl.1 hW h4 rfl (by decide) (Ct_rd (c_X8_isAt l G fu _ q3 (S2 q3) _ h4 hr5)) (cwV 1 hM.2.2.2.1 (gV mk_RX5_71 im_X8_isAt se_X8_isAt it_RX8 cd_X8_isAt) rfl rfl rfl (by decide +kernel) ⟨by show 0 + 1 ≤ 5 * d + 5; omega, by show 8 + (2 + 11) + 0 ≤ 113 * d + 110; omega⟩) rfl rfl (Nat.le_of_ble_eq_true rfl) ⟨Nat.zero_le _, Nat.zero_le _⟩ dX5_test_11 (fun H locs hW hk => ?_)
  refine lv_if_ne (tgt := 29) hx hb dX5_test_14 (by decide) (fun c6 => ?_) (fun c6 => ?_)
  · have hf := if_f c6 hf
    exact t_X5_test_29 (fu := fu) hM hml hr hlk hrec hf ha hK0 _ _ hW _ (lv_sub hl [0, 1] rfl)
  · have hf := if_t c6 hf
    refine lv_aload_n hx hb dX5_test_17 rfl (lv_at hl 0 rfl) ?_
    obtain ⟨q7, hq7, hf⟩ := bd_elim hf
    refine b_get hM (hW.at_ a) 4 0 ha rfl rfl (by decide) wi_X5 (wgm fk_RX5_28) (x := .ref q7) (by show va_rf _ = _; rw [hq7]; rfl) dX5_test_18 ?_
    obtain ⟨h8, hf⟩ := ck_elim hf
    have h8 := of_decide_eq_true h8
    refine lv_bipush (v := (61 : Int32)) hx hb dX5_test_21 (by decide) ?_
    obtain ⟨r9, hr9, hf⟩ := bd_elim hf
    refine s_callVi [.int (61 : Int32)] [] hM hml hl.1 hW h8 rfl (by decide) (Ct_rd (c_X8_isAt l G fu _ q7 (S2 q7) _ h8 hr9)) (cwV 1 hM.2.2.2.1 (gV mk_RX5_71 im_X8_isAt se_X8_isAt it_RX8 cd_X8_isAt) rfl rfl rfl (by decide +kernel) ⟨by show 0 + 1 ≤ 5 * d + 5; omega, by show 8 + (2 + 11) + 0 ≤ 113 * d + 110; omega⟩) rfl rfl (Nat.le_of_ble_eq_true rfl) ⟨Nat.zero_le _, Nat.zero_le _⟩ dX5_test_23 (fun H locs hW hk => ?_)
    refine lv_if_eq (tgt := 66) hx hb dX5_test_26 (by decide) (fun c10 => ?_) (fun c10 => ?_)
    · have hf := if_t c10 hf
      cases hf
      exact W.vret hx hb hr (b_ret0 hW hK0 _) hW.2.2.2 dX5_test_66 hlk
    · have hf := if_f c10 hf
      exact t_X5_test_29 (fu := fu) hM hml hr hlk hrec hf ha hK0 _ _ hW _ (lv_sub hl [0, 1] rfl)
noncomputable def f_X5_test (fu : Nat) (rec : ST → Nat → Int32 → Option (ST)) (S : ST) (a : Nat) (x1 : Int32) : Option (ST) := f_X5_test_0 fu rec S a x1
set_option maxHeartbeats 4000000 in
set_option maxRecDepth 100000 in
theorem c_X5_test (l : Launch) (G : GG) (fu : Nat) {d : Nat} {rec : ST → Nat → Int32 → Option (ST)} (hrec : ∀ (S : ST) (a : Nat) (x1 : Int32) (z : ST), gC (S a) = 5 → rec S a x1 = some z → Ct l yX5_part w_X5_part (RM_X5_part d) G S [.ref a, .int x1] none z 0 0) (S : ST) (a : Nat) (x1 : Int32) {z : ST} (ha : gC (S a) = 5) (hf : f_X5_test fu rec S a x1 = some z) : Ct l yX5_test w_X5_test (RM_X5_test d) G S [.ref a, .int x1] none z 0 0 := by
  refine Met.ofW (cc := cX5_test) (maxL := 3) (ret := none) (by decide) rfl ?_
  intro p e s m args below meth c s₁ B hml hv
  obtain ⟨rfl, hB, hK, hz⟩ := hv
  have hM : MC G p s m _ c cX5_test w_X5_test RX5 := ⟨B.exec, B.bytes, findClass_of_methodNamed B.named, atoms_spec (ws := w_X5_test) B.pre, hK, hz⟩
  have hW : WB G S s s.heap [] := ⟨hB, va_S.rf⟩
  have hl := lv_entry ([.ref a, .int x1]) (n := 3) (Nat.le_of_ble_eq_true rfl)
  rw [lg_entry_eq]
  generalize (lg_sl ([.ref a, .int x1]) ++ List.replicate (3 - (lg_sl ([.ref a, .int x1])).length) Slot.unset).toArray = ls at hl ⊢
  have hl : lv_has ls 3 [(0, .ref a), (1, .int x1)] := hl
  exact t_X5_test_0 (fu := fu) hM hml B.returns B.notSynchronized hrec hf ha (fun _ _ => rfl) _ _ hW _ (lv_sub hl [0, 1] rfl)
noncomputable def f_X5_expression_60 (fu : Nat) (rec : ST → Nat → Int32 → Option (ST)) (k7 : Int32 → ST → Option (ST)) (S : ST) (a : Nat) (x1 : Int32) (x2 : Int32) (t0 : Int32) : Option (ST) :=
  bd (gR (S a) 0) fun q1 =>
  ck (decide (gC (S q1) = 8)) <|
  bd (f_X8_step fu (S q1)) fun v4 =>
  nm (st S q1 v4) fun Sv4 =>
  bd (f_X5_test fu rec Sv4 a x1) fun S6 =>
  bd (f_X5_put fu (S6 a) t0) fun v8 =>
  nm (st S6 a v8) fun Sv8 =>
  nm (x2 + (1 : Int32)) fun y9 =>
  k7 y9 Sv8
set_option maxHeartbeats 4000000 in
set_option maxRecDepth 100000 in
theorem t_X5_expression_60 {G : GG} {p : Program} {l : Launch} {e : Env} {s : State} {m : MethodId} {args : Array Value} {below : List Frame} {meth : Method} {c : Code} {S0 : ST} {fu : Nat} {z : ST} {a : Nat} {d : Nat} {rec : ST → Nat → Int32 → Option (ST)} {k7 : Int32 → ST → Option (ST)} {S : ST} {x1 : Int32} {x2 : Int32} {t0 : Int32} (hM : MC G p s m args c cX5_expression w_X5_expression RX5) (hml : c.maxLocals = 4) (hr : meth.sig.returnType = none) (hlk : meth.locks = false) (hrec : ∀ (S : ST) (a : Nat) (x1 : Int32) (z : ST), gC (S a) = 5 → rec S a x1 = some z → Ct l yX5_part w_X5_part (RM_X5_part d) G S [.ref a, .int x1] none z 0 0) (hk7 : ∀ (x2 : Int32) (S : ST), k7 x2 S = some z → (gC (S a) = 5) → (∀ b, gC (S0 b) ≠ 0 → gC (S b) = gC (S0 b)) → ∀ (H : Heap) (locs : List Loc), WB G S s H locs → ∀ (ls : Array Slot), lv_has ls 4 [(0, .ref a), (1, .int x1), (2, .int x2)] → W p l e (RM_X5_expression d) s m args below meth c H locs 0 0 (QR G below args s none S0 z) (F0 m 7 ls [])) (hf : f_X5_expression_60 fu rec k7 S a x1 x2 t0 = some z) : (gC (S a) = 5) → (∀ b, gC (S0 b) ≠ 0 → gC (S b) = gC (S0 b)) → ∀ (H : Heap) (locs : List Loc), WB G S s H locs → ∀ (ls : Array Slot), lv_has ls 4 [(0, .ref a), (1, .int x1), (2, .int x2)] → W p l e (RM_X5_expression d) s m args below meth c H locs 0 0 (QR G below args s none S0 z) (F0 m 60 ls [.int t0]) := by
  intro ha hK0 H locs hW ls hl
  have hx := hM.1
  have hb := hM.2.1
  refine lv_istore_n (lv' := [(3, .int t0), (0, .ref a), (1, .int x1), (2, .int x2)]) hx hb dX5_expression_60 rfl hl (by decide) rfl (fun ls hl => ?_)
  refine lv_aload_n hx hb dX5_expression_61 rfl (lv_at hl 1 rfl) ?_
  obtain ⟨q1, hq1, hf⟩ := bd_elim hf
  refine b_get hM (hW.at_ a) 4 0 ha rfl rfl (by decide) wi_X5 (wgm fk_RX5_28) (x := .ref q1) (by show va_rf _ = _; rw [hq1]; rfl) dX5_expression_62 ?_
  obtain ⟨h2, hf⟩ := ck_elim hf
  have h2 := of_decide_eq_true h2
  obtain ⟨v4, hr3, hf⟩ := bd_elim hf
  refine s_callNv [] [] hM hml hl.1 hW h2 rfl (by decide) (Ct_self (c_X8_step l G fu _ q1 (S q1) h2 hr3)) (cwV 0 hM.2.2.2.1 (gV mk_RX5_62 im_X8_step se_X8_step it_RX8 cd_X8_step) rfl rfl rfl (by decide +kernel) ⟨by show 0 + 1 ≤ 5 * d + 6; omega, by show 8 + (1 + 11) + 0 ≤ 113 * d + 132; omega⟩) rfl rfl (Nat.le_of_ble_eq_true rfl) ⟨Nat.zero_le _, Nat.zero_le _⟩ dX5_expression_65 (fun Sv4 ev4 hk H locs hW => ?_)
  have hf := nm_at ev4 hf
  have ha := keep1 hk ha
  have h2 := keep1 hk h2
  have hK0 := keep_tr hK0 hk
  refine lv_aload_n hx hb dX5_expression_68 rfl (lv_at hl 1 rfl) ?_
  refine lv_iload_n hx hb dX5_expression_69 rfl (lv_at hl 2 rfl) ?_
  obtain ⟨S6, hr5, hf⟩ := bd_elim hf
  refine s_callVv [.int x1] [] hM hml hl.1 hW ha rfl (by decide) (c_X5_test l G fu hrec _ a _ ha hr5) (cwV 1 hM.2.2.2.1 (gV mk_RX5_47 im_X5_test se_X5_test it_RX5 cd_X5_test) rfl rfl rfl (by decide +kernel) ⟨by show (5 * d + 5) + 1 ≤ 5 * d + 6; omega, by show 8 + (3 + 11) + (113 * d + 110) ≤ 113 * d + 132; omega⟩) rfl rfl (Nat.le_of_ble_eq_true rfl) ⟨Nat.zero_le _, Nat.zero_le _⟩ dX5_expression_70 (fun H locs hW hk => ?_)
  have ha := keep1 hk ha
  have h2 := keep1 hk h2
  have hK0 := keep_tr hK0 hk
  refine lv_aload_n hx hb dX5_expression_73 rfl (lv_at hl 1 rfl) ?_
  refine lv_iload_n hx hb dX5_expression_74 rfl (lv_at hl 0 rfl) ?_
  obtain ⟨v8, hr7, hf⟩ := bd_elim hf
  refine s_callNv [.int t0] [] hM hml hl.1 hW ha rfl (by decide) (Ct_self (c_X5_put l G fu _ a (S6 a) _ ha hr7)) (cwV 1 hM.2.2.2.1 (gV mk_RX5_65 im_X5_put se_X5_put it_RX5 cd_X5_put) rfl rfl rfl (by decide +kernel) ⟨by show 0 + 1 ≤ 5 * d + 6; omega, by show 8 + (2 + 11) + 0 ≤ 113 * d + 132; omega⟩) rfl rfl (Nat.le_of_ble_eq_true rfl) ⟨Nat.zero_le _, Nat.zero_le _⟩ dX5_expression_75 (fun Sv8 ev8 hk H locs hW => ?_)
  have hf := nm_at ev8 hf
  have ha := keep1 hk ha
  have h2 := keep1 hk h2
  have hK0 := keep_tr hK0 hk
  obtain ⟨y9, ey9⟩ : ∃ y : Int32, y = x2 + (1 : Int32) := ⟨_, rfl⟩
  have hf := nm_at ey9 hf
  refine lv_iinc (v := y9) (lv' := [(2, .int y9), (3, .int t0), (0, .ref a), (1, .int x1)]) hx hb dX5_expression_78 hl (k := 3) rfl (by rw [ey9]; rfl) (by decide) rfl (fun ls hl => ?_)
  refine lv_goto (tgt := 7) hx hb dX5_expression_81 (by decide) ?_
  exact hk7 _ _ hf ha hK0 _ _ hW _ (lv_sub hl [2, 3, 0] rfl)
noncomputable def f_X5_expression_40 (fu : Nat) (rec : ST → Nat → Int32 → Option (ST)) (k7 : Int32 → ST → Option (ST)) (S : ST) (a : Nat) (x1 : Int32) (x2 : Int32) : Option (ST) :=
  bd (gR (S a) 0) fun q1 =>
  ck (decide (gC (S q1) = 8)) <|
  bd (f_X8_isAt_ fu (S q1) 24) fun r3 =>
  if r3 = 0 then
    (f_X5_expression_60 fu rec k7 S a x1 x2 (-6 : Int32))
  else
    (f_X5_expression_60 fu rec k7 S a x1 x2 (-5 : Int32))
set_option maxHeartbeats 4000000 in
set_option maxRecDepth 100000 in
theorem t_X5_expression_40 {G : GG} {p : Program} {l : Launch} {e : Env} {s : State} {m : MethodId} {args : Array Value} {below : List Frame} {meth : Method} {c : Code} {S0 : ST} {fu : Nat} {z : ST} {a : Nat} {d : Nat} {rec : ST → Nat → Int32 → Option (ST)} {k7 : Int32 → ST → Option (ST)} {S : ST} {x1 : Int32} {x2 : Int32} (hM : MC G p s m args c cX5_expression w_X5_expression RX5) (hml : c.maxLocals = 4) (hr : meth.sig.returnType = none) (hlk : meth.locks = false) (hrec : ∀ (S : ST) (a : Nat) (x1 : Int32) (z : ST), gC (S a) = 5 → rec S a x1 = some z → Ct l yX5_part w_X5_part (RM_X5_part d) G S [.ref a, .int x1] none z 0 0) (hk7 : ∀ (x2 : Int32) (S : ST), k7 x2 S = some z → (gC (S a) = 5) → (∀ b, gC (S0 b) ≠ 0 → gC (S b) = gC (S0 b)) → ∀ (H : Heap) (locs : List Loc), WB G S s H locs → ∀ (ls : Array Slot), lv_has ls 4 [(0, .ref a), (1, .int x1), (2, .int x2)] → W p l e (RM_X5_expression d) s m args below meth c H locs 0 0 (QR G below args s none S0 z) (F0 m 7 ls [])) (hf : f_X5_expression_40 fu rec k7 S a x1 x2 = some z) : (gC (S a) = 5) → (∀ b, gC (S0 b) ≠ 0 → gC (S b) = gC (S0 b)) → ∀ (H : Heap) (locs : List Loc), WB G S s H locs → ∀ (ls : Array Slot), lv_has ls 4 [(0, .ref a), (1, .int x1), (2, .int x2)] → W p l e (RM_X5_expression d) s m args below meth c H locs 0 0 (QR G below args s none S0 z) (F0 m 40 ls []) := by
  intro ha hK0 H locs hW ls hl
  have hx := hM.1
  have hb := hM.2.1
  refine lv_aload_n hx hb dX5_expression_40 rfl (lv_at hl 0 rfl) ?_
  obtain ⟨q1, hq1, hf⟩ := bd_elim hf
  refine b_get hM (hW.at_ a) 4 0 ha rfl rfl (by decide) wi_X5 (wgm fk_RX5_28) (x := .ref q1) (by show va_rf _ = _; rw [hq1]; rfl) dX5_expression_41 ?_
  obtain ⟨h2, hf⟩ := ck_elim hf
  have h2 := of_decide_eq_true h2
  refine k_word hM hW 24 (by decide) (wgm fk_RX5_50) dX5_expression_44 ?_
  obtain ⟨r3, hr3, hf⟩ := bd_elim hf
  refine s_callVi [.ref (kAd G 24)] [] hM hml hl.1 hW h2 rfl (by decide) (Ct_rd (c_X8_isAt_ l G fu _ q1 (S q1) _ h2 (by decide) hr3)) (cwV 1 hM.2.2.2.1 (gV mk_RX5_53 im_X8_isAt_ se_X8_isAt_ it_RX8 cd_X8_isAt_) rfl rfl rfl (by decide +kernel) ⟨by show 0 + 1 ≤ 5 * d + 6; omega, by show 8 + (3 + 11) + 0 ≤ 113 * d + 132; omega⟩) rfl rfl (Nat.le_of_ble_eq_true rfl) ⟨Nat.zero_le _, Nat.zero_le _⟩ dX5_expression_47 (fun H locs hW hk => ?_)
  refine lv_if_eq (tgt := 58) hx hb dX5_expression_50 (by decide) (fun c4 => ?_) (fun c4 => ?_)
  · have hf := if_t c4 hf
    refine lv_bipush (v := (-6 : Int32)) hx hb dX5_expression_58 (by decide) ?_
    exact t_X5_expression_60 (fu := fu) hM hml hr hlk hrec hk7 hf ha hK0 _ _ hW _ (lv_sub hl [0, 1, 2] rfl)
  · have hf := if_f c4 hf
    refine lv_bipush (v := (-5 : Int32)) hx hb dX5_expression_53 (by decide) ?_
    refine lv_goto (tgt := 60) hx hb dX5_expression_55 (by decide) ?_
    exact t_X5_expression_60 (fu := fu) hM hml hr hlk hrec hk7 hf ha hK0 _ _ hW _ (lv_sub hl [0, 1, 2] rfl)
noncomputable def f_X5_expression_7s (fu : Nat) (rec : ST → Nat → Int32 → Option (ST))  (k7 : Int32 → ST → Option (ST)) (a : Nat) (x1 : Int32) (x2 : Int32) (S : ST) : Option (ST) :=
  if (1000 : Int32) ≤ x2 then
    (some S)
  else
    (bd (gR (S a) 0) fun q2 =>
    ck (decide (gC (S q2) = 8)) <|
    bd (f_X8_isAt_ fu (S q2) 24) fun r4 =>
    if r4 = 0 then
      (bd (gR (S a) 0) fun q6 =>
      ck (decide (gC (S q6) = 8)) <|
      bd (f_X8_isAt_ fu (S q6) 25) fun r8 =>
      if r8 = 0 then
        (some S)
      else
        (f_X5_expression_40 fu rec k7 S a x1 x2))
    else
      (f_X5_expression_40 fu rec k7 S a x1 x2))
noncomputable def f_X5_expression_7 (fu n : Nat) (rec : ST → Nat → Int32 → Option (ST))  (a : Nat) (x1 : Int32) : Int32 → ST → Option (ST) :=
  lq_2 (fun k7 => f_X5_expression_7s fu rec  k7  a x1) n
set_option maxHeartbeats 4000000 in
set_option maxRecDepth 100000 in
theorem t_X5_expression_7s {G : GG} {p : Program} {l : Launch} {e : Env} {s : State} {m : MethodId} {args : Array Value} {below : List Frame} {meth : Method} {c : Code} {S0 : ST} {fu : Nat} {z : ST} {a : Nat} {d : Nat} {rec : ST → Nat → Int32 → Option (ST)}  {k7 : Int32 → ST → Option (ST)} {x1 : Int32} (hM : MC G p s m args c cX5_expression w_X5_expression RX5) (hml : c.maxLocals = 4) (hr : meth.sig.returnType = none) (hlk : meth.locks = false) (hrec : ∀ (S : ST) (a : Nat) (x1 : Int32) (z : ST), gC (S a) = 5 → rec S a x1 = some z → Ct l yX5_part w_X5_part (RM_X5_part d) G S [.ref a, .int x1] none z 0 0)  (hk7 : ∀ (x2 : Int32) (S : ST), k7 x2 S = some z → (gC (S a) = 5) → (∀ b, gC (S0 b) ≠ 0 → gC (S b) = gC (S0 b)) → ∀ (H : Heap) (locs : List Loc), WB G S s H locs → ∀ (ls : Array Slot), lv_has ls 4 [(0, .ref a), (1, .int x1), (2, .int x2)] → W p l e (RM_X5_expression d) s m args below meth c H locs 0 0 (QR G below args s none S0 z) (F0 m 7 ls [])) : ∀ (x2 : Int32) (S : ST), f_X5_expression_7s fu rec  k7  a x1 x2 S = some z → (gC (S a) = 5) → (∀ b, gC (S0 b) ≠ 0 → gC (S b) = gC (S0 b)) → ∀ (H : Heap) (locs : List Loc), WB G S s H locs → ∀ (ls : Array Slot), lv_has ls 4 [(0, .ref a), (1, .int x1), (2, .int x2)] → W p l e (RM_X5_expression d) s m args below meth c H locs 0 0 (QR G below args s none S0 z) (F0 m 7 ls []) := by
  intro x2 S hf ha hK0 H locs hW ls hl
  have hx := hM.1
  have hb := hM.2.1
  refine lv_iload_n hx hb dX5_expression_7 rfl (lv_at hl 2 rfl) ?_
  refine lv_sipush (v := (1000 : Int32)) hx hb dX5_expression_8 (by decide) ?_
  refine lv_icmp_ge (tgt := 84) hx hb dX5_expression_11 (by decide) (fun c1 => ?_) (fun c1 => ?_)
  · have hf := if_t c1 hf
    cases hf
    exact W.vret hx hb hr (b_ret0 hW hK0 _) hW.2.2.2 dX5_expression_84 hlk
  · have hf := if_f c1 hf
    refine lv_aload_n hx hb dX5_expression_14 rfl (lv_at hl 0 rfl) ?_
    obtain ⟨q2, hq2, hf⟩ := bd_elim hf
    refine b_get hM (hW.at_ a) 4 0 ha rfl rfl (by decide) wi_X5 (wgm fk_RX5_28) (x := .ref q2) (by show va_rf _ = _; rw [hq2]; rfl) dX5_expression_15 ?_
    obtain ⟨h3, hf⟩ := ck_elim hf
    have h3 := of_decide_eq_true h3
    refine k_word hM hW 24 (by decide) (wgm fk_RX5_50) dX5_expression_18 ?_
    obtain ⟨r4, hr4, hf⟩ := bd_elim hf
    refine s_callVi [.ref (kAd G 24)] [] hM hml hl.1 hW h3 rfl (by decide) (Ct_rd (c_X8_isAt_ l G fu _ q2 (S q2) _ h3 (by decide) hr4)) (cwV 1 hM.2.2.2.1 (gV mk_RX5_53 im_X8_isAt_ se_X8_isAt_ it_RX8 cd_X8_isAt_) rfl rfl rfl (by decide +kernel) ⟨by show 0 + 1 ≤ 5 * d + 6; omega, by show 8 + (3 + 11) + 0 ≤ 113 * d + 132; omega⟩) rfl rfl (Nat.le_of_ble_eq_true rfl) ⟨Nat.zero_le _, Nat.zero_le _⟩ dX5_expression_21 (fun H locs hW hk => ?_)
    refine lv_if_ne (tgt := 40) hx hb dX5_expression_24 (by decide) (fun c5 => ?_) (fun c5 => ?_)
    · have hf := if_f c5 hf
      exact t_X5_expression_40 (fu := fu) hM hml hr hlk hrec hk7 hf ha hK0 _ _ hW _ (lv_sub hl [0, 1, 2] rfl)
    · have hf := if_t c5 hf
      refine lv_aload_n hx hb dX5_expression_27 rfl (lv_at hl 0 rfl) ?_
      obtain ⟨q6, hq6, hf⟩ := bd_elim hf
      refine b_get hM (hW.at_ a) 4 0 ha rfl rfl (by decide) wi_X5 (wgm fk_RX5_28) (x := .ref q6) (by show va_rf _ = _; rw [hq6]; rfl) dX5_expression_28 ?_
      obtain ⟨h7, hf⟩ := ck_elim hf
      have h7 := of_decide_eq_true h7
      refine k_word hM hW 25 (by decide) (wgm fk_RX5_59) dX5_expression_31 ?_
      obtain ⟨r8, hr8, hf⟩ := bd_elim hf
      refine s_callVi [.ref (kAd G 25)] [] hM hml hl.1 hW h7 rfl (by decide) (Ct_rd (c_X8_isAt_ l G fu _ q6 (S q6) _ h7 (by decide) hr8)) (cwV 1 hM.2.2.2.1 (gV mk_RX5_53 im_X8_isAt_ se_X8_isAt_ it_RX8 cd_X8_isAt_) rfl rfl rfl (by decide +kernel) ⟨by show 0 + 1 ≤ 5 * d + 6; omega, by show 8 + (3 + 11) + 0 ≤ 113 * d + 132; omega⟩) rfl rfl (Nat.le_of_ble_eq_true rfl) ⟨Nat.zero_le _, Nat.zero_le _⟩ dX5_expression_34 (fun H locs hW hk => ?_)
      refine lv_if_eq (tgt := 84) hx hb dX5_expression_37 (by decide) (fun c9 => ?_) (fun c9 => ?_)
      · have hf := if_t c9 hf
        cases hf
        exact W.vret hx hb hr (b_ret0 hW hK0 _) hW.2.2.2 dX5_expression_84 hlk
      · have hf := if_f c9 hf
        exact t_X5_expression_40 (fu := fu) hM hml hr hlk hrec hk7 hf ha hK0 _ _ hW _ (lv_sub hl [0, 1, 2] rfl)
theorem t_X5_expression_7 {G : GG} {p : Program} {l : Launch} {e : Env} {s : State} {m : MethodId} {args : Array Value} {below : List Frame} {meth : Method} {c : Code} {S0 : ST} {fu : Nat} {z : ST} {a : Nat} {d : Nat} {rec : ST → Nat → Int32 → Option (ST)}  {x1 : Int32} (hM : MC G p s m args c cX5_expression w_X5_expression RX5) (hml : c.maxLocals = 4) (hr : meth.sig.returnType = none) (hlk : meth.locks = false) (hrec : ∀ (S : ST) (a : Nat) (x1 : Int32) (z : ST), gC (S a) = 5 → rec S a x1 = some z → Ct l yX5_part w_X5_part (RM_X5_part d) G S [.ref a, .int x1] none z 0 0)  : ∀ {n : Nat} (x2 : Int32) (S : ST), f_X5_expression_7 fu n rec   a x1 x2 S = some z → (gC (S a) = 5) → (∀ b, gC (S0 b) ≠ 0 → gC (S b) = gC (S0 b)) → ∀ (H : Heap) (locs : List Loc), WB G S s H locs → ∀ (ls : Array Slot), lv_has ls 4 [(0, .ref a), (1, .int x1), (2, .int x2)] → W p l e (RM_X5_expression d) s m args below meth c H locs 0 0 (QR G below args s none S0 z) (F0 m 7 ls []) := by
  intro n
  induction n with
  | zero => intro x2 S hf; cases hf
  | succ n ih => intro x2 S hf; exact t_X5_expression_7s (fu := fu) hM hml hr hlk hrec (k7 := f_X5_expression_7 fu n rec   a x1) ih _ _ hf
noncomputable def f_X5_expression_0 (fu : Nat) (rec : ST → Nat → Int32 → Option (ST))  (S : ST) (a : Nat) (x1 : Int32) : Option (ST) :=
  bd (f_X5_test fu rec S a x1) fun S2 =>
  f_X5_expression_7 fu fu rec a x1 (0 : Int32) S2
set_option maxHeartbeats 4000000 in
set_option maxRecDepth 100000 in
theorem t_X5_expression_0 {G : GG} {p : Program} {l : Launch} {e : Env} {s : State} {m : MethodId} {args : Array Value} {below : List Frame} {meth : Method} {c : Code} {S0 : ST} {fu : Nat} {z : ST} {a : Nat} {d : Nat} {rec : ST → Nat → Int32 → Option (ST)}  {S : ST} {x1 : Int32} (hM : MC G p s m args c cX5_expression w_X5_expression RX5) (hml : c.maxLocals = 4) (hr : meth.sig.returnType = none) (hlk : meth.locks = false) (hrec : ∀ (S : ST) (a : Nat) (x1 : Int32) (z : ST), gC (S a) = 5 → rec S a x1 = some z → Ct l yX5_part w_X5_part (RM_X5_part d) G S [.ref a, .int x1] none z 0 0)  (hf : f_X5_expression_0 fu rec  S a x1 = some z) : (gC (S a) = 5) → (∀ b, gC (S0 b) ≠ 0 → gC (S b) = gC (S0 b)) → ∀ (H : Heap) (locs : List Loc), WB G S s H locs → ∀ (ls : Array Slot), lv_has ls 4 [(0, .ref a), (1, .int x1)] → W p l e (RM_X5_expression d) s m args below meth c H locs 0 0 (QR G below args s none S0 z) (F0 m 0 ls []) := by
  intro ha hK0 H locs hW ls hl
  have hx := hM.1
  have hb := hM.2.1
  refine lv_aload_n hx hb dX5_expression_0 rfl (lv_at hl 0 rfl) ?_
  refine lv_iload_n hx hb dX5_expression_1 rfl (lv_at hl 1 rfl) ?_
  obtain ⟨S2, hr1, hf⟩ := bd_elim hf
  refine s_callVv [.int x1] [] hM hml hl.1 hW ha rfl (by decide) (c_X5_test l G fu hrec _ a _ ha hr1) (cwV 1 hM.2.2.2.1 (gV mk_RX5_47 im_X5_test se_X5_test it_RX5 cd_X5_test) rfl rfl rfl (by decide +kernel) ⟨by show (5 * d + 5) + 1 ≤ 5 * d + 6; omega, by show 8 + (3 + 11) + (113 * d + 110) ≤ 113 * d + 132; omega⟩) rfl rfl (Nat.le_of_ble_eq_true rfl) ⟨Nat.zero_le _, Nat.zero_le _⟩ dX5_expression_2 (fun H locs hW hk => ?_)
  have ha := keep1 hk ha
  have hK0 := keep_tr hK0 hk
  refine lv_iconst (v := (0 : Int32)) hx hb dX5_expression_5 (by decide) ?_
  refine lv_istore_n (lv' := [(2, .int (0 : Int32)), (0, .ref a), (1, .int x1)]) hx hb dX5_expression_6 rfl hl (by decide) rfl (fun ls hl => ?_)
  exact t_X5_expression_7 (fu := fu) hM hml hr hlk hrec _ _ hf ha hK0 _ _ hW _ (lv_sub hl [1, 2, 0] rfl)
noncomputable def f_X5_expression (fu : Nat) (rec : ST → Nat → Int32 → Option (ST)) (S : ST) (a : Nat) (x1 : Int32) : Option (ST) := f_X5_expression_0 fu rec S a x1
set_option maxHeartbeats 4000000 in
set_option maxRecDepth 100000 in
theorem c_X5_expression (l : Launch) (G : GG) (fu : Nat) {d : Nat} {rec : ST → Nat → Int32 → Option (ST)} (hrec : ∀ (S : ST) (a : Nat) (x1 : Int32) (z : ST), gC (S a) = 5 → rec S a x1 = some z → Ct l yX5_part w_X5_part (RM_X5_part d) G S [.ref a, .int x1] none z 0 0) (S : ST) (a : Nat) (x1 : Int32) {z : ST} (ha : gC (S a) = 5) (hf : f_X5_expression fu rec S a x1 = some z) : Ct l yX5_expression w_X5_expression (RM_X5_expression d) G S [.ref a, .int x1] none z 0 0 := by
  refine Met.ofW (cc := cX5_expression) (maxL := 4) (ret := none) (by decide) rfl ?_
  intro p e s m args below meth c s₁ B hml hv
  obtain ⟨rfl, hB, hK, hz⟩ := hv
  have hM : MC G p s m _ c cX5_expression w_X5_expression RX5 := ⟨B.exec, B.bytes, findClass_of_methodNamed B.named, atoms_spec (ws := w_X5_expression) B.pre, hK, hz⟩
  have hW : WB G S s s.heap [] := ⟨hB, va_S.rf⟩
  have hl := lv_entry ([.ref a, .int x1]) (n := 4) (Nat.le_of_ble_eq_true rfl)
  rw [lg_entry_eq]
  generalize (lg_sl ([.ref a, .int x1]) ++ List.replicate (4 - (lg_sl ([.ref a, .int x1])).length) Slot.unset).toArray = ls at hl ⊢
  have hl : lv_has ls 4 [(0, .ref a), (1, .int x1)] := hl
  exact t_X5_expression_0 (fu := fu) hM hml B.returns B.notSynchronized hrec hf ha (fun _ _ => rfl) _ _ hW _ (lv_sub hl [0, 1] rfl)
noncomputable def f_X5_part_155 (fu : Nat) (rec : ST → Nat → Int32 → Option (ST))  (S : ST) (a : Nat) (t1 : Int32) : Option (ST) :=
  bd (f_X5_put fu (S a) t1) fun v2 =>
  nm (st S a v2) fun Sv2 =>
  bd (gR (Sv2 a) 0) fun q3 =>
  ck (decide (gC (Sv2 q3) = 8)) <|
  bd (f_X8_step fu (Sv2 q3)) fun v6 =>
  nm (st Sv2 q3 v6) fun Sv6 =>
  some Sv6
set_option maxHeartbeats 4000000 in
set_option maxRecDepth 100000 in
theorem t_X5_part_155 {G : GG} {p : Program} {l : Launch} {e : Env} {s : State} {m : MethodId} {args : Array Value} {below : List Frame} {meth : Method} {c : Code} {S0 : ST} {fu : Nat} {z : ST} {a : Nat} {d : Nat} {rec : ST → Nat → Int32 → Option (ST)}  {S : ST} {t1 : Int32} (hM : MC G p s m args c cX5_part w_X5_part RX5) (hml : c.maxLocals = 4) (hr : meth.sig.returnType = none) (hlk : meth.locks = false) (hrec : ∀ (S : ST) (a : Nat) (x1 : Int32) (z : ST), gC (S a) = 5 → rec S a x1 = some z → Ct l yX5_part w_X5_part (RM_X5_part d) G S [.ref a, .int x1] none z 0 0)  (hf : f_X5_part_155 fu rec  S a t1 = some z) : (gC (S a) = 5) → (∀ b, gC (S0 b) ≠ 0 → gC (S b) = gC (S0 b)) → ∀ (H : Heap) (locs : List Loc), WB G S s H locs → ∀ (ls : Array Slot), lv_has ls 4 [(0, .ref a)] → W p l e (RM_X5_part (d + 1)) s m args below meth c H locs 0 0 (QR G below args s none S0 z) (F0 m 155 ls [.int t1, .ref a]) := by
  intro ha hK0 H locs hW ls hl
  have hx := hM.1
  have hb := hM.2.1
  obtain ⟨v2, hr1, hf⟩ := bd_elim hf
  refine s_callNv [.int t1] [] hM hml hl.1 hW ha rfl (by decide) (Ct_self (c_X5_put l G fu _ a (S a) _ ha hr1)) (cwV 1 hM.2.2.2.1 (gV mk_RX5_65 im_X5_put se_X5_put it_RX5 cd_X5_put) rfl rfl rfl (by decide +kernel) ⟨by show 0 + 1 ≤ 5 * (d + 1) + 2; omega, by show 8 + (2 + 11) + 0 ≤ 113 * (d + 1) + 42; omega⟩) rfl rfl (Nat.le_of_ble_eq_true rfl) ⟨Nat.zero_le _, Nat.zero_le _⟩ dX5_part_155 (fun Sv2 ev2 hk H locs hW => ?_)
  have hf := nm_at ev2 hf
  have ha := keep1 hk ha
  have hK0 := keep_tr hK0 hk
  refine lv_aload_n hx hb dX5_part_158 rfl (lv_at hl 0 rfl) ?_
  obtain ⟨q3, hq3, hf⟩ := bd_elim hf
  refine b_get hM (hW.at_ a) 4 0 ha rfl rfl (by decide) wi_X5 (wgm fk_RX5_28) (x := .ref q3) (by show va_rf _ = _; rw [hq3]; rfl) dX5_part_159 ?_
  obtain ⟨h4, hf⟩ := ck_elim hf
  have h4 := of_decide_eq_true h4
  obtain ⟨v6, hr5, hf⟩ := bd_elim hf
  refine s_callNv [] [] hM hml hl.1 hW h4 rfl (by decide) (Ct_self (c_X8_step l G fu _ q3 (Sv2 q3) h4 hr5)) (cwV 0 hM.2.2.2.1 (gV mk_RX5_62 im_X8_step se_X8_step it_RX8 cd_X8_step) rfl rfl rfl (by decide +kernel) ⟨by show 0 + 1 ≤ 5 * (d + 1) + 2; omega, by show 8 + (1 + 11) + 0 ≤ 113 * (d + 1) + 42; omega⟩) rfl rfl (Nat.le_of_ble_eq_true rfl) ⟨Nat.zero_le _, Nat.zero_le _⟩ dX5_part_162 (fun Sv6 ev6 hk H locs hW => ?_)
  have hf := nm_at ev6 hf
  have ha := keep1 hk ha
  have h4 := keep1 hk h4
  have hK0 := keep_tr hK0 hk
  cases hf
  exact W.vret hx hb hr (b_ret0 hW hK0 _) hW.2.2.2 dX5_part_165 hlk
noncomputable def f_X5_part_57 (fu : Nat) (rec : ST → Nat → Int32 → Option (ST))  (S : ST) (a : Nat) (x1 : Int32) (x2 : Int32) (x3 : Int32) : Option (ST) :=
  if x1 < (5 : Int32) then
    (if x2 = 0 then
      (if x3 = 0 then
        (bd (gR (S a) 0) fun q4 =>
        ck (decide (gC (S q4) = 8)) <|
        bd (f_X8_isNumber fu (S q4)) fun r6 =>
        if r6 = 0 then
          (bd (f_X5_factStep fu S a) fun r8 =>
          f_X5_part_155 fu rec S a r8)
        else
          (bd (gR (S a) 0) fun q9 =>
          ck (decide (gC (S q9) = 8)) <|
          bd (f_X8_number fu (S q9)) fun r11 =>
          f_X5_part_155 fu rec S a r11))
      else
        (bd (gR (S a) 0) fun q12 =>
        ck (decide (gC (S q12) = 8)) <|
        bd (f_X8_step fu (S q12)) fun v15 =>
        nm (st S q12 v15) fun Sv15 =>
        bd (rec Sv15 a (x1 + (1 : Int32))) fun S17 =>
        bd (f_X5_put fu (S17 a) (-4 : Int32)) fun v19 =>
        nm (st S17 a v19) fun Sv19 =>
        some Sv19))
    else
      (bd (gR (S a) 0) fun q20 =>
      ck (decide (gC (S q20) = 8)) <|
      bd (f_X8_step fu (S q20)) fun v23 =>
      nm (st S q20 v23) fun Sv23 =>
      bd (f_X5_expression fu rec Sv23 a (x1 + (1 : Int32))) fun S25 =>
      bd (gR (S25 a) 0) fun q26 =>
      ck (decide (gC (S25 q26) = 8)) <|
      bd (f_X8_need fu (S25 q26) (41 : Int32)) fun v29 =>
      nm (st S25 q26 v29) fun Sv29 =>
      some Sv29))
  else
    (bd (gR (S a) 0) fun q30 =>
    ck (decide (gC (S q30) = 8)) <|
    bd (f_X8_fail fu (S q30) (5 : Int32)) fun v33 =>
    nm (st S q30 v33) fun Sv33 =>
    some Sv33)
set_option maxHeartbeats 4000000 in
set_option maxRecDepth 100000 in
theorem t_X5_part_57 {G : GG} {p : Program} {l : Launch} {e : Env} {s : State} {m : MethodId} {args : Array Value} {below : List Frame} {meth : Method} {c : Code} {S0 : ST} {fu : Nat} {z : ST} {a : Nat} {d : Nat} {rec : ST → Nat → Int32 → Option (ST)}  {S : ST} {x1 : Int32} {x2 : Int32} {x3 : Int32} (hM : MC G p s m args c cX5_part w_X5_part RX5) (hml : c.maxLocals = 4) (hr : meth.sig.returnType = none) (hlk : meth.locks = false) (hrec : ∀ (S : ST) (a : Nat) (x1 : Int32) (z : ST), gC (S a) = 5 → rec S a x1 = some z → Ct l yX5_part w_X5_part (RM_X5_part d) G S [.ref a, .int x1] none z 0 0)  (hf : f_X5_part_57 fu rec  S a x1 x2 x3 = some z) : (gC (S a) = 5) → (∀ b, gC (S0 b) ≠ 0 → gC (S b) = gC (S0 b)) → ∀ (H : Heap) (locs : List Loc), WB G S s H locs → ∀ (ls : Array Slot), lv_has ls 4 [(0, .ref a), (1, .int x1), (2, .int x2), (3, .int x3)] → W p l e (RM_X5_part (d + 1)) s m args below meth c H locs 0 0 (QR G below args s none S0 z) (F0 m 57 ls []) := by
  intro ha hK0 H locs hW ls hl
  have hx := hM.1
  have hb := hM.2.1
  refine lv_iload_n hx hb dX5_part_57 rfl (lv_at hl 1 rfl) ?_
  refine lv_iconst (v := (5 : Int32)) hx hb dX5_part_58 (by decide) ?_
  refine lv_icmp_lt (tgt := 73) hx hb dX5_part_59 (by decide) (fun c1 => ?_) (fun c1 => ?_)
  · have hf := if_t c1 hf
    refine lv_iload_n hx hb dX5_part_73 rfl (lv_at hl 2 rfl) ?_
    refine lv_if_eq (tgt := 103) hx hb dX5_part_74 (by decide) (fun c2 => ?_) (fun c2 => ?_)
    · have hf := if_t c2 hf
      refine lv_iload_n hx hb dX5_part_103 rfl (lv_at hl 3 rfl) ?_
      refine lv_if_eq (tgt := 130) hx hb dX5_part_104 (by decide) (fun c3 => ?_) (fun c3 => ?_)
      · have hf := if_t c3 hf
        refine lv_aload_n hx hb dX5_part_130 rfl (lv_at hl 0 rfl) ?_
        refine lv_aload_n hx hb dX5_part_131 rfl (lv_at hl 0 rfl) ?_
        obtain ⟨q4, hq4, hf⟩ := bd_elim hf
        refine b_get hM (hW.at_ a) 4 0 ha rfl rfl (by decide) wi_X5 (wgm fk_RX5_28) (x := .ref q4) (by show va_rf _ = _; rw [hq4]; rfl) dX5_part_132 ?_
        obtain ⟨h5, hf⟩ := ck_elim hf
        have h5 := of_decide_eq_true h5
        obtain ⟨r6, hr6, hf⟩ := bd_elim hf
        refine s_callVi [] [.ref a] hM hml hl.1 hW h5 rfl (by decide) (Ct_rd (c_X8_isNumber l G fu _ q4 (S q4) h5 hr6)) (cwV 0 hM.2.2.2.1 (gV mk_RX5_83 im_X8_isNumber se_X8_isNumber it_RX8 cd_X8_isNumber) rfl rfl rfl (by decide +kernel) ⟨by show 0 + 1 ≤ 5 * (d + 1) + 2; omega, by show 8 + (1 + 11) + 0 ≤ 113 * (d + 1) + 42; omega⟩) rfl rfl (Nat.le_of_ble_eq_true rfl) ⟨Nat.zero_le _, Nat.zero_le _⟩ dX5_part_135 (fun H locs hW hk => ?_)
        refine lv_if_eq (tgt := 151) hx hb dX5_part_138 (by decide) (fun c7 => ?_) (fun c7 => ?_)
        · have hf := if_t c7 hf
          refine lv_aload_n hx hb dX5_part_151 rfl (lv_at hl 0 rfl) ?_
          obtain ⟨r8, hr8, hf⟩ := bd_elim hf
          refine s_callVi [] [.ref a] hM hml hl.1 hW ha rfl (by decide) (c_X5_factStep l G fu _ a ha hr8) (cwV 0 hM.2.2.2.1 (gV mk_RX5_101 im_X5_factStep se_X5_factStep it_RX5 cd_X5_factStep) rfl rfl rfl (by decide +kernel) ⟨by show 1 + 1 ≤ 5 * (d + 1) + 2; omega, by show 8 + (1 + 11) + 22 ≤ 113 * (d + 1) + 42; omega⟩) rfl rfl (Nat.le_of_ble_eq_true rfl) ⟨Nat.zero_le _, Nat.zero_le _⟩ dX5_part_152 (fun H locs hW hk => ?_)
          exact t_X5_part_155 (fu := fu) hM hml hr hlk hrec hf ha hK0 _ _ hW _ (lv_sub hl [0] rfl)
        · have hf := if_f c7 hf
          refine lv_aload_n hx hb dX5_part_141 rfl (lv_at hl 0 rfl) ?_
          obtain ⟨q9, hq9, hf⟩ := bd_elim hf
          refine b_get hM (hW.at_ a) 4 0 ha rfl rfl (by decide) wi_X5 (wgm fk_RX5_28) (x := .ref q9) (by show va_rf _ = _; rw [hq9]; rfl) dX5_part_142 ?_
          obtain ⟨h10, hf⟩ := ck_elim hf
          have h10 := of_decide_eq_true h10
          obtain ⟨r11, hr11, hf⟩ := bd_elim hf
          refine s_callVi [] [.ref a] hM hml hl.1 hW h10 rfl (by decide) (Ct_rd (c_X8_number l G fu _ q9 (S q9) h10 hr11)) (cwV 0 hM.2.2.2.1 (gV mk_RX5_97 im_X8_number se_X8_number it_RX8 cd_X8_number) rfl rfl rfl (by decide +kernel) ⟨by show 0 + 1 ≤ 5 * (d + 1) + 2; omega, by show 8 + (1 + 11) + 0 ≤ 113 * (d + 1) + 42; omega⟩) rfl rfl (Nat.le_of_ble_eq_true rfl) ⟨Nat.zero_le _, Nat.zero_le _⟩ dX5_part_145 (fun H locs hW hk => ?_)
          refine lv_goto (tgt := 155) hx hb dX5_part_148 (by decide) ?_
          exact t_X5_part_155 (fu := fu) hM hml hr hlk hrec hf ha hK0 _ _ hW _ (lv_sub hl [0] rfl)
      · have hf := if_f c3 hf
        refine lv_aload_n hx hb dX5_part_107 rfl (lv_at hl 0 rfl) ?_
        obtain ⟨q12, hq12, hf⟩ := bd_elim hf
        refine b_get hM (hW.at_ a) 4 0 ha rfl rfl (by decide) wi_X5 (wgm fk_RX5_28) (x := .ref q12) (by show va_rf _ = _; rw [hq12]; rfl) dX5_part_108 ?_
        obtain ⟨h13, hf⟩ := ck_elim hf
        have h13 := of_decide_eq_true h13
        obtain ⟨v15, hr14, hf⟩ := bd_elim hf
        refine s_callNv [] [] hM hml hl.1 hW h13 rfl (by decide) (Ct_self (c_X8_step l G fu _ q12 (S q12) h13 hr14)) (cwV 0 hM.2.2.2.1 (gV mk_RX5_62 im_X8_step se_X8_step it_RX8 cd_X8_step) rfl rfl rfl (by decide +kernel) ⟨by show 0 + 1 ≤ 5 * (d + 1) + 2; omega, by show 8 + (1 + 11) + 0 ≤ 113 * (d + 1) + 42; omega⟩) rfl rfl (Nat.le_of_ble_eq_true rfl) ⟨Nat.zero_le _, Nat.zero_le _⟩ dX5_part_111 (fun Sv15 ev15 hk H locs hW => ?_)
        have hf := nm_at ev15 hf
        have ha := keep1 hk ha
        have h13 := keep1 hk h13
        have hK0 := keep_tr hK0 hk
        refine lv_aload_n hx hb dX5_part_114 rfl (lv_at hl 0 rfl) ?_
        refine lv_iload_n hx hb dX5_part_115 rfl (lv_at hl 1 rfl) ?_
        refine lv_iconst (v := (1 : Int32)) hx hb dX5_part_116 (by decide) ?_
        refine lv_iadd hx hb dX5_part_117 ?_
        obtain ⟨S17, hr16, hf⟩ := bd_elim hf
        refine s_callVv [.int (x1 + (1 : Int32))] [] hM hml hl.1 hW ha rfl (by decide) (hrec _ a _ _ ha hr16) (cwV 1 hM.2.2.2.1 (gV mk_RX5_77 im_X5_part se_X5_part it_RX5 cd_X5_part) rfl rfl rfl (by decide +kernel) ⟨by show (5 * d + 2) + 1 ≤ 5 * (d + 1) + 2; omega, by show 8 + (4 + 11) + (113 * d + 42) ≤ 113 * (d + 1) + 42; omega⟩) rfl rfl (Nat.le_of_ble_eq_true rfl) ⟨Nat.zero_le _, Nat.zero_le _⟩ dX5_part_118 (fun H locs hW hk => ?_)
        have ha := keep1 hk ha
        have h13 := keep1 hk h13
        have hK0 := keep_tr hK0 hk
        refine lv_aload_n hx hb dX5_part_121 rfl (lv_at hl 0 rfl) ?_
        refine lv_bipush (v := (-4 : Int32)) hx hb dX5_part_122 (by decide) ?_
        obtain ⟨v19, hr18, hf⟩ := bd_elim hf
        refine s_callNv [.int (-4 : Int32)] [] hM hml hl.1 hW ha rfl (by decide) (Ct_self (c_X5_put l G fu _ a (S17 a) _ ha hr18)) (cwV 1 hM.2.2.2.1 (gV mk_RX5_65 im_X5_put se_X5_put it_RX5 cd_X5_put) rfl rfl rfl (by decide +kernel) ⟨by show 0 + 1 ≤ 5 * (d + 1) + 2; omega, by show 8 + (2 + 11) + 0 ≤ 113 * (d + 1) + 42; omega⟩) rfl rfl (Nat.le_of_ble_eq_true rfl) ⟨Nat.zero_le _, Nat.zero_le _⟩ dX5_part_124 (fun Sv19 ev19 hk H locs hW => ?_)
        have hf := nm_at ev19 hf
        have ha := keep1 hk ha
        have h13 := keep1 hk h13
        have hK0 := keep_tr hK0 hk
        refine lv_goto (tgt := 165) hx hb dX5_part_127 (by decide) ?_
        cases hf
        exact W.vret hx hb hr (b_ret0 hW hK0 _) hW.2.2.2 dX5_part_165 hlk
    · have hf := if_f c2 hf
      refine lv_aload_n hx hb dX5_part_77 rfl (lv_at hl 0 rfl) ?_
      obtain ⟨q20, hq20, hf⟩ := bd_elim hf
      refine b_get hM (hW.at_ a) 4 0 ha rfl rfl (by decide) wi_X5 (wgm fk_RX5_28) (x := .ref q20) (by show va_rf _ = _; rw [hq20]; rfl) dX5_part_78 ?_
      obtain ⟨h21, hf⟩ := ck_elim hf
      have h21 := of_decide_eq_true h21
      obtain ⟨v23, hr22, hf⟩ := bd_elim hf
      refine s_callNv [] [] hM hml hl.1 hW h21 rfl (by decide) (Ct_self (c_X8_step l G fu _ q20 (S q20) h21 hr22)) (cwV 0 hM.2.2.2.1 (gV mk_RX5_62 im_X8_step se_X8_step it_RX8 cd_X8_step) rfl rfl rfl (by decide +kernel) ⟨by show 0 + 1 ≤ 5 * (d + 1) + 2; omega, by show 8 + (1 + 11) + 0 ≤ 113 * (d + 1) + 42; omega⟩) rfl rfl (Nat.le_of_ble_eq_true rfl) ⟨Nat.zero_le _, Nat.zero_le _⟩ dX5_part_81 (fun Sv23 ev23 hk H locs hW => ?_)
      have hf := nm_at ev23 hf
      have ha := keep1 hk ha
      have h21 := keep1 hk h21
      have hK0 := keep_tr hK0 hk
      refine lv_aload_n hx hb dX5_part_84 rfl (lv_at hl 0 rfl) ?_
      refine lv_iload_n hx hb dX5_part_85 rfl (lv_at hl 1 rfl) ?_
      refine lv_iconst (v := (1 : Int32)) hx hb dX5_part_86 (by decide) ?_
      refine lv_iadd hx hb dX5_part_87 ?_
      obtain ⟨S25, hr24, hf⟩ := bd_elim hf
      refine s_callVv [.int (x1 + (1 : Int32))] [] hM hml hl.1 hW ha rfl (by decide) (c_X5_expression l G fu hrec _ a _ ha hr24) (cwV 1 hM.2.2.2.1 (gV mk_RX5_32 im_X5_expression se_X5_expression it_RX5 cd_X5_expression) rfl rfl rfl (by decide +kernel) ⟨by show (5 * d + 6) + 1 ≤ 5 * (d + 1) + 2; omega, by show 8 + (4 + 11) + (113 * d + 132) ≤ 113 * (d + 1) + 42; omega⟩) rfl rfl (Nat.le_of_ble_eq_true rfl) ⟨Nat.zero_le _, Nat.zero_le _⟩ dX5_part_88 (fun H locs hW hk => ?_)
      have ha := keep1 hk ha
      have h21 := keep1 hk h21
      have hK0 := keep_tr hK0 hk
      refine lv_aload_n hx hb dX5_part_91 rfl (lv_at hl 0 rfl) ?_
      obtain ⟨q26, hq26, hf⟩ := bd_elim hf
      refine b_get hM (hW.at_ a) 4 0 ha rfl rfl (by decide) wi_X5 (wgm fk_RX5_28) (x := .ref q26) (by show va_rf _ = _; rw [hq26]; rfl) dX5_part_92 ?_
      obtain ⟨h27, hf⟩ := ck_elim hf
      have h27 := of_decide_eq_true h27
      refine lv_bipush (v := (41 : Int32)) hx hb dX5_part_95 (by decide) ?_
      obtain ⟨v29, hr28, hf⟩ := bd_elim hf
      refine s_callNv [.int (41 : Int32)] [] hM hml hl.1 hW h27 rfl (by decide) (Ct_self (c_X8_need l G fu _ q26 (S25 q26) _ h27 hr28)) (cwV 1 hM.2.2.2.1 (gV mk_RX5_93 im_X8_need se_X8_need it_RX8 cd_X8_need) rfl rfl rfl (by decide +kernel) ⟨by show 1 + 1 ≤ 5 * (d + 1) + 2; omega, by show 8 + (2 + 11) + 21 ≤ 113 * (d + 1) + 42; omega⟩) rfl rfl (Nat.le_of_ble_eq_true rfl) ⟨Nat.zero_le _, Nat.zero_le _⟩ dX5_part_97 (fun Sv29 ev29 hk H locs hW => ?_)
      have hf := nm_at ev29 hf
      have ha := keep1 hk ha
      have h21 := keep1 hk h21
      have h27 := keep1 hk h27
      have hK0 := keep_tr hK0 hk
      refine lv_goto (tgt := 165) hx hb dX5_part_100 (by decide) ?_
      cases hf
      exact W.vret hx hb hr (b_ret0 hW hK0 _) hW.2.2.2 dX5_part_165 hlk
  · have hf := if_f c1 hf
    refine lv_aload_n hx hb dX5_part_62 rfl (lv_at hl 0 rfl) ?_
    obtain ⟨q30, hq30, hf⟩ := bd_elim hf
    refine b_get hM (hW.at_ a) 4 0 ha rfl rfl (by decide) wi_X5 (wgm fk_RX5_28) (x := .ref q30) (by show va_rf _ = _; rw [hq30]; rfl) dX5_part_63 ?_
    obtain ⟨h31, hf⟩ := ck_elim hf
    have h31 := of_decide_eq_true h31
    refine lv_iconst (v := (5 : Int32)) hx hb dX5_part_66 (by decide) ?_
    obtain ⟨v33, hr32, hf⟩ := bd_elim hf
    refine s_callNv [.int (5 : Int32)] [] hM hml hl.1 hW h31 rfl (by decide) (Ct_self (c_X8_fail l G fu _ q30 (S q30) _ h31 hr32)) (cwV 1 hM.2.2.2.1 (gV mk_RX5_90 im_X8_fail se_X8_fail it_RX8 cd_X8_fail) rfl rfl rfl (by decide +kernel) ⟨by show 0 + 1 ≤ 5 * (d + 1) + 2; omega, by show 8 + (2 + 11) + 0 ≤ 113 * (d + 1) + 42; omega⟩) rfl rfl (Nat.le_of_ble_eq_true rfl) ⟨Nat.zero_le _, Nat.zero_le _⟩ dX5_part_67 (fun Sv33 ev33 hk H locs hW => ?_)
    have hf := nm_at ev33 hf
    have ha := keep1 hk ha
    have h31 := keep1 hk h31
    have hK0 := keep_tr hK0 hk
    refine lv_goto (tgt := 165) hx hb dX5_part_70 (by decide) ?_
    cases hf
    exact W.vret hx hb hr (b_ret0 hW hK0 _) hW.2.2.2 dX5_part_165 hlk
noncomputable def f_X5_part_0 (fu : Nat) (rec : ST → Nat → Int32 → Option (ST))  (S : ST) (a : Nat) (x1 : Int32) : Option (ST) :=
  bd (gR (S a) 0) fun q1 =>
  ck (decide (gC (S q1) = 8)) <|
  bd (f_X8_isAt fu (S q1) (40 : Int32)) fun r3 =>
  bd (gR (S a) 0) fun q4 =>
  ck (decide (gC (S q4) = 8)) <|
  bd (f_X8_isAt_ fu (S q4) 23) fun r6 =>
  if r3 = 0 then
    (if r6 = 0 then
      (bd (gR (S a) 0) fun q9 =>
      ck (decide (gC (S q9) = 8)) <|
      bd (f_X8_isNumber fu (S q9)) fun r11 =>
      if r11 = 0 then
        (bd (f_X5_isFact fu S a) fun r13 =>
        if r13 = 0 then
          (bd (gR (S a) 0) fun q15 =>
          ck (decide (gC (S q15) = 8)) <|
          bd (f_X8_fail fu (S q15) (1 : Int32)) fun v18 =>
          nm (st S q15 v18) fun Sv18 =>
          some Sv18)
        else
          (f_X5_part_57 fu rec S a x1 r3 r6))
      else
        (f_X5_part_57 fu rec S a x1 r3 r6))
    else
      (f_X5_part_57 fu rec S a x1 r3 r6))
  else
    (f_X5_part_57 fu rec S a x1 r3 r6)
set_option maxHeartbeats 4000000 in
set_option maxRecDepth 100000 in
theorem t_X5_part_0 {G : GG} {p : Program} {l : Launch} {e : Env} {s : State} {m : MethodId} {args : Array Value} {below : List Frame} {meth : Method} {c : Code} {S0 : ST} {fu : Nat} {z : ST} {a : Nat} {d : Nat} {rec : ST → Nat → Int32 → Option (ST)}  {S : ST} {x1 : Int32} (hM : MC G p s m args c cX5_part w_X5_part RX5) (hml : c.maxLocals = 4) (hr : meth.sig.returnType = none) (hlk : meth.locks = false) (hrec : ∀ (S : ST) (a : Nat) (x1 : Int32) (z : ST), gC (S a) = 5 → rec S a x1 = some z → Ct l yX5_part w_X5_part (RM_X5_part d) G S [.ref a, .int x1] none z 0 0)  (hf : f_X5_part_0 fu rec  S a x1 = some z) : (gC (S a) = 5) → (∀ b, gC (S0 b) ≠ 0 → gC (S b) = gC (S0 b)) → ∀ (H : Heap) (locs : List Loc), WB G S s H locs → ∀ (ls : Array Slot), lv_has ls 4 [(0, .ref a), (1, .int x1)] → W p l e (RM_X5_part (d + 1)) s m args below meth c H locs 0 0 (QR G below args s none S0 z) (F0 m 0 ls []) := by
  intro ha hK0 H locs hW ls hl
  have hx := hM.1
  have hb := hM.2.1
  refine lv_aload_n hx hb dX5_part_0 rfl (lv_at hl 0 rfl) ?_
  obtain ⟨q1, hq1, hf⟩ := bd_elim hf
  refine b_get hM (hW.at_ a) 4 0 ha rfl rfl (by decide) wi_X5 (wgm fk_RX5_28) (x := .ref q1) (by show va_rf _ = _; rw [hq1]; rfl) dX5_part_1 ?_
  obtain ⟨h2, hf⟩ := ck_elim hf
  have h2 := of_decide_eq_true h2
  refine lv_bipush (v := (40 : Int32)) hx hb dX5_part_4 (by decide) ?_
  obtain ⟨r3, hr3, hf⟩ := bd_elim hf
  refine s_callVi [.int (40 : Int32)] [] hM hml hl.1 hW h2 rfl (by decide) (Ct_rd (c_X8_isAt l G fu _ q1 (S q1) _ h2 hr3)) (cwV 1 hM.2.2.2.1 (gV mk_RX5_71 im_X8_isAt se_X8_isAt it_RX8 cd_X8_isAt) rfl rfl rfl (by decide +kernel) ⟨by show 0 + 1 ≤ 5 * (d + 1) + 2; omega, by show 8 + (2 + 11) + 0 ≤ 113 * (d + 1) + 42; omega⟩) rfl rfl (Nat.le_of_ble_eq_true rfl) ⟨Nat.zero_le _, Nat.zero_le _⟩ dX5_part_6 (fun H locs hW hk => ?_)
  refine lv_istore_n (lv' := [(2, .int r3), (0, .ref a), (1, .int x1)]) hx hb dX5_part_9 rfl hl (by decide) rfl (fun ls hl => ?_)
  refine lv_aload_n hx hb dX5_part_10 rfl (lv_at hl 1 rfl) ?_
  obtain ⟨q4, hq4, hf⟩ := bd_elim hf
  refine b_get hM (hW.at_ a) 4 0 ha rfl rfl (by decide) wi_X5 (wgm fk_RX5_28) (x := .ref q4) (by show va_rf _ = _; rw [hq4]; rfl) dX5_part_11 ?_
  obtain ⟨h5, hf⟩ := ck_elim hf
  have h5 := of_decide_eq_true h5
  refine k_word hM hW 23 (by decide) (wgm fk_RX5_80) dX5_part_14 ?_
  obtain ⟨r6, hr6, hf⟩ := bd_elim hf
  refine s_callVi [.ref (kAd G 23)] [] hM hml hl.1 hW h5 rfl (by decide) (Ct_rd (c_X8_isAt_ l G fu _ q4 (S q4) _ h5 (by decide) hr6)) (cwV 1 hM.2.2.2.1 (gV mk_RX5_53 im_X8_isAt_ se_X8_isAt_ it_RX8 cd_X8_isAt_) rfl rfl rfl (by decide +kernel) ⟨by show 0 + 1 ≤ 5 * (d + 1) + 2; omega, by show 8 + (3 + 11) + 0 ≤ 113 * (d + 1) + 42; omega⟩) rfl rfl (Nat.le_of_ble_eq_true rfl) ⟨Nat.zero_le _, Nat.zero_le _⟩ dX5_part_17 (fun H locs hW hk => ?_)
  refine lv_istore_n (lv' := [(3, .int r6), (2, .int r3), (0, .ref a), (1, .int x1)]) hx hb dX5_part_20 rfl hl (by decide) rfl (fun ls hl => ?_)
  refine lv_iload_n hx hb dX5_part_21 rfl (lv_at hl 1 rfl) ?_
  refine lv_if_ne (tgt := 57) hx hb dX5_part_22 (by decide) (fun c7 => ?_) (fun c7 => ?_)
  · have hf := if_f c7 hf
    exact t_X5_part_57 (fu := fu) hM hml hr hlk hrec hf ha hK0 _ _ hW _ (lv_sub hl [2, 3, 1, 0] rfl)
  · have hf := if_t c7 hf
    refine lv_iload_n hx hb dX5_part_25 rfl (lv_at hl 0 rfl) ?_
    refine lv_if_ne (tgt := 57) hx hb dX5_part_26 (by decide) (fun c8 => ?_) (fun c8 => ?_)
    · have hf := if_f c8 hf
      exact t_X5_part_57 (fu := fu) hM hml hr hlk hrec hf ha hK0 _ _ hW _ (lv_sub hl [2, 3, 1, 0] rfl)
    · have hf := if_t c8 hf
      refine lv_aload_n hx hb dX5_part_29 rfl (lv_at hl 2 rfl) ?_
      obtain ⟨q9, hq9, hf⟩ := bd_elim hf
      refine b_get hM (hW.at_ a) 4 0 ha rfl rfl (by decide) wi_X5 (wgm fk_RX5_28) (x := .ref q9) (by show va_rf _ = _; rw [hq9]; rfl) dX5_part_30 ?_
      obtain ⟨h10, hf⟩ := ck_elim hf
      have h10 := of_decide_eq_true h10
      obtain ⟨r11, hr11, hf⟩ := bd_elim hf
      refine s_callVi [] [] hM hml hl.1 hW h10 rfl (by decide) (Ct_rd (c_X8_isNumber l G fu _ q9 (S q9) h10 hr11)) (cwV 0 hM.2.2.2.1 (gV mk_RX5_83 im_X8_isNumber se_X8_isNumber it_RX8 cd_X8_isNumber) rfl rfl rfl (by decide +kernel) ⟨by show 0 + 1 ≤ 5 * (d + 1) + 2; omega, by show 8 + (1 + 11) + 0 ≤ 113 * (d + 1) + 42; omega⟩) rfl rfl (Nat.le_of_ble_eq_true rfl) ⟨Nat.zero_le _, Nat.zero_le _⟩ dX5_part_33 (fun H locs hW hk => ?_)
      refine lv_if_ne (tgt := 57) hx hb dX5_part_36 (by decide) (fun c12 => ?_) (fun c12 => ?_)
      · have hf := if_f c12 hf
        exact t_X5_part_57 (fu := fu) hM hml hr hlk hrec hf ha hK0 _ _ hW _ (lv_sub hl [2, 3, 1, 0] rfl)
      · have hf := if_t c12 hf
        refine lv_aload_n hx hb dX5_part_39 rfl (lv_at hl 2 rfl) ?_
        obtain ⟨r13, hr13, hf⟩ := bd_elim hf
        refine s_callVi [] [] hM hml hl.1 hW ha rfl (by decide) (c_X5_isFact l G fu _ a ha hr13) (cwV 0 hM.2.2.2.1 (gV mk_RX5_87 im_X5_isFact se_X5_isFact it_RX5 cd_X5_isFact) rfl rfl rfl (by decide +kernel) ⟨by show 1 + 1 ≤ 5 * (d + 1) + 2; omega, by show 8 + (1 + 11) + 22 ≤ 113 * (d + 1) + 42; omega⟩) rfl rfl (Nat.le_of_ble_eq_true rfl) ⟨Nat.zero_le _, Nat.zero_le _⟩ dX5_part_40 (fun H locs hW hk => ?_)
        refine lv_if_ne (tgt := 57) hx hb dX5_part_43 (by decide) (fun c14 => ?_) (fun c14 => ?_)
        · have hf := if_f c14 hf
          exact t_X5_part_57 (fu := fu) hM hml hr hlk hrec hf ha hK0 _ _ hW _ (lv_sub hl [2, 3, 1, 0] rfl)
        · have hf := if_t c14 hf
          refine lv_aload_n hx hb dX5_part_46 rfl (lv_at hl 2 rfl) ?_
          obtain ⟨q15, hq15, hf⟩ := bd_elim hf
          refine b_get hM (hW.at_ a) 4 0 ha rfl rfl (by decide) wi_X5 (wgm fk_RX5_28) (x := .ref q15) (by show va_rf _ = _; rw [hq15]; rfl) dX5_part_47 ?_
          obtain ⟨h16, hf⟩ := ck_elim hf
          have h16 := of_decide_eq_true h16
          refine lv_iconst (v := (1 : Int32)) hx hb dX5_part_50 (by decide) ?_
          obtain ⟨v18, hr17, hf⟩ := bd_elim hf
          refine s_callNv [.int (1 : Int32)] [] hM hml hl.1 hW h16 rfl (by decide) (Ct_self (c_X8_fail l G fu _ q15 (S q15) _ h16 hr17)) (cwV 1 hM.2.2.2.1 (gV mk_RX5_90 im_X8_fail se_X8_fail it_RX8 cd_X8_fail) rfl rfl rfl (by decide +kernel) ⟨by show 0 + 1 ≤ 5 * (d + 1) + 2; omega, by show 8 + (2 + 11) + 0 ≤ 113 * (d + 1) + 42; omega⟩) rfl rfl (Nat.le_of_ble_eq_true rfl) ⟨Nat.zero_le _, Nat.zero_le _⟩ dX5_part_51 (fun Sv18 ev18 hk H locs hW => ?_)
          have hf := nm_at ev18 hf
          have ha := keep1 hk ha
          have h2 := keep1 hk h2
          have h5 := keep1 hk h5
          have h10 := keep1 hk h10
          have h16 := keep1 hk h16
          have hK0 := keep_tr hK0 hk
          refine lv_goto (tgt := 165) hx hb dX5_part_54 (by decide) ?_
          cases hf
          exact W.vret hx hb hr (b_ret0 hW hK0 _) hW.2.2.2 dX5_part_165 hlk
noncomputable def f_X5_part (fu : Nat) (rec : ST → Nat → Int32 → Option (ST)) (S : ST) (a : Nat) (x1 : Int32) : Option (ST) := f_X5_part_0 fu rec S a x1
set_option maxHeartbeats 4000000 in
set_option maxRecDepth 100000 in
theorem c_X5_part (l : Launch) (G : GG) (fu : Nat) {d : Nat} {rec : ST → Nat → Int32 → Option (ST)} (hrec : ∀ (S : ST) (a : Nat) (x1 : Int32) (z : ST), gC (S a) = 5 → rec S a x1 = some z → Ct l yX5_part w_X5_part (RM_X5_part d) G S [.ref a, .int x1] none z 0 0) (S : ST) (a : Nat) (x1 : Int32) {z : ST} (ha : gC (S a) = 5) (hf : f_X5_part fu rec S a x1 = some z) : Ct l yX5_part w_X5_part (RM_X5_part (d + 1)) G S [.ref a, .int x1] none z 0 0 := by
  refine Met.ofW (cc := cX5_part) (maxL := 4) (ret := none) (by decide) rfl ?_
  intro p e s m args below meth c s₁ B hml hv
  obtain ⟨rfl, hB, hK, hz⟩ := hv
  have hM : MC G p s m _ c cX5_part w_X5_part RX5 := ⟨B.exec, B.bytes, findClass_of_methodNamed B.named, atoms_spec (ws := w_X5_part) B.pre, hK, hz⟩
  have hW : WB G S s s.heap [] := ⟨hB, va_S.rf⟩
  have hl := lv_entry ([.ref a, .int x1]) (n := 4) (Nat.le_of_ble_eq_true rfl)
  rw [lg_entry_eq]
  generalize (lg_sl ([.ref a, .int x1]) ++ List.replicate (4 - (lg_sl ([.ref a, .int x1])).length) Slot.unset).toArray = ls at hl ⊢
  have hl : lv_has ls 4 [(0, .ref a), (1, .int x1)] := hl
  exact t_X5_part_0 (fu := fu) hM hml B.returns B.notSynchronized hrec hf ha (fun _ _ => rfl) _ _ hW _ (lv_sub hl [0, 1] rfl)
noncomputable def f_X5_partD (fu d : Nat) : ST → Nat → Int32 → Option (ST) := Nat.rec (fun _ _ _ => none) (fun _ ih => f_X5_part fu ih) d
theorem c_X5_partD (l : Launch) (G : GG) (fu d : Nat) : ∀ (S : ST) (a : Nat) (x1 : Int32) (z : ST), gC (S a) = 5 → f_X5_partD fu d S a x1 = some z → Ct l yX5_part w_X5_part (RM_X5_part d) G S [.ref a, .int x1] none z 0 0 := by
  induction d with
  | zero => intro S _ _ _ h90 hf; cases hf
  | succ d ih => intro S _ _ _ h90 hf; exact c_X5_part l G fu ih S _ _ h90 hf
abbrev RM_X8_isBlank : Room := { frames := 0, cells := 0, slots := 0, locals := 0 }
abbrev w_X8_isBlank : List Cond := Cond.code yX8_isBlank cX8_isBlank 1 (some .boolean) :: wsL_law0
noncomputable def f_X8_isBlank_12 (fu : Nat)  : Option (Int32) :=
  some ((1 : Int32))
set_option maxHeartbeats 4000000 in
set_option maxRecDepth 100000 in
theorem t_X8_isBlank_12 {G : GG} {p : Program} {l : Launch} {e : Env} {s : State} {m : MethodId} {args : Array Value} {below : List Frame} {meth : Method} {c : Code} {S : ST} {fu : Nat} {z : Int32}  (hM : MC G p s m args c cX8_isBlank w_X8_isBlank RX8) (hml : c.maxLocals = 1) (hr : meth.sig.returnType = (some .boolean)) (hlk : meth.locks = false)   (hf : f_X8_isBlank_12 fu     = some z) : ∀ (H : Heap) (locs : List Loc), WB G S s H locs → ∀ (ls : Array Slot), lv_has ls 1 [] → W p l e RM_X8_isBlank s m args below meth c H locs 0 0 (QR G below args s (some (.int z)) S S) (F0 m 12 ls []) := by
  intro  H locs hW ls hl
  have hx := hM.1
  have hb := hM.2.1
  refine lv_iconst (v := (1 : Int32)) hx hb dX8_isBlank_12 (by decide) ?_
  refine lv_goto (tgt := 17) hx hb dX8_isBlank_13 (by decide) ?_
  cases hf
  exact W.zret (v := (1 : Int32)) hx hb hr (by decide) (b_ret0 hW (fun _ _ => rfl) _) hW.2.2.2 dX8_isBlank_17 hlk
noncomputable def f_X8_isBlank_0 (fu : Nat)  (x0 : Int32) : Option (Int32) :=
  if x0 = (10 : Int32) then
    (f_X8_isBlank_12 fu)
  else
    (if x0 = (32 : Int32) then
      (f_X8_isBlank_12 fu)
    else
      (some ((0 : Int32))))
set_option maxHeartbeats 4000000 in
set_option maxRecDepth 100000 in
theorem t_X8_isBlank_0 {G : GG} {p : Program} {l : Launch} {e : Env} {s : State} {m : MethodId} {args : Array Value} {below : List Frame} {meth : Method} {c : Code} {S : ST} {fu : Nat} {z : Int32}  {x0 : Int32} (hM : MC G p s m args c cX8_isBlank w_X8_isBlank RX8) (hml : c.maxLocals = 1) (hr : meth.sig.returnType = (some .boolean)) (hlk : meth.locks = false)   (hf : f_X8_isBlank_0 fu    x0 = some z) : ∀ (H : Heap) (locs : List Loc), WB G S s H locs → ∀ (ls : Array Slot), lv_has ls 1 [(0, .int x0)] → W p l e RM_X8_isBlank s m args below meth c H locs 0 0 (QR G below args s (some (.int z)) S S) (F0 m 0 ls []) := by
  intro  H locs hW ls hl
  have hx := hM.1
  have hb := hM.2.1
  refine lv_iload_n hx hb dX8_isBlank_0 rfl (lv_at hl 0 rfl) ?_
  refine lv_bipush (v := (10 : Int32)) hx hb dX8_isBlank_1 (by decide) ?_
  refine lv_icmp_eq (tgt := 12) hx hb dX8_isBlank_3 (by decide) (fun c1 => ?_) (fun c1 => ?_)
  · have hf := if_t c1 hf
    exact t_X8_isBlank_12 (fu := fu) hM hml hr hlk hf _ _ hW _ (lv_sub hl [] rfl)
  · have hf := if_f c1 hf
    refine lv_iload_n hx hb dX8_isBlank_6 rfl (lv_at hl 0 rfl) ?_
    refine lv_bipush (v := (32 : Int32)) hx hb dX8_isBlank_7 (by decide) ?_
    refine lv_icmp_ne (tgt := 16) hx hb dX8_isBlank_9 (by decide) (fun c2 => ?_) (fun c2 => ?_)
    · have hf := if_f c2 hf
      refine lv_iconst (v := (0 : Int32)) hx hb dX8_isBlank_16 (by decide) ?_
      cases hf
      exact W.zret (v := (0 : Int32)) hx hb hr (by decide) (b_ret0 hW (fun _ _ => rfl) _) hW.2.2.2 dX8_isBlank_17 hlk
    · have hf := if_t c2 hf
      exact t_X8_isBlank_12 (fu := fu) hM hml hr hlk hf _ _ hW _ (lv_sub hl [] rfl)
noncomputable def f_X8_isBlank (fu : Nat) (x0 : Int32) : Option (Int32) := f_X8_isBlank_0 fu x0
set_option maxHeartbeats 4000000 in
set_option maxRecDepth 100000 in
theorem c_X8_isBlank (l : Launch) (G : GG) (fu : Nat) (S : ST) (x0 : Int32) {z : Int32} (hf : f_X8_isBlank fu x0 = some z) : Ct l yX8_isBlank w_X8_isBlank RM_X8_isBlank G S [.int x0] (some (.int z)) S 0 0 := by
  refine Met.ofW (cc := cX8_isBlank) (maxL := 1) (ret := (some .boolean)) (by decide) rfl ?_
  intro p e s m args below meth c s₁ B hml hv
  obtain ⟨rfl, hB, hK, hz⟩ := hv
  have hM : MC G p s m _ c cX8_isBlank w_X8_isBlank RX8 := ⟨B.exec, B.bytes, findClass_of_methodNamed B.named, atoms_spec (ws := w_X8_isBlank) B.pre, hK, hz⟩
  have hW : WB G S s s.heap [] := ⟨hB, va_S.rf⟩
  have hl := lv_entry ([.int x0]) (n := 1) (Nat.le_of_ble_eq_true rfl)
  rw [lg_entry_eq]
  generalize (lg_sl ([.int x0]) ++ List.replicate (1 - (lg_sl ([.int x0])).length) Slot.unset).toArray = ls at hl ⊢
  have hl : lv_has ls 1 [(0, .int x0)] := hl
  exact t_X8_isBlank_0 (fu := fu) hM hml B.returns B.notSynchronized hf _ _ hW _ (lv_sub hl [0] rfl)
abbrev RM_X8_isLetter : Room := { frames := 0, cells := 0, slots := 0, locals := 0 }
abbrev w_X8_isLetter : List Cond := Cond.code yX8_isLetter cX8_isLetter 1 (some .boolean) :: wsL_law0
noncomputable def f_X8_isLetter_16 (fu : Nat)  : Option (Int32) :=
  some ((0 : Int32))
set_option maxHeartbeats 4000000 in
set_option maxRecDepth 100000 in
theorem t_X8_isLetter_16 {G : GG} {p : Program} {l : Launch} {e : Env} {s : State} {m : MethodId} {args : Array Value} {below : List Frame} {meth : Method} {c : Code} {S : ST} {fu : Nat} {z : Int32}  (hM : MC G p s m args c cX8_isLetter w_X8_isLetter RX8) (hml : c.maxLocals = 1) (hr : meth.sig.returnType = (some .boolean)) (hlk : meth.locks = false)   (hf : f_X8_isLetter_16 fu     = some z) : ∀ (H : Heap) (locs : List Loc), WB G S s H locs → ∀ (ls : Array Slot), lv_has ls 1 [] → W p l e RM_X8_isLetter s m args below meth c H locs 0 0 (QR G below args s (some (.int z)) S S) (F0 m 16 ls []) := by
  intro  H locs hW ls hl
  have hx := hM.1
  have hb := hM.2.1
  refine lv_iconst (v := (0 : Int32)) hx hb dX8_isLetter_16 (by decide) ?_
  cases hf
  exact W.zret (v := (0 : Int32)) hx hb hr (by decide) (b_ret0 hW (fun _ _ => rfl) _) hW.2.2.2 dX8_isLetter_17 hlk
noncomputable def f_X8_isLetter_0 (fu : Nat)  (x0 : Int32) : Option (Int32) :=
  if x0 < (97 : Int32) then
    (f_X8_isLetter_16 fu)
  else
    (if (122 : Int32) < x0 then
      (f_X8_isLetter_16 fu)
    else
      (some ((1 : Int32))))
set_option maxHeartbeats 4000000 in
set_option maxRecDepth 100000 in
theorem t_X8_isLetter_0 {G : GG} {p : Program} {l : Launch} {e : Env} {s : State} {m : MethodId} {args : Array Value} {below : List Frame} {meth : Method} {c : Code} {S : ST} {fu : Nat} {z : Int32}  {x0 : Int32} (hM : MC G p s m args c cX8_isLetter w_X8_isLetter RX8) (hml : c.maxLocals = 1) (hr : meth.sig.returnType = (some .boolean)) (hlk : meth.locks = false)   (hf : f_X8_isLetter_0 fu    x0 = some z) : ∀ (H : Heap) (locs : List Loc), WB G S s H locs → ∀ (ls : Array Slot), lv_has ls 1 [(0, .int x0)] → W p l e RM_X8_isLetter s m args below meth c H locs 0 0 (QR G below args s (some (.int z)) S S) (F0 m 0 ls []) := by
  intro  H locs hW ls hl
  have hx := hM.1
  have hb := hM.2.1
  refine lv_iload_n hx hb dX8_isLetter_0 rfl (lv_at hl 0 rfl) ?_
  refine lv_bipush (v := (97 : Int32)) hx hb dX8_isLetter_1 (by decide) ?_
  refine lv_icmp_lt (tgt := 16) hx hb dX8_isLetter_3 (by decide) (fun c1 => ?_) (fun c1 => ?_)
  · have hf := if_t c1 hf
    exact t_X8_isLetter_16 (fu := fu) hM hml hr hlk hf _ _ hW _ (lv_sub hl [] rfl)
  · have hf := if_f c1 hf
    refine lv_iload_n hx hb dX8_isLetter_6 rfl (lv_at hl 0 rfl) ?_
    refine lv_bipush (v := (122 : Int32)) hx hb dX8_isLetter_7 (by decide) ?_
    refine lv_icmp_gt (tgt := 16) hx hb dX8_isLetter_9 (by decide) (fun c2 => ?_) (fun c2 => ?_)
    · have hf := if_t c2 hf
      exact t_X8_isLetter_16 (fu := fu) hM hml hr hlk hf _ _ hW _ (lv_sub hl [] rfl)
    · have hf := if_f c2 hf
      refine lv_iconst (v := (1 : Int32)) hx hb dX8_isLetter_12 (by decide) ?_
      refine lv_goto (tgt := 17) hx hb dX8_isLetter_13 (by decide) ?_
      cases hf
      exact W.zret (v := (1 : Int32)) hx hb hr (by decide) (b_ret0 hW (fun _ _ => rfl) _) hW.2.2.2 dX8_isLetter_17 hlk
noncomputable def f_X8_isLetter (fu : Nat) (x0 : Int32) : Option (Int32) := f_X8_isLetter_0 fu x0
set_option maxHeartbeats 4000000 in
set_option maxRecDepth 100000 in
theorem c_X8_isLetter (l : Launch) (G : GG) (fu : Nat) (S : ST) (x0 : Int32) {z : Int32} (hf : f_X8_isLetter fu x0 = some z) : Ct l yX8_isLetter w_X8_isLetter RM_X8_isLetter G S [.int x0] (some (.int z)) S 0 0 := by
  refine Met.ofW (cc := cX8_isLetter) (maxL := 1) (ret := (some .boolean)) (by decide) rfl ?_
  intro p e s m args below meth c s₁ B hml hv
  obtain ⟨rfl, hB, hK, hz⟩ := hv
  have hM : MC G p s m _ c cX8_isLetter w_X8_isLetter RX8 := ⟨B.exec, B.bytes, findClass_of_methodNamed B.named, atoms_spec (ws := w_X8_isLetter) B.pre, hK, hz⟩
  have hW : WB G S s s.heap [] := ⟨hB, va_S.rf⟩
  have hl := lv_entry ([.int x0]) (n := 1) (Nat.le_of_ble_eq_true rfl)
  rw [lg_entry_eq]
  generalize (lg_sl ([.int x0]) ++ List.replicate (1 - (lg_sl ([.int x0])).length) Slot.unset).toArray = ls at hl ⊢
  have hl : lv_has ls 1 [(0, .int x0)] := hl
  exact t_X8_isLetter_0 (fu := fu) hM hml B.returns B.notSynchronized hf _ _ hW _ (lv_sub hl [0] rfl)
abbrev RM_X10_packedWith : Room := { frames := 0, cells := 0, slots := 0, locals := 0 }
abbrev w_X10_packedWith : List Cond := Cond.code yX10_packedWith cX10_packedWith 3 (some .long) :: wsL_law0
noncomputable def f_X10_packedWith_0 (fu : Nat)  (x0 : Int64) (x2 : Int32) : Option (Int64) :=
  some (((x0 * (32 : Int64)) + (((x2 - (97 : Int32)) + (1 : Int32))).toInt64))
set_option maxHeartbeats 4000000 in
set_option maxRecDepth 100000 in
theorem t_X10_packedWith_0 {G : GG} {p : Program} {l : Launch} {e : Env} {s : State} {m : MethodId} {args : Array Value} {below : List Frame} {meth : Method} {c : Code} {S : ST} {fu : Nat} {z : Int64}  {x0 : Int64} {x2 : Int32} (hM : MC G p s m args c cX10_packedWith w_X10_packedWith RX10) (hml : c.maxLocals = 3) (hr : meth.sig.returnType = (some .long)) (hlk : meth.locks = false)   (hf : f_X10_packedWith_0 fu    x0 x2 = some z) : ∀ (H : Heap) (locs : List Loc), WB G S s H locs → ∀ (ls : Array Slot), lv_has ls 3 [(0, .long x0), (2, .int x2)] → W p l e RM_X10_packedWith s m args below meth c H locs 0 0 (QR G below args s (some (.long z)) S S) (F0 m 0 ls []) := by
  intro  H locs hW ls hl
  have hx := hM.1
  have hb := hM.2.1
  refine lv_lload_n hx hb dX10_packedWith_0 rfl (lv_at hl 0 rfl) ?_
  refine lv_ldc2 (v := (32 : Int64)) hx hb hM.2.2.1 (hM.2.2.2.1 _ (wgm kj_RX10_135)) dX10_packedWith_1 ?_
  refine lv_lmul hx hb dX10_packedWith_4 ?_
  refine lv_iload_n hx hb dX10_packedWith_5 rfl (lv_at hl 1 rfl) ?_
  refine lv_bipush (v := (97 : Int32)) hx hb dX10_packedWith_6 (by decide) ?_
  refine lv_isub hx hb dX10_packedWith_8 ?_
  refine lv_iconst (v := (1 : Int32)) hx hb dX10_packedWith_9 (by decide) ?_
  refine lv_iadd hx hb dX10_packedWith_10 ?_
  refine lv_i2l hx hb dX10_packedWith_11 rfl ?_
  refine lv_ladd hx hb dX10_packedWith_12 ?_
  cases hf
  exact W.lret hx hb hr (b_ret0 hW (fun _ _ => rfl) _) hW.2.2.2 dX10_packedWith_13 hlk
noncomputable def f_X10_packedWith (fu : Nat) (x0 : Int64) (x2 : Int32) : Option (Int64) := f_X10_packedWith_0 fu x0 x2
set_option maxHeartbeats 4000000 in
set_option maxRecDepth 100000 in
theorem c_X10_packedWith (l : Launch) (G : GG) (fu : Nat) (S : ST) (x0 : Int64) (x2 : Int32) {z : Int64} (hf : f_X10_packedWith fu x0 x2 = some z) : Ct l yX10_packedWith w_X10_packedWith RM_X10_packedWith G S [.long x0, .int x2] (some (.long z)) S 0 0 := by
  refine Met.ofW (cc := cX10_packedWith) (maxL := 3) (ret := (some .long)) (by decide) rfl ?_
  intro p e s m args below meth c s₁ B hml hv
  obtain ⟨rfl, hB, hK, hz⟩ := hv
  have hM : MC G p s m _ c cX10_packedWith w_X10_packedWith RX10 := ⟨B.exec, B.bytes, findClass_of_methodNamed B.named, atoms_spec (ws := w_X10_packedWith) B.pre, hK, hz⟩
  have hW : WB G S s s.heap [] := ⟨hB, va_S.rf⟩
  have hl := lv_entry ([.long x0, .int x2]) (n := 3) (Nat.le_of_ble_eq_true rfl)
  rw [lg_entry_eq]
  generalize (lg_sl ([.long x0, .int x2]) ++ List.replicate (3 - (lg_sl ([.long x0, .int x2])).length) Slot.unset).toArray = ls at hl ⊢
  have hl : lv_has ls 3 [(0, .long x0), (2, .int x2)] := hl
  exact t_X10_packedWith_0 (fu := fu) hM hml B.returns B.notSynchronized hf _ _ hW _ (lv_sub hl [0, 1] rfl)
abbrev RM_X8_addToken : Room := { frames := 0, cells := 0, slots := 0, locals := 0 }
abbrev w_X8_addToken : List Cond := Cond.code yX8_addToken cX8_addToken 5 none :: wsL_law0
noncomputable def f_X8_addToken_0 (fu : Nat)  (v : GV) (x1 : Int32) (x2 : Int32) (x3 : Int64) : Option (GV) :=
  if (1001 : Int32) ≤ (gI v 4) then
    (some v)
  else
    (ck (inb (gI v 4) 1001) <|
    nm (sA v 1 (gI v 4).toNatClampNeg x1) fun v3 =>
    ck (inb (gI v3 4) 1001) <|
    nm (sA v3 2 (gI v3 4).toNatClampNeg x2) fun v5 =>
    ck (inb (gI v5 4) 1001) <|
    nm (sL v5 3 (gI v5 4).toNatClampNeg x3) fun v7 =>
    nm (sI v7 4 ((gI v7 4) + (1 : Int32))) fun v8 =>
    some v8)
set_option maxHeartbeats 4000000 in
set_option maxRecDepth 100000 in
theorem t_X8_addToken_0 {G : GG} {p : Program} {l : Launch} {e : Env} {s : State} {m : MethodId} {args : Array Value} {below : List Frame} {meth : Method} {c : Code} {S : ST} {fu : Nat} {z : GV} {a : Nat} {v0 : GV}  {v : GV} {x1 : Int32} {x2 : Int32} {x3 : Int64} (hM : MC G p s m args c cX8_addToken w_X8_addToken RX8) (hml : c.maxLocals = 5) (hr : meth.sig.returnType = none) (hlk : meth.locks = false) (hc0 : gC v0 = 8)  (hf : f_X8_addToken_0 fu  v  x1 x2 x3 = some z) : (gC v = 8) → ∀ (H : Heap) (locs : List Loc), WB G (st S a v) s H locs → ∀ (ls : Array Slot), lv_has ls 5 [(0, .ref a), (1, .int x1), (2, .int x2), (3, .long x3)] → W p l e RM_X8_addToken s m args below meth c H locs 0 0 (QR G below args s none (st S a v0) (st S a z)) (F0 m 0 ls []) := by
  intro hc H locs hW ls hl
  have hx := hM.1
  have hb := hM.2.1
  refine lv_aload_n hx hb dX8_addToken_0 rfl (lv_at hl 0 rfl) ?_
  refine b_get hM hW 7 4 hc rfl rfl (by decide) wi_X8 (wgm fk_RX8_26) (x := .int (gI v 4)) rfl dX8_addToken_1 ?_
  refine lv_aload_n hx hb dX8_addToken_4 rfl (lv_at hl 0 rfl) ?_
  refine b_get hM hW 7 1 hc rfl rfl (by decide) wi_X8 (wgm fk_RX8_15) (x := .ref (a + 2)) rfl dX8_addToken_5 ?_
  refine b_alen (n := 1001) hM hW 7 1 0 hc (by decide) rfl rfl (by decide) rfl rfl (x := (1001 : Int32)) (by decide) dX8_addToken_8 ?_
  refine lv_icmp_ge (tgt := 52) hx hb dX8_addToken_9 (by decide) (fun c1 => ?_) (fun c1 => ?_)
  · have hf := if_t c1 hf
    cases hf
    exact W.vret hx hb hr (b_ret0 hW (keep_s2 hc0 hc) _) hW.2.2.2 dX8_addToken_52 hlk
  · have hf := if_f c1 hf
    refine lv_aload_n hx hb dX8_addToken_12 rfl (lv_at hl 0 rfl) ?_
    refine b_get hM hW 7 1 hc rfl rfl (by decide) wi_X8 (wgm fk_RX8_15) (x := .ref (a + 2)) rfl dX8_addToken_13 ?_
    refine lv_aload_n hx hb dX8_addToken_16 rfl (lv_at hl 0 rfl) ?_
    refine b_get hM hW 7 4 hc rfl rfl (by decide) wi_X8 (wgm fk_RX8_26) (x := .int (gI v 4)) rfl dX8_addToken_17 ?_
    refine lv_iload_n hx hb dX8_addToken_20 rfl (lv_at hl 1 rfl) ?_
    obtain ⟨h2, hf⟩ := ck_elim hf
    refine b_iast (n := 1001) hM hW 7 1 hc (by decide) rfl rfl rfl rfl h2 dX8_addToken_21 (fun v3 ev3 hc H locs hW => ?_)
    have hf := nm_at ev3 hf
    refine lv_aload_n hx hb dX8_addToken_22 rfl (lv_at hl 0 rfl) ?_
    refine b_get hM hW 7 2 hc rfl rfl (by decide) wi_X8 (wgm fk_RX8_19) (x := .ref (a + 3)) rfl dX8_addToken_23 ?_
    refine lv_aload_n hx hb dX8_addToken_26 rfl (lv_at hl 0 rfl) ?_
    refine b_get hM hW 7 4 hc rfl rfl (by decide) wi_X8 (wgm fk_RX8_26) (x := .int (gI v3 4)) rfl dX8_addToken_27 ?_
    refine lv_iload_n hx hb dX8_addToken_30 rfl (lv_at hl 2 rfl) ?_
    obtain ⟨h4, hf⟩ := ck_elim hf
    refine b_iast (n := 1001) hM hW 7 2 hc (by decide) rfl rfl rfl rfl h4 dX8_addToken_31 (fun v5 ev5 hc H locs hW => ?_)
    have hf := nm_at ev5 hf
    refine lv_aload_n hx hb dX8_addToken_32 rfl (lv_at hl 0 rfl) ?_
    refine b_get hM hW 7 3 hc rfl rfl (by decide) wi_X8 (wgm fk_RX8_22) (x := .ref (a + 4)) rfl dX8_addToken_33 ?_
    refine lv_aload_n hx hb dX8_addToken_36 rfl (lv_at hl 0 rfl) ?_
    refine b_get hM hW 7 4 hc rfl rfl (by decide) wi_X8 (wgm fk_RX8_26) (x := .int (gI v5 4)) rfl dX8_addToken_37 ?_
    refine lv_lload_n hx hb dX8_addToken_40 rfl (lv_at hl 3 rfl) ?_
    obtain ⟨h6, hf⟩ := ck_elim hf
    refine b_last (n := 1001) hM hW 7 3 hc (by decide) rfl rfl rfl rfl h6 dX8_addToken_41 (fun v7 ev7 hc H locs hW => ?_)
    have hf := nm_at ev7 hf
    refine lv_aload_n hx hb dX8_addToken_42 rfl (lv_at hl 0 rfl) ?_
    refine lv_dup hx hb dX8_addToken_43 rfl ?_
    refine b_get hM hW 7 4 hc rfl rfl (by decide) wi_X8 (wgm fk_RX8_26) (x := .int (gI v7 4)) rfl dX8_addToken_44 ?_
    refine lv_iconst (v := (1 : Int32)) hx hb dX8_addToken_47 (by decide) ?_
    refine lv_iadd hx hb dX8_addToken_48 ?_
    refine b_putI hM hW 7 4 hc rfl rfl (by decide) wi_X8 tyX8 tyX8_ok nmX8 (wgm fk_RX8_26) rfl rfl rfl dX8_addToken_49 (fun v8 ev8 hc H locs hW => ?_)
    have hf := nm_at ev8 hf
    cases hf
    exact W.vret hx hb hr (b_ret0 hW (keep_s2 hc0 hc) _) hW.2.2.2 dX8_addToken_52 hlk
noncomputable def f_X8_addToken (fu : Nat) (v : GV) (x1 : Int32) (x2 : Int32) (x3 : Int64) : Option (GV) := f_X8_addToken_0 fu v x1 x2 x3
set_option maxHeartbeats 4000000 in
set_option maxRecDepth 100000 in
theorem c_X8_addToken (l : Launch) (G : GG) (fu : Nat) (S : ST) (a : Nat) (v : GV) (x1 : Int32) (x2 : Int32) (x3 : Int64) {z : GV} (hc : gC v = 8) (hf : f_X8_addToken fu v x1 x2 x3 = some z) : Ct l yX8_addToken w_X8_addToken RM_X8_addToken G (st S a v) [.ref a, .int x1, .int x2, .long x3] none (st S a z) 0 0 := by
  refine Met.ofW (cc := cX8_addToken) (maxL := 5) (ret := none) (by decide) rfl ?_
  intro p e s m args below meth c s₁ B hml hv
  obtain ⟨rfl, hB, hK, hz⟩ := hv
  have hM : MC G p s m _ c cX8_addToken w_X8_addToken RX8 := ⟨B.exec, B.bytes, findClass_of_methodNamed B.named, atoms_spec (ws := w_X8_addToken) B.pre, hK, hz⟩
  have hW : WB G (st S a v) s s.heap [] := ⟨hB, va_S.rf⟩
  have hl := lv_entry ([.ref a, .int x1, .int x2, .long x3]) (n := 5) (Nat.le_of_ble_eq_true rfl)
  rw [lg_entry_eq]
  generalize (lg_sl ([.ref a, .int x1, .int x2, .long x3]) ++ List.replicate (5 - (lg_sl ([.ref a, .int x1, .int x2, .long x3])).length) Slot.unset).toArray = ls at hl ⊢
  have hl : lv_has ls 5 [(0, .ref a), (1, .int x1), (2, .int x2), (3, .long x3)] := hl
  exact t_X8_addToken_0 (fu := fu) hM hml B.returns B.notSynchronized hc hf hc _ _ hW _ (lv_sub hl [0, 1, 2, 3] rfl)
