/-! ===== GalleryReader.read: j Laws are made so far ===== -/
def lwr (S : ST) (n j : Nat) : Bool := decide (j = 0) || decide (gC (S (n + 3 * j - 3)) = 4)
theorem lwr_size {G : GG} {S : ST} {s : State} {H : Heap} {locs : List Loc} {n j : Nat} (h : lwr S n j = true) (hW : WB G S s H locs) (hs0 : s.heap.size = n) (hz : H.size ≤ s.heap.size + 3 * j) : H.size = n + 3 * j := by
  simp only [lwr, Bool.or_eq_true, decide_eq_true_eq] at h
  rcases h with h | h
  · subst h; have := hW.2.1; omega
  · have h7 := hW.1.lt (b := n + 3 * j - 3) h (x := 2) (Or.inr ⟨1, by decide, rfl, rfl⟩)
    have := hW.2.1
    omega
abbrev RM_X2_read : Room := { frames := 49, cells := 9, slots := 3102, locals := 1101 }
abbrev w_X2_read : List Cond := Cond.code yX2_read cX2_read 3 (some .int) :: wsL_law0
noncomputable def f_X2_read_146 (fu n : Nat) (S : ST) (a j : Nat) : Option (Int32 × ST × Nat) :=
  ck (decide (gC (S a) = 2)) <|
  ck (decide (j ≤ 3)) <|
  bd (gR (S a) 0) fun t =>
  ck (decide (gC (S t) = 8)) <|
  bd2 (f_X8_close fu (S t)) fun r tv =>
  nm (st S t tv) fun S1 =>
  ck (lwr S1 n j) <|
  some (r, S1, j)
set_option maxHeartbeats 4000000 in
theorem t_X2_read_146 {G : GG} {p : Program} {l : Launch} {e : Env} {s : State} {m : MethodId} {args : Array Value} {below : List Frame} {meth : Method} {c : Code} {fu a g1 n : Nat} {z : Int32 × ST × Nat} (hM : MC G p s m args c cX2_read w_X2_read RX2) (hml : c.maxLocals = 3) (hr : meth.sig.returnType = (some .int)) (hlk : meth.locks = false) (hs0 : s.heap.size = n) {S : ST} {j : Nat} (hf : f_X2_read_146 fu n S a j = some z) : ∀ (H : Heap) (locs : List Loc), WB G S s H locs → ∀ (ls : Array Slot), lv_has ls 3 [(0, .ref a)] → W p l e RM_X2_read s m args below meth c H locs (3 * j) (1034 * j) (QN G below args s (some (.int z.1)) z.2.1 (n + 3 * z.2.2) 9 3102) (F0 m 146 ls []) := by
  intro H locs hW ls hl
  have hx := hM.1
  have hb := hM.2.1
  unfold f_X2_read_146 at hf
  obtain ⟨h1, hf⟩ := ck_elim hf
  have ha := of_decide_eq_true h1
  obtain ⟨h2, hf⟩ := ck_elim hf
  have hj := of_decide_eq_true h2
  obtain ⟨t, ht0, hf⟩ := bd_elim hf
  obtain ⟨h3, hf⟩ := ck_elim hf
  have ht := of_decide_eq_true h3
  obtain ⟨r, tv, hr1, hf⟩ := bd2_elim hf
  refine lv_aload_n hx hb dX2_read_146 rfl (lv_at hl 0 rfl) ?_
  refine b_get hM (hW.at_ a) 1 0 ha rfl rfl (by decide) wi_X2 (wgm fk_RX2_9) (x := .ref t) (by show va_rf _ = _; rw [ht0]; rfl) dX2_read_147 ?_
  refine s_callNi [] [] hM hml hl.1 hW ht rfl (by decide) (Ct_self (c_X8_close l G fu _ t (S t) ht hr1)) (cwV 0 hM.2.2.2.1 (gV mk_RX2_77 im_X8_close se_X8_close it_RX8 cd_X8_close) rfl rfl rfl (by decide +kernel) ⟨Nat.le_of_ble_eq_true rfl, Nat.le_of_ble_eq_true rfl⟩) rfl rfl (Nat.le_of_ble_eq_true rfl) ⟨by show 3 * j ≤ 9; omega, by show 1034 * j ≤ 3102; omega⟩ dX2_read_150 (fun S1 e1 hk H locs hW => ?_)
  have hf := nm_at e1 hf
  obtain ⟨h4, hf⟩ := ck_elim hf
  refine W.size (fun hz9 => ?_)
  have hz := lwr_size h4 hW hs0 hz9
  cases hf
  refine W.widen (k := 9) (n := 3102) (by omega) (by omega) ?_
  exact W.iret hx hb hr (n_ret hW hz _) hW.2.2.2 dX2_read_153 hlk
theorem t_X2_read_140 {G : GG} {p : Program} {l : Launch} {e : Env} {s : State} {m : MethodId} {args : Array Value} {below : List Frame} {meth : Method} {c : Code} {fu a g1 n : Nat} {z : Int32 × ST × Nat} (hM : MC G p s m args c cX2_read w_X2_read RX2) (hml : c.maxLocals = 3) (hr : meth.sig.returnType = (some .int)) (hlk : meth.locks = false) (hs0 : s.heap.size = n) {k13 : Int32 → ST → Nat → Option (Int32 × ST × Nat)} (hk13 : ∀ (x2 : Int32) (S : ST) (j : Nat), k13 x2 S j = some z → ∀ (H : Heap) (locs : List Loc), WB G S s H locs → ∀ (ls : Array Slot), lv_has ls 3 [(0, .ref a), (1, .ref g1), (2, .int x2)] → W p l e RM_X2_read s m args below meth c H locs (3 * j) (1034 * j) (QN G below args s (some (.int z.1)) z.2.1 (n + 3 * z.2.2) 9 3102) (F0 m 13 ls [])) {x2 : Int32} {S : ST} {j : Nat} (hf : (nm (x2 + (1 : Int32)) fun y => k13 y S j) = some z) : ∀ (H : Heap) (locs : List Loc), WB G S s H locs → ∀ (ls : Array Slot), lv_has ls 3 [(0, .ref a), (1, .ref g1), (2, .int x2)] → W p l e RM_X2_read s m args below meth c H locs (3 * j) (1034 * j) (QN G below args s (some (.int z.1)) z.2.1 (n + 3 * z.2.2) 9 3102) (F0 m 140 ls []) := by
  intro H locs hW ls hl
  have hx := hM.1
  have hb := hM.2.1
  obtain ⟨y3, ey3⟩ : ∃ y : Int32, y = x2 + (1 : Int32) := ⟨_, rfl⟩
  have hf := nm_at ey3 hf
  refine lv_iinc (v := y3) (lv' := [(2, .int y3), (0, .ref a), (1, .ref g1)]) hx hb dX2_read_140 hl (k := 2) rfl (by rw [ey3]; rfl) (by decide) rfl (fun ls hl => ?_)
  refine lv_goto (tgt := 13) hx hb dX2_read_143 (by decide) ?_
  exact hk13 _ _ _ hf _ _ hW _ (lv_sub hl [1, 2, 0] rfl)
noncomputable def f_X2_read_13s (fu : Nat) (G : GG) (n a g1 : Nat) (k13 : Int32 → ST → Nat → Option (Int32 × ST × Nat)) (x2 : Int32) (S : ST) (j : Nat) : Option (Int32 × ST × Nat) :=
  ck (decide (gC (S a) = 2)) <|
  ck (decide (gC (S g1) = 1)) <|
  ck (decide (j ≤ 3)) <|
  if (1000 : Int32) ≤ x2 then f_X2_read_146 fu n S a j else
  bd (gR (S a) 0) fun t =>
  ck (decide (gC (S t) = 8)) <|
  bd (f_X8_goesOn fu (S t)) fun r =>
  if r = 0 then f_X2_read_146 fu n S a j else
  bd (f_X8_word fu (S t)) fun w =>
  ck (decide (w < 30)) <|
  ck (inb (nI w) 30) <|
  nm (smp.getD (nI w).toNatClampNeg 0) fun y =>
  if y = (1 : Int32) then (bd (f_X2_readSpot fu S a g1) fun S1 => nm (x2 + (1 : Int32)) fun y => k13 y S1 j) else
  if y = (2 : Int32) then (bd (f_X2_readThief fu S a g1) fun S1 => nm (x2 + (1 : Int32)) fun y => k13 y S1 j) else
  if y = (3 : Int32) then (bd (f_X2_readCopy fu S a g1) fun S1 => nm (x2 + (1 : Int32)) fun y => k13 y S1 j) else
  if y = (4 : Int32) then (bd (f_X2_readExpert fu S a g1) fun S1 => nm (x2 + (1 : Int32)) fun y => k13 y S1 j) else
  if y = (5 : Int32) then (ck (decide (j < 3)) <| ck (lwr S n j) <| bd (f_X2_readWorth fu G S a g1 (n + 3 * j)) fun S1 => nm (x2 + (1 : Int32)) fun y => k13 y S1 (j + 1)) else
  if y = (6 : Int32) then (ck (decide (j < 3)) <| ck (lwr S n j) <| bd (f_X2_readHard fu G S a g1 (n + 3 * j)) fun S1 => nm (x2 + (1 : Int32)) fun y => k13 y S1 (j + 1)) else
  bd (f_X8_fail fu (S t) (1 : Int32)) fun tv => nm (st S t tv) fun S1 => nm (x2 + (1 : Int32)) fun y => k13 y S1 j
noncomputable def f_X2_read_13 (fu : Nat) (G : GG) (n a g1 N : Nat) : Int32 → ST → Nat → Option (Int32 × ST × Nat) := lq_3 (fun k13 => f_X2_read_13s fu G n a g1 k13) N
set_option maxHeartbeats 4000000 in
set_option maxRecDepth 100000 in
theorem t_X2_read_13s {G : GG} {p : Program} {l : Launch} {e : Env} {s : State} {m : MethodId} {args : Array Value} {below : List Frame} {meth : Method} {c : Code} {fu a g1 n : Nat} {z : Int32 × ST × Nat} (hM : MC G p s m args c cX2_read w_X2_read RX2) (hml : c.maxLocals = 3) (hr : meth.sig.returnType = (some .int)) (hlk : meth.locks = false) (hs0 : s.heap.size = n) {k13 : Int32 → ST → Nat → Option (Int32 × ST × Nat)} (hk13 : ∀ (x2 : Int32) (S : ST) (j : Nat), k13 x2 S j = some z → ∀ (H : Heap) (locs : List Loc), WB G S s H locs → ∀ (ls : Array Slot), lv_has ls 3 [(0, .ref a), (1, .ref g1), (2, .int x2)] → W p l e RM_X2_read s m args below meth c H locs (3 * j) (1034 * j) (QN G below args s (some (.int z.1)) z.2.1 (n + 3 * z.2.2) 9 3102) (F0 m 13 ls [])) : ∀ (x2 : Int32) (S : ST) (j : Nat), f_X2_read_13s fu G n a g1 k13 x2 S j = some z → ∀ (H : Heap) (locs : List Loc), WB G S s H locs → ∀ (ls : Array Slot), lv_has ls 3 [(0, .ref a), (1, .ref g1), (2, .int x2)] → W p l e RM_X2_read s m args below meth c H locs (3 * j) (1034 * j) (QN G below args s (some (.int z.1)) z.2.1 (n + 3 * z.2.2) 9 3102) (F0 m 13 ls []) := by
  intro x2 S j hf H locs hW ls hl
  have hx := hM.1
  have hb := hM.2.1
  unfold f_X2_read_13s at hf
  obtain ⟨h1, hf⟩ := ck_elim hf
  have ha := of_decide_eq_true h1
  obtain ⟨h2, hf⟩ := ck_elim hf
  have hg1 := of_decide_eq_true h2
  obtain ⟨h3, hf⟩ := ck_elim hf
  have hj := of_decide_eq_true h3
  refine lv_iload_n hx hb dX2_read_13 rfl (lv_at hl 2 rfl) ?_
  refine lv_sipush (v := (1000 : Int32)) hx hb dX2_read_14 (by decide) ?_
  refine lv_icmp_ge (tgt := 146) hx hb dX2_read_17 (by decide) (fun c1 => ?_) (fun c1 => ?_)
  · have hf := if_t c1 hf
    exact t_X2_read_146 (g1 := g1) hM hml hr hlk hs0 hf _ _ hW _ (lv_sub hl [0] rfl)
  have hf := if_f c1 hf
  obtain ⟨t, ht0, hf⟩ := bd_elim hf
  obtain ⟨h4, hf⟩ := ck_elim hf
  have ht := of_decide_eq_true h4
  obtain ⟨r, hr1, hf⟩ := bd_elim hf
  refine lv_aload_n hx hb dX2_read_20 rfl (lv_at hl 0 rfl) ?_
  refine b_get hM (hW.at_ a) 1 0 ha rfl rfl (by decide) wi_X2 (wgm fk_RX2_9) (x := .ref t) (by show va_rf _ = _; rw [ht0]; rfl) dX2_read_21 ?_
  refine s_callVi [] [] hM hml hl.1 hW ht rfl (by decide) (Ct_rd (c_X8_goesOn l G fu _ t (S t) ht hr1)) (cwV 0 hM.2.2.2.1 (gV mk_RX2_34 im_X8_goesOn se_X8_goesOn it_RX8 cd_X8_goesOn) rfl rfl rfl (by decide +kernel) ⟨Nat.le_of_ble_eq_true rfl, Nat.le_of_ble_eq_true rfl⟩) rfl rfl (Nat.le_of_ble_eq_true rfl) ⟨by show 3 * j ≤ 9; omega, by show 1034 * j ≤ 3102; omega⟩ dX2_read_24 (fun H locs hW hk => ?_)
  refine lv_if_eq (tgt := 146) hx hb dX2_read_27 (by decide) (fun c2 => ?_) (fun c2 => ?_)
  · have hf := if_t c2 hf
    exact t_X2_read_146 (g1 := g1) hM hml hr hlk hs0 hf _ _ hW _ (lv_sub hl [0] rfl)
  have hf := if_f c2 hf
  obtain ⟨w, hr2, hf⟩ := bd_elim hf
  obtain ⟨h5, hf⟩ := ck_elim hf
  have hw := of_decide_eq_true h5
  obtain ⟨h6, hf⟩ := ck_elim hf
  refine k_smap hM hW (wgm fk_RX2_38) dX2_read_30 ?_
  refine lv_aload_n hx hb dX2_read_33 rfl (lv_at hl 0 rfl) ?_
  refine b_get hM (hW.at_ a) 1 0 ha rfl rfl (by decide) wi_X2 (wgm fk_RX2_9) (x := .ref t) (by show va_rf _ = _; rw [ht0]; rfl) dX2_read_34 ?_
  refine s_callVr [] [.ref (kAd G 31)] hM hml hl.1 hW ht rfl (by decide) (Ct_rd (c_X8_word l G fu _ t (S t) ht hr2)) (cwV 0 hM.2.2.2.1 (gV mk_RX2_44 im_X8_word se_X8_word it_RX8 cd_X8_word) rfl rfl rfl (by decide +kernel) ⟨Nat.le_of_ble_eq_true rfl, Nat.le_of_ble_eq_true rfl⟩) rfl rfl (Nat.le_of_ble_eq_true rfl) ⟨by show 3 * j ≤ 9; omega, by show 1034 * j ≤ 3102; omega⟩ dX2_read_37 (fun H locs hW hk => ?_)
  refine k_ord [.ref (kAd G 31)] hM hml hl.1 hW hw mk_RX2_48 ⟨Nat.le_of_ble_eq_true rfl, Nat.le_of_ble_eq_true rfl⟩ (Nat.le_of_ble_eq_true rfl) ⟨by show 3 * j ≤ 9; omega, by show 1034 * j ≤ 3102; omega⟩ dX2_read_40 (fun H locs hW _ => ?_)
  refine k_ism hM hW h6 dX2_read_43 ?_
  refine lv_topi (fun y ey => ?_)
  have hf := nm_at ey hf
  by_cases cc1 : y = (1 : Int32)
  · have hf := if_t cc1 hf
    refine lv_tableIn (off := 40) (tgt := 84) hx hb dX2_read_44 (by rw [cc1]; decide) (by rw [cc1]; decide) (by rw [cc1]; rfl) (by decide) ?_
    obtain ⟨S1, hr3, hf⟩ := bd_elim hf
    refine lv_aload_n hx hb dX2_read_84 rfl (lv_at hl 0 rfl) ?_
    refine lv_aload_n hx hb dX2_read_85 rfl (lv_at hl 1 rfl) ?_
    refine s_callVv [.ref g1] [] hM hml hl.1 hW ha rfl (by decide) (c_X2_readSpot l G fu _ a g1 ha hg1 hr3) (cwV 1 hM.2.2.2.1 (gV mk_RX2_54 im_X2_readSpot se_X2_readSpot it_RX2 cd_X2_readSpot) rfl rfl rfl (by decide +kernel) ⟨Nat.le_of_ble_eq_true rfl, Nat.le_of_ble_eq_true rfl⟩) rfl rfl (Nat.le_of_ble_eq_true rfl) ⟨by show 3 * j ≤ 9; omega, by show 1034 * j ≤ 3102; omega⟩ dX2_read_86 (fun H locs hW hk => ?_)
    refine lv_goto (tgt := 140) hx hb dX2_read_89 (by decide) ?_
    exact t_X2_read_140 (fu := fu) hM hml hr hlk hs0 hk13 hf _ _ hW _ hl
  have hf := if_f cc1 hf
  by_cases cc2 : y = (2 : Int32)
  · have hf := if_t cc2 hf
    refine lv_tableIn (off := 48) (tgt := 92) hx hb dX2_read_44 (by rw [cc2]; decide) (by rw [cc2]; decide) (by rw [cc2]; rfl) (by decide) ?_
    obtain ⟨S1, hr3, hf⟩ := bd_elim hf
    refine lv_aload_n hx hb dX2_read_92 rfl (lv_at hl 0 rfl) ?_
    refine lv_aload_n hx hb dX2_read_93 rfl (lv_at hl 1 rfl) ?_
    refine s_callVv [.ref g1] [] hM hml hl.1 hW ha rfl (by decide) (c_X2_readThief l G fu _ a g1 ha hg1 hr3) (cwV 1 hM.2.2.2.1 (gV mk_RX2_58 im_X2_readThief se_X2_readThief it_RX2 cd_X2_readThief) rfl rfl rfl (by decide +kernel) ⟨Nat.le_of_ble_eq_true rfl, Nat.le_of_ble_eq_true rfl⟩) rfl rfl (Nat.le_of_ble_eq_true rfl) ⟨by show 3 * j ≤ 9; omega, by show 1034 * j ≤ 3102; omega⟩ dX2_read_94 (fun H locs hW hk => ?_)
    refine lv_goto (tgt := 140) hx hb dX2_read_97 (by decide) ?_
    exact t_X2_read_140 (fu := fu) hM hml hr hlk hs0 hk13 hf _ _ hW _ hl
  have hf := if_f cc2 hf
  by_cases cc3 : y = (3 : Int32)
  · have hf := if_t cc3 hf
    refine lv_tableIn (off := 56) (tgt := 100) hx hb dX2_read_44 (by rw [cc3]; decide) (by rw [cc3]; decide) (by rw [cc3]; rfl) (by decide) ?_
    obtain ⟨S1, hr3, hf⟩ := bd_elim hf
    refine lv_aload_n hx hb dX2_read_100 rfl (lv_at hl 0 rfl) ?_
    refine lv_aload_n hx hb dX2_read_101 rfl (lv_at hl 1 rfl) ?_
    refine s_callVv [.ref g1] [] hM hml hl.1 hW ha rfl (by decide) (c_X2_readCopy l G fu _ a g1 ha hg1 hr3) (cwV 1 hM.2.2.2.1 (gV mk_RX2_61 im_X2_readCopy se_X2_readCopy it_RX2 cd_X2_readCopy) rfl rfl rfl (by decide +kernel) ⟨Nat.le_of_ble_eq_true rfl, Nat.le_of_ble_eq_true rfl⟩) rfl rfl (Nat.le_of_ble_eq_true rfl) ⟨by show 3 * j ≤ 9; omega, by show 1034 * j ≤ 3102; omega⟩ dX2_read_102 (fun H locs hW hk => ?_)
    refine lv_goto (tgt := 140) hx hb dX2_read_105 (by decide) ?_
    exact t_X2_read_140 (fu := fu) hM hml hr hlk hs0 hk13 hf _ _ hW _ hl
  have hf := if_f cc3 hf
  by_cases cc4 : y = (4 : Int32)
  · have hf := if_t cc4 hf
    refine lv_tableIn (off := 64) (tgt := 108) hx hb dX2_read_44 (by rw [cc4]; decide) (by rw [cc4]; decide) (by rw [cc4]; rfl) (by decide) ?_
    obtain ⟨S1, hr3, hf⟩ := bd_elim hf
    refine lv_aload_n hx hb dX2_read_108 rfl (lv_at hl 0 rfl) ?_
    refine lv_aload_n hx hb dX2_read_109 rfl (lv_at hl 1 rfl) ?_
    refine s_callVv [.ref g1] [] hM hml hl.1 hW ha rfl (by decide) (c_X2_readExpert l G fu _ a g1 ha hg1 hr3) (cwV 1 hM.2.2.2.1 (gV mk_RX2_64 im_X2_readExpert se_X2_readExpert it_RX2 cd_X2_readExpert) rfl rfl rfl (by decide +kernel) ⟨Nat.le_of_ble_eq_true rfl, Nat.le_of_ble_eq_true rfl⟩) rfl rfl (Nat.le_of_ble_eq_true rfl) ⟨by show 3 * j ≤ 9; omega, by show 1034 * j ≤ 3102; omega⟩ dX2_read_110 (fun H locs hW hk => ?_)
    refine lv_goto (tgt := 140) hx hb dX2_read_113 (by decide) ?_
    exact t_X2_read_140 (fu := fu) hM hml hr hlk hs0 hk13 hf _ _ hW _ hl
  have hf := if_f cc4 hf
  by_cases cc5 : y = (5 : Int32)
  · have hf := if_t cc5 hf
    refine lv_tableIn (off := 72) (tgt := 116) hx hb dX2_read_44 (by rw [cc5]; decide) (by rw [cc5]; decide) (by rw [cc5]; rfl) (by decide) ?_
    obtain ⟨h7, hf⟩ := ck_elim hf
    have hj3 := of_decide_eq_true h7
    obtain ⟨h8, hf⟩ := ck_elim hf
    obtain ⟨S1, hr3, hf⟩ := bd_elim hf
    refine lv_aload_n hx hb dX2_read_116 rfl (lv_at hl 0 rfl) ?_
    refine lv_aload_n hx hb dX2_read_117 rfl (lv_at hl 1 rfl) ?_
    refine W.size (fun hz9 => ?_)
    have hz := lwr_size h8 hW hs0 hz9
    refine n_callV (np := 1) [.ref g1] [] hM hml hl.1 hW hz ha rfl (by decide) (c_X2_readWorth l G fu _ a g1 (n + 3 * j) ha hg1 hr3) (cwV 1 hM.2.2.2.1 (gV mk_RX2_67 im_X2_readWorth se_X2_readWorth it_RX2 cd_X2_readWorth) rfl rfl rfl (by decide +kernel) ⟨Nat.le_of_ble_eq_true rfl, Nat.le_of_ble_eq_true rfl⟩) rfl rfl (Nat.le_of_ble_eq_true rfl) ⟨by show 3 * j + 3 ≤ 9; omega, by show 1034 * j + 1034 ≤ 3102; omega⟩ dX2_read_118 (fun H locs hz hW => ?_)
    refine W.eq (g2 := F0 m 121 ls []) rfl ?_
    refine lv_goto (tgt := 140) hx hb dX2_read_121 (by decide) ?_
    exact t_X2_read_140 (fu := fu) (j := j + 1) hM hml hr hlk hs0 hk13 hf _ _ hW _ hl
  have hf := if_f cc5 hf
  by_cases cc6 : y = (6 : Int32)
  · have hf := if_t cc6 hf
    refine lv_tableIn (off := 80) (tgt := 124) hx hb dX2_read_44 (by rw [cc6]; decide) (by rw [cc6]; decide) (by rw [cc6]; rfl) (by decide) ?_
    obtain ⟨h7, hf⟩ := ck_elim hf
    have hj3 := of_decide_eq_true h7
    obtain ⟨h8, hf⟩ := ck_elim hf
    obtain ⟨S1, hr3, hf⟩ := bd_elim hf
    refine lv_aload_n hx hb dX2_read_124 rfl (lv_at hl 0 rfl) ?_
    refine lv_aload_n hx hb dX2_read_125 rfl (lv_at hl 1 rfl) ?_
    refine W.size (fun hz9 => ?_)
    have hz := lwr_size h8 hW hs0 hz9
    refine n_callV (np := 1) [.ref g1] [] hM hml hl.1 hW hz ha rfl (by decide) (c_X2_readHard l G fu _ a g1 (n + 3 * j) ha hg1 hr3) (cwV 1 hM.2.2.2.1 (gV mk_RX2_70 im_X2_readHard se_X2_readHard it_RX2 cd_X2_readHard) rfl rfl rfl (by decide +kernel) ⟨Nat.le_of_ble_eq_true rfl, Nat.le_of_ble_eq_true rfl⟩) rfl rfl (Nat.le_of_ble_eq_true rfl) ⟨by show 3 * j + 3 ≤ 9; omega, by show 1034 * j + 1034 ≤ 3102; omega⟩ dX2_read_126 (fun H locs hz hW => ?_)
    refine W.eq (g2 := F0 m 129 ls []) rfl ?_
    refine lv_goto (tgt := 140) hx hb dX2_read_129 (by decide) ?_
    exact t_X2_read_140 (fu := fu) (j := j + 1) hM hml hr hlk hs0 hk13 hf _ _ hW _ hl
  have hf := if_f cc6 hf
  refine lv_tableOut (tgt := 132) hx hb dX2_read_44 (sw_out (fun j h1 h2 hj => ?_)) (by decide) ?_
  · have hcases : j = 1 ∨ j = 2 ∨ j = 3 ∨ j = 4 ∨ j = 5 ∨ j = 6 := by omega
    rcases hcases with rfl | rfl | rfl | rfl | rfl | rfl
    · exact cc1 (Int32.toInt_inj.mp (hj.trans (by decide)))
    · exact cc2 (Int32.toInt_inj.mp (hj.trans (by decide)))
    · exact cc3 (Int32.toInt_inj.mp (hj.trans (by decide)))
    · exact cc4 (Int32.toInt_inj.mp (hj.trans (by decide)))
    · exact cc5 (Int32.toInt_inj.mp (hj.trans (by decide)))
    · exact cc6 (Int32.toInt_inj.mp (hj.trans (by decide)))
  · obtain ⟨tv, hr3, hf⟩ := bd_elim hf
    refine lv_aload_n hx hb dX2_read_132 rfl (lv_at hl 0 rfl) ?_
    refine b_get hM (hW.at_ a) 1 0 ha rfl rfl (by decide) wi_X2 (wgm fk_RX2_9) (x := .ref t) (by show va_rf _ = _; rw [ht0]; rfl) dX2_read_133 ?_
    refine lv_iconst (v := (1 : Int32)) hx hb dX2_read_136 (by decide) ?_
    refine s_callNv [.int (1 : Int32)] [] hM hml hl.1 hW ht rfl (by decide) (Ct_self (c_X8_fail l G fu _ t (S t) _ ht hr3)) (cwV 1 hM.2.2.2.1 (gV mk_RX2_73 im_X8_fail se_X8_fail it_RX8 cd_X8_fail) rfl rfl rfl (by decide +kernel) ⟨Nat.le_of_ble_eq_true rfl, Nat.le_of_ble_eq_true rfl⟩) rfl rfl (Nat.le_of_ble_eq_true rfl) ⟨by show 3 * j ≤ 9; omega, by show 1034 * j ≤ 3102; omega⟩ dX2_read_137 (fun S1 e1 hk H locs hW => ?_)
    have hf := nm_at e1 hf
    exact t_X2_read_140 (fu := fu) hM hml hr hlk hs0 hk13 hf _ _ hW _ hl
theorem t_X2_read_13 {G : GG} {p : Program} {l : Launch} {e : Env} {s : State} {m : MethodId} {args : Array Value} {below : List Frame} {meth : Method} {c : Code} {fu a g1 n : Nat} {z : Int32 × ST × Nat} (hM : MC G p s m args c cX2_read w_X2_read RX2) (hml : c.maxLocals = 3) (hr : meth.sig.returnType = (some .int)) (hlk : meth.locks = false) (hs0 : s.heap.size = n) : ∀ {N : Nat} (x2 : Int32) (S : ST) (j : Nat), f_X2_read_13 fu G n a g1 N x2 S j = some z → ∀ (H : Heap) (locs : List Loc), WB G S s H locs → ∀ (ls : Array Slot), lv_has ls 3 [(0, .ref a), (1, .ref g1), (2, .int x2)] → W p l e RM_X2_read s m args below meth c H locs (3 * j) (1034 * j) (QN G below args s (some (.int z.1)) z.2.1 (n + 3 * z.2.2) 9 3102) (F0 m 13 ls []) := by
  intro N
  induction N with
  | zero => intro x2 S j hf; cases hf
  | succ N ih => intro x2 S j hf; exact t_X2_read_13s (fu := fu) hM hml hr hlk hs0 (k13 := f_X2_read_13 fu G n a g1 N) ih _ _ _ hf
noncomputable def f_X2_read (fu : Nat) (G : GG) (S : ST) (a g1 n : Nat) : Option (Int32 × ST × Nat) :=
  bd (f_X1_clear fu S g1) fun S1 =>
  ck (decide (gC (S1 a) = 2)) <|
  bd (gR (S1 a) 0) fun t =>
  ck (decide (gC (S1 t) = 8)) <|
  bd (f_X8_open fu (S1 t)) fun tv =>
  nm (st S1 t tv) fun S2 =>
  f_X2_read_13 fu G n a g1 fu (0 : Int32) S2 0
set_option maxHeartbeats 4000000 in
set_option maxRecDepth 100000 in
theorem c_X2_read (l : Launch) (G : GG) (fu : Nat) (S : ST) (a g1 n : Nat) {z : Int32} {S' : ST} {j' : Nat} (ha : gC (S a) = 2) (hg1 : gC (S g1) = 1) (hf : f_X2_read fu G S a g1 n = some (z, S', j')) : Cn l yX2_read w_X2_read RM_X2_read G S n [.ref a, .ref g1] (some (.int z)) S' (n + 3 * j') 9 3102 := by
  refine Met.ofW (cc := cX2_read) (maxL := 3) (ret := (some .int)) (by decide) rfl ?_
  intro p e s m args below meth c s₁ B hml hv
  obtain ⟨rfl, hB, hK, hzw, hz0⟩ := hv
  have hM : MC G p s m _ c cX2_read w_X2_read RX2 := ⟨B.exec, B.bytes, findClass_of_methodNamed B.named, atoms_spec (ws := w_X2_read) B.pre, hK, hzw⟩
  have hW : WB G S s s.heap [] := ⟨hB, va_S.rf⟩
  have hl := lv_entry ([.ref a, .ref g1]) (n := 3) (Nat.le_of_ble_eq_true rfl)
  rw [lg_entry_eq]
  generalize (lg_sl ([.ref a, .ref g1]) ++ List.replicate (3 - (lg_sl ([.ref a, .ref g1])).length) Slot.unset).toArray = ls at hl ⊢
  have hl : lv_has ls 3 [(0, .ref a), (1, .ref g1)] := hl
  have hx := hM.1
  have hb := hM.2.1
  unfold f_X2_read at hf
  obtain ⟨S1, hr1, hf⟩ := bd_elim hf
  refine lv_aload_n hx hb dX2_read_0 rfl (lv_at hl 1 rfl) ?_
  refine s_callVv [] [] hM hml hl.1 hW hg1 rfl (by decide) (c_X1_clear l G fu _ g1 hg1 hr1) (cwV 0 hM.2.2.2.1 (gV mk_RX2_24 im_X1_clear se_X1_clear it_RX1 cd_X1_clear) rfl rfl rfl (by decide +kernel) ⟨Nat.le_of_ble_eq_true rfl, Nat.le_of_ble_eq_true rfl⟩) rfl rfl (Nat.le_of_ble_eq_true rfl) ⟨Nat.zero_le _, Nat.zero_le _⟩ dX2_read_1 (fun H locs hW hk => ?_)
  obtain ⟨h1, hf⟩ := ck_elim hf
  have ha := of_decide_eq_true h1
  obtain ⟨t, ht0, hf⟩ := bd_elim hf
  obtain ⟨h2, hf⟩ := ck_elim hf
  have ht := of_decide_eq_true h2
  obtain ⟨tv, hr2, hf⟩ := bd_elim hf
  refine lv_aload_n hx hb dX2_read_4 rfl (lv_at hl 0 rfl) ?_
  refine b_get hM (hW.at_ a) 1 0 ha rfl rfl (by decide) wi_X2 (wgm fk_RX2_9) (x := .ref t) (by show va_rf _ = _; rw [ht0]; rfl) dX2_read_5 ?_
  refine s_callNv [] [] hM hml hl.1 hW ht rfl (by decide) (Ct_self (c_X8_open l G fu _ t (S1 t) ht hr2)) (cwV 0 hM.2.2.2.1 (gV mk_RX2_29 im_X8_open se_X8_open it_RX8 cd_X8_open) rfl rfl rfl (by decide +kernel) ⟨Nat.le_of_ble_eq_true rfl, Nat.le_of_ble_eq_true rfl⟩) rfl rfl (Nat.le_of_ble_eq_true rfl) ⟨Nat.zero_le _, Nat.zero_le _⟩ dX2_read_8 (fun S2 e2 hk H locs hW => ?_)
  have hf := nm_at e2 hf
  refine lv_iconst (v := (0 : Int32)) hx hb dX2_read_11 (by decide) ?_
  refine lv_istore_n (lv' := [(2, .int (0 : Int32)), (0, .ref a), (1, .ref g1)]) hx hb dX2_read_12 rfl hl (by decide) rfl (fun ls hl => ?_)
  exact t_X2_read_13 (fu := fu) (z := (z, S', j')) hM hml B.returns B.notSynchronized hz0 _ _ 0 hf _ _ hW _ (lv_sub hl [1, 2, 0] rfl)
