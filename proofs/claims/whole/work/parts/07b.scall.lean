section SCALL
variable {G : GG} {p : Program} {l : Launch} {e : Env} {R : Room} {s : State} {m : MethodId} {args : Array Value} {below : List Frame} {meth : Method} {c : Code} {H : Heap} {locs : List Loc} {cells slots : Nat} {Q : State → Prop}
variable {cc : ByteArray} {pc : Nat} {ls : Array Slot} {rest : List Value} {Ts : List Cond} {own : String} {S : ST} {v : GV} {a : Nat}
theorem Ct_self {y : MethodName} {ws : List Cond} {rm : Room} {av : List Value} {o : Option Value} {S2 : ST} {mc ms x : Nat} (h : Ct l y ws rm G (st S x (S x)) av o S2 mc ms) : Ct l y ws rm G S av o S2 mc ms := by rw [st_self] at h; exact h
theorem Ct_rd {y : MethodName} {ws : List Cond} {rm : Room} {av : List Value} {o : Option Value} {mc ms x : Nat} (h : Ct l y ws rm G (st S x (S x)) av o (st S x (S x)) mc ms) : Ct l y ws rm G S av o S mc ms := by rw [st_self] at h; exact h
theorem s_callVi {S2 : ST} {b ci : Nat} {C : String} {T : u_T} {N : Nat} (As : List Value) (st0 : List Value) {x : Int32} {y : MethodName} {ws : List Cond} {rm : Room} {index maxL nL n : Nat} {bytes : ByteArray} {ret : Option FieldType} (hM : MC G p s m args c cc Ts own) (hml : c.maxLocals = nL) (hls : ls.size = nL) (hW : WB G S s H locs) (hc : gC (S b) = ci + 1) (hcl : vwCl[ci]? = some (C, T, N)) (hC : Ct l y ws rm G S (.ref b :: As) (some (.int x)) S2 0 0) (cw : CallW R s args own C index y bytes maxL ret ws rm 0 0 n) (hn : As.length = n) (hstack : rest = As.reverse ++ .ref b :: st0) (hr : (st0.map fun v => v.category).sum ≤ 8) (hf : cells ≤ R.cells ∧ slots ≤ R.slots) (hdg : decode cc pc = .ok (.invokevirtual index, 3))
    (kk : ∀ (H1 : Heap) (locs1 : List Loc), WB G S2 s H1 locs1 → (∀ a, gC (S a) ≠ 0 → gC (S2 a) = gC (S a)) → W p l e R s m args below meth c H1 locs1 cells slots Q (F0 m (pc + 3) ls (.int x :: st0))) : W p l e R s m args below meth c H locs cells slots Q (F0 m pc ls rest) := by
  have hC' : Ct l y ws rm G (st S b (S b)) (.ref b :: As) (some (.int x)) S2 0 0 := by rw [st_self]; exact hC
  refine b_callV hM hml hls (hW.at_ b) hc hcl hC' cw hn hstack hr hf hdg (fun H1 l1 h hk => kk H1 l1 h ?_)
  rw [st_self] at hk
  exact hk
theorem s_callNi {S2 : ST} {b ci : Nat} {C : String} {T : u_T} {N : Nat} (As : List Value) (st0 : List Value) {x : Int32} {y : MethodName} {ws : List Cond} {rm : Room} {index maxL nL n : Nat} {bytes : ByteArray} {ret : Option FieldType} (hM : MC G p s m args c cc Ts own) (hml : c.maxLocals = nL) (hls : ls.size = nL) (hW : WB G S s H locs) (hc : gC (S b) = ci + 1) (hcl : vwCl[ci]? = some (C, T, N)) (hC : Ct l y ws rm G S (.ref b :: As) (some (.int x)) S2 0 0) (cw : CallW R s args own C index y bytes maxL ret ws rm 0 0 n) (hn : As.length = n) (hstack : rest = As.reverse ++ .ref b :: st0) (hr : (st0.map fun v => v.category).sum ≤ 8) (hf : cells ≤ R.cells ∧ slots ≤ R.slots) (hdg : decode cc pc = .ok (.invokevirtual index, 3))
    (kk : ∀ (S1 : ST), S1 = S2 → (∀ a, gC (S a) ≠ 0 → gC (S1 a) = gC (S a)) → ∀ (H1 : Heap) (locs1 : List Loc), WB G S1 s H1 locs1 → W p l e R s m args below meth c H1 locs1 cells slots Q (F0 m (pc + 3) ls (.int x :: st0))) : W p l e R s m args below meth c H locs cells slots Q (F0 m pc ls rest) :=
  s_callVi As st0 hM hml hls hW hc hcl hC cw hn hstack hr hf hdg (fun H1 l1 h hk => kk _ rfl hk H1 l1 h)
theorem s_callSi {S2 : ST} (As : List Value) (st0 : List Value) {x : Int32} {y : MethodName} {ws : List Cond} {rm : Room} {index maxL nL n : Nat} {bytes : ByteArray} {ret : Option FieldType} (hM : MC G p s m args c cc Ts own) (hml : c.maxLocals = nL) (hls : ls.size = nL) (hW : WB G S s H locs) (hC : Ct l y ws rm G S As (some (.int x)) S2 0 0) (cw : CallB R s args own index y bytes maxL ret ws rm 0 0 n ∧ (Cond.static y).before args s = true) (hn : As.length = n) (hstack : rest = As.reverse ++ st0) (hr : (st0.map fun v => v.category).sum ≤ 8) (hf : cells ≤ R.cells ∧ slots ≤ R.slots) (hdg : decode cc pc = .ok (.invokestatic index, 3))
    (kk : ∀ (H1 : Heap) (locs1 : List Loc), WB G S2 s H1 locs1 → (∀ a, gC (S a) ≠ 0 → gC (S2 a) = gC (S a)) → W p l e R s m args below meth c H1 locs1 cells slots Q (F0 m (pc + 3) ls (.int x :: st0))) : W p l e R s m args below meth c H locs cells slots Q (F0 m pc ls rest) := b_callS hM hml hls hW hC cw hn hstack hr hf hdg kk
theorem s_callVl {S2 : ST} {b ci : Nat} {C : String} {T : u_T} {N : Nat} (As : List Value) (st0 : List Value) {x : Int64} {y : MethodName} {ws : List Cond} {rm : Room} {index maxL nL n : Nat} {bytes : ByteArray} {ret : Option FieldType} (hM : MC G p s m args c cc Ts own) (hml : c.maxLocals = nL) (hls : ls.size = nL) (hW : WB G S s H locs) (hc : gC (S b) = ci + 1) (hcl : vwCl[ci]? = some (C, T, N)) (hC : Ct l y ws rm G S (.ref b :: As) (some (.long x)) S2 0 0) (cw : CallW R s args own C index y bytes maxL ret ws rm 0 0 n) (hn : As.length = n) (hstack : rest = As.reverse ++ .ref b :: st0) (hr : (st0.map fun v => v.category).sum ≤ 8) (hf : cells ≤ R.cells ∧ slots ≤ R.slots) (hdg : decode cc pc = .ok (.invokevirtual index, 3))
    (kk : ∀ (H1 : Heap) (locs1 : List Loc), WB G S2 s H1 locs1 → (∀ a, gC (S a) ≠ 0 → gC (S2 a) = gC (S a)) → W p l e R s m args below meth c H1 locs1 cells slots Q (F0 m (pc + 3) ls (.long x :: st0))) : W p l e R s m args below meth c H locs cells slots Q (F0 m pc ls rest) := by
  have hC' : Ct l y ws rm G (st S b (S b)) (.ref b :: As) (some (.long x)) S2 0 0 := by rw [st_self]; exact hC
  refine b_callV hM hml hls (hW.at_ b) hc hcl hC' cw hn hstack hr hf hdg (fun H1 l1 h hk => kk H1 l1 h ?_)
  rw [st_self] at hk
  exact hk
theorem s_callNl {S2 : ST} {b ci : Nat} {C : String} {T : u_T} {N : Nat} (As : List Value) (st0 : List Value) {x : Int64} {y : MethodName} {ws : List Cond} {rm : Room} {index maxL nL n : Nat} {bytes : ByteArray} {ret : Option FieldType} (hM : MC G p s m args c cc Ts own) (hml : c.maxLocals = nL) (hls : ls.size = nL) (hW : WB G S s H locs) (hc : gC (S b) = ci + 1) (hcl : vwCl[ci]? = some (C, T, N)) (hC : Ct l y ws rm G S (.ref b :: As) (some (.long x)) S2 0 0) (cw : CallW R s args own C index y bytes maxL ret ws rm 0 0 n) (hn : As.length = n) (hstack : rest = As.reverse ++ .ref b :: st0) (hr : (st0.map fun v => v.category).sum ≤ 8) (hf : cells ≤ R.cells ∧ slots ≤ R.slots) (hdg : decode cc pc = .ok (.invokevirtual index, 3))
    (kk : ∀ (S1 : ST), S1 = S2 → (∀ a, gC (S a) ≠ 0 → gC (S1 a) = gC (S a)) → ∀ (H1 : Heap) (locs1 : List Loc), WB G S1 s H1 locs1 → W p l e R s m args below meth c H1 locs1 cells slots Q (F0 m (pc + 3) ls (.long x :: st0))) : W p l e R s m args below meth c H locs cells slots Q (F0 m pc ls rest) :=
  s_callVl As st0 hM hml hls hW hc hcl hC cw hn hstack hr hf hdg (fun H1 l1 h hk => kk _ rfl hk H1 l1 h)
theorem s_callSl {S2 : ST} (As : List Value) (st0 : List Value) {x : Int64} {y : MethodName} {ws : List Cond} {rm : Room} {index maxL nL n : Nat} {bytes : ByteArray} {ret : Option FieldType} (hM : MC G p s m args c cc Ts own) (hml : c.maxLocals = nL) (hls : ls.size = nL) (hW : WB G S s H locs) (hC : Ct l y ws rm G S As (some (.long x)) S2 0 0) (cw : CallB R s args own index y bytes maxL ret ws rm 0 0 n ∧ (Cond.static y).before args s = true) (hn : As.length = n) (hstack : rest = As.reverse ++ st0) (hr : (st0.map fun v => v.category).sum ≤ 8) (hf : cells ≤ R.cells ∧ slots ≤ R.slots) (hdg : decode cc pc = .ok (.invokestatic index, 3))
    (kk : ∀ (H1 : Heap) (locs1 : List Loc), WB G S2 s H1 locs1 → (∀ a, gC (S a) ≠ 0 → gC (S2 a) = gC (S a)) → W p l e R s m args below meth c H1 locs1 cells slots Q (F0 m (pc + 3) ls (.long x :: st0))) : W p l e R s m args below meth c H locs cells slots Q (F0 m pc ls rest) := b_callS hM hml hls hW hC cw hn hstack hr hf hdg kk
theorem s_callVv {S2 : ST} {b ci : Nat} {C : String} {T : u_T} {N : Nat} (As : List Value) (st0 : List Value) {y : MethodName} {ws : List Cond} {rm : Room} {index maxL nL n : Nat} {bytes : ByteArray} {ret : Option FieldType} (hM : MC G p s m args c cc Ts own) (hml : c.maxLocals = nL) (hls : ls.size = nL) (hW : WB G S s H locs) (hc : gC (S b) = ci + 1) (hcl : vwCl[ci]? = some (C, T, N)) (hC : Ct l y ws rm G S (.ref b :: As) none S2 0 0) (cw : CallW R s args own C index y bytes maxL ret ws rm 0 0 n) (hn : As.length = n) (hstack : rest = As.reverse ++ .ref b :: st0) (hr : (st0.map fun v => v.category).sum ≤ 8) (hf : cells ≤ R.cells ∧ slots ≤ R.slots) (hdg : decode cc pc = .ok (.invokevirtual index, 3))
    (kk : ∀ (H1 : Heap) (locs1 : List Loc), WB G S2 s H1 locs1 → (∀ a, gC (S a) ≠ 0 → gC (S2 a) = gC (S a)) → W p l e R s m args below meth c H1 locs1 cells slots Q (F0 m (pc + 3) ls st0)) : W p l e R s m args below meth c H locs cells slots Q (F0 m pc ls rest) := by
  have hC' : Ct l y ws rm G (st S b (S b)) (.ref b :: As) none S2 0 0 := by rw [st_self]; exact hC
  refine b_callV hM hml hls (hW.at_ b) hc hcl hC' cw hn hstack hr hf hdg (fun H1 l1 h hk => kk H1 l1 h ?_)
  rw [st_self] at hk
  exact hk
theorem s_callNv {S2 : ST} {b ci : Nat} {C : String} {T : u_T} {N : Nat} (As : List Value) (st0 : List Value) {y : MethodName} {ws : List Cond} {rm : Room} {index maxL nL n : Nat} {bytes : ByteArray} {ret : Option FieldType} (hM : MC G p s m args c cc Ts own) (hml : c.maxLocals = nL) (hls : ls.size = nL) (hW : WB G S s H locs) (hc : gC (S b) = ci + 1) (hcl : vwCl[ci]? = some (C, T, N)) (hC : Ct l y ws rm G S (.ref b :: As) none S2 0 0) (cw : CallW R s args own C index y bytes maxL ret ws rm 0 0 n) (hn : As.length = n) (hstack : rest = As.reverse ++ .ref b :: st0) (hr : (st0.map fun v => v.category).sum ≤ 8) (hf : cells ≤ R.cells ∧ slots ≤ R.slots) (hdg : decode cc pc = .ok (.invokevirtual index, 3))
    (kk : ∀ (S1 : ST), S1 = S2 → (∀ a, gC (S a) ≠ 0 → gC (S1 a) = gC (S a)) → ∀ (H1 : Heap) (locs1 : List Loc), WB G S1 s H1 locs1 → W p l e R s m args below meth c H1 locs1 cells slots Q (F0 m (pc + 3) ls st0)) : W p l e R s m args below meth c H locs cells slots Q (F0 m pc ls rest) :=
  s_callVv As st0 hM hml hls hW hc hcl hC cw hn hstack hr hf hdg (fun H1 l1 h hk => kk _ rfl hk H1 l1 h)
theorem s_callSv {S2 : ST} (As : List Value) (st0 : List Value) {y : MethodName} {ws : List Cond} {rm : Room} {index maxL nL n : Nat} {bytes : ByteArray} {ret : Option FieldType} (hM : MC G p s m args c cc Ts own) (hml : c.maxLocals = nL) (hls : ls.size = nL) (hW : WB G S s H locs) (hC : Ct l y ws rm G S As none S2 0 0) (cw : CallB R s args own index y bytes maxL ret ws rm 0 0 n ∧ (Cond.static y).before args s = true) (hn : As.length = n) (hstack : rest = As.reverse ++ st0) (hr : (st0.map fun v => v.category).sum ≤ 8) (hf : cells ≤ R.cells ∧ slots ≤ R.slots) (hdg : decode cc pc = .ok (.invokestatic index, 3))
    (kk : ∀ (H1 : Heap) (locs1 : List Loc), WB G S2 s H1 locs1 → (∀ a, gC (S a) ≠ 0 → gC (S2 a) = gC (S a)) → W p l e R s m args below meth c H1 locs1 cells slots Q (F0 m (pc + 3) ls st0)) : W p l e R s m args below meth c H locs cells slots Q (F0 m pc ls rest) := b_callS hM hml hls hW hC cw hn hstack hr hf hdg kk
theorem s_callVr {S2 : ST} {b ci : Nat} {C : String} {T : u_T} {N : Nat} (As : List Value) (st0 : List Value) {x : Nat} {y : MethodName} {ws : List Cond} {rm : Room} {index maxL nL n : Nat} {bytes : ByteArray} {ret : Option FieldType} (hM : MC G p s m args c cc Ts own) (hml : c.maxLocals = nL) (hls : ls.size = nL) (hW : WB G S s H locs) (hc : gC (S b) = ci + 1) (hcl : vwCl[ci]? = some (C, T, N)) (hC : Ct l y ws rm G S (.ref b :: As) (some (.ref x)) S2 0 0) (cw : CallW R s args own C index y bytes maxL ret ws rm 0 0 n) (hn : As.length = n) (hstack : rest = As.reverse ++ .ref b :: st0) (hr : (st0.map fun v => v.category).sum ≤ 8) (hf : cells ≤ R.cells ∧ slots ≤ R.slots) (hdg : decode cc pc = .ok (.invokevirtual index, 3))
    (kk : ∀ (H1 : Heap) (locs1 : List Loc), WB G S2 s H1 locs1 → (∀ a, gC (S a) ≠ 0 → gC (S2 a) = gC (S a)) → W p l e R s m args below meth c H1 locs1 cells slots Q (F0 m (pc + 3) ls (.ref x :: st0))) : W p l e R s m args below meth c H locs cells slots Q (F0 m pc ls rest) := by
  have hC' : Ct l y ws rm G (st S b (S b)) (.ref b :: As) (some (.ref x)) S2 0 0 := by rw [st_self]; exact hC
  refine b_callV hM hml hls (hW.at_ b) hc hcl hC' cw hn hstack hr hf hdg (fun H1 l1 h hk => kk H1 l1 h ?_)
  rw [st_self] at hk
  exact hk
theorem s_callNr {S2 : ST} {b ci : Nat} {C : String} {T : u_T} {N : Nat} (As : List Value) (st0 : List Value) {x : Nat} {y : MethodName} {ws : List Cond} {rm : Room} {index maxL nL n : Nat} {bytes : ByteArray} {ret : Option FieldType} (hM : MC G p s m args c cc Ts own) (hml : c.maxLocals = nL) (hls : ls.size = nL) (hW : WB G S s H locs) (hc : gC (S b) = ci + 1) (hcl : vwCl[ci]? = some (C, T, N)) (hC : Ct l y ws rm G S (.ref b :: As) (some (.ref x)) S2 0 0) (cw : CallW R s args own C index y bytes maxL ret ws rm 0 0 n) (hn : As.length = n) (hstack : rest = As.reverse ++ .ref b :: st0) (hr : (st0.map fun v => v.category).sum ≤ 8) (hf : cells ≤ R.cells ∧ slots ≤ R.slots) (hdg : decode cc pc = .ok (.invokevirtual index, 3))
    (kk : ∀ (S1 : ST), S1 = S2 → (∀ a, gC (S a) ≠ 0 → gC (S1 a) = gC (S a)) → ∀ (H1 : Heap) (locs1 : List Loc), WB G S1 s H1 locs1 → W p l e R s m args below meth c H1 locs1 cells slots Q (F0 m (pc + 3) ls (.ref x :: st0))) : W p l e R s m args below meth c H locs cells slots Q (F0 m pc ls rest) :=
  s_callVr As st0 hM hml hls hW hc hcl hC cw hn hstack hr hf hdg (fun H1 l1 h hk => kk _ rfl hk H1 l1 h)
theorem s_callSr {S2 : ST} (As : List Value) (st0 : List Value) {x : Nat} {y : MethodName} {ws : List Cond} {rm : Room} {index maxL nL n : Nat} {bytes : ByteArray} {ret : Option FieldType} (hM : MC G p s m args c cc Ts own) (hml : c.maxLocals = nL) (hls : ls.size = nL) (hW : WB G S s H locs) (hC : Ct l y ws rm G S As (some (.ref x)) S2 0 0) (cw : CallB R s args own index y bytes maxL ret ws rm 0 0 n ∧ (Cond.static y).before args s = true) (hn : As.length = n) (hstack : rest = As.reverse ++ st0) (hr : (st0.map fun v => v.category).sum ≤ 8) (hf : cells ≤ R.cells ∧ slots ≤ R.slots) (hdg : decode cc pc = .ok (.invokestatic index, 3))
    (kk : ∀ (H1 : Heap) (locs1 : List Loc), WB G S2 s H1 locs1 → (∀ a, gC (S a) ≠ 0 → gC (S2 a) = gC (S a)) → W p l e R s m args below meth c H1 locs1 cells slots Q (F0 m (pc + 3) ls (.ref x :: st0))) : W p l e R s m args below meth c H locs cells slots Q (F0 m pc ls rest) := b_callS hM hml hls hW hC cw hn hstack hr hf hdg kk
/-! the JDK's: ordinal, max, min, arraycopy, fill -/
theorem wd_sm : Cond.sameMethod "PanelCopies$Word" "java/lang/Enum" "ordinal" "()I" ∈ wsL_law0 := wg_r18 _ (by decide +kernel)
theorem wd_se : Cond.selects RX10 ⟨"PanelCopies$Word", "ordinal", "()I"⟩ yJx29ce0_ordinal_8abf5 ∈ wsL_law0 := wg_r18 _ (by decide +kernel)
theorem wd_mxs : Cond.static Lib.Math.max.name ∈ wsL_law0 := wg_r15 _ (by decide +kernel)
theorem wd_mxi : Cond.initialized "java/lang/Math" ∈ wsL_law0 := wg_r15 _ (by decide +kernel)
theorem wd_mxc : Cond.code Lib.Math.max.name Lib.Math.max.code 2 (some .int) ∈ wsL_law0 := wg_r15 _ (by decide +kernel)
theorem wd_mns : Cond.static Lib.Math.min.name ∈ wsL_law0 := wg_r15 _ (by decide +kernel)
theorem wd_mnc : Cond.code Lib.Math.min.name Lib.Math.min.code 2 (some .int) ∈ wsL_law0 := wg_r15 _ (by decide +kernel)
theorem wd_acn : Cond.native arraycopyName ∈ wsL_law0 := wg_r28 _ (by decide +kernel)
theorem wd_acs : Cond.static arraycopyName ∈ wsL_law0 := wg_r28 _ (by decide +kernel)
theorem wd_aci : Cond.initialized "java/lang/System" ∈ wsL_law0 := wg_r28 _ (by decide +kernel)
abbrev w_ord : List Cond := Cond.code yJx29ce0_ordinal_8abf5 cJx29ce0_ordinal_8abf5 1 (some .int) :: wsL_law0
abbrev RM_0 : Room := { frames := 0, cells := 0, slots := 0, locals := 0 }
theorem c_ord (l : Launch) (G : GG) (S : ST) (j : Nat) (hj : j < 30) : Ct l yJx29ce0_ordinal_8abf5 w_ord RM_0 G S [.ref (kAd G j)] (some (.int (nI j))) S 0 0 := by
  refine Met.ofW (cc := cJx29ce0_ordinal_8abf5) (maxL := 1) (ret := (some .int)) (by decide) rfl ?_
  intro p e s m args below meth c s₁ B hml hv
  obtain ⟨rfl, hB, hK, hz⟩ := hv
  have hM : MC G p s m _ c cJx29ce0_ordinal_8abf5 w_ord RJx29ce0 := ⟨B.exec, B.bytes, findClass_of_methodNamed B.named, atoms_spec (ws := w_ord) B.pre, hK, hz⟩
  have hW : WB G S s s.heap [] := ⟨hB, va_S.rf⟩
  have hl := lv_entry ([.ref (kAd G j)]) (n := 1) (Nat.le_of_ble_eq_true rfl)
  rw [lg_entry_eq]
  generalize (lg_sl ([.ref (kAd G j)]) ++ List.replicate (1 - (lg_sl ([.ref (kAd G j)])).length) Slot.unset).toArray = ls at hl ⊢
  have hl : lv_has ls 1 [(0, .ref (kAd G j))] := hl
  refine lv_aload_n hM.1 hM.2.1 dJx29ce0_ordinal_8abf5_0 rfl (lv_at hl 0 rfl) ?_
  refine k_od hM hW hj (wgm fk_RJx29ce0_7) dJx29ce0_ordinal_8abf5_1 ?_
  exact W.iret hM.1 hM.2.1 B.returns (b_ret0 hW (fun _ _ => rfl) _) hW.2.2.2 dJx29ce0_ordinal_8abf5_4 B.notSynchronized
theorem g_ord {cm : Cond} {own : String} {idx : Nat} (h1 : Cond.methodLink own idx ⟨"PanelCopies$Word", "ordinal", "()I"⟩ ∈ wsL_law0) : GoodIn (cm :: wsL_law0) (va_wsU own idx RX10 "java/lang/Enum" ⟨"PanelCopies$Word", "ordinal", "()I"⟩ yJx29ce0_ordinal_8abf5 w_ord) := by
  intro w hw
  have : w ∈ wsL_law0 := by
    unfold va_wsU at hw
    simp only [List.mem_append, List.mem_cons, List.not_mem_nil, or_false] at hw
    rcases hw with (rfl | rfl | rfl | rfl | rfl) | rfl | h
    · exact h1
    · exact wd_sm
    · exact wd_se
    · exact im_Jx29ce0_ordinal_8abf5
    · exact it_RJx29ce0
    · exact cd_Jx29ce0_ordinal_8abf5
    · exact h
  exact ⟨List.mem_cons_of_mem _ this, good_of_word (List.all_eq_true.mp WG_good w this)⟩
theorem k_ord (st0 : List Value) {cm : Cond} {index nL : Nat} (hM : MC G p s m args c cc (cm :: wsL_law0) own) (hml : c.maxLocals = nL) (hls : ls.size = nL) (hW : WB G S s H locs) {j : Nat} (hj : j < 30) (hl : Cond.methodLink own index ⟨"PanelCopies$Word", "ordinal", "()I"⟩ ∈ wsL_law0) (hR : RM_0.frames + 1 ≤ R.frames ∧ 8 + (1 + 11) + RM_0.locals ≤ R.locals) (hr : (st0.map fun v => v.category).sum ≤ 8) (hf : cells ≤ R.cells ∧ slots ≤ R.slots) (hdg : decode cc pc = .ok (.invokevirtual index, 3))
    (kk : ∀ (H1 : Heap) (locs1 : List Loc), WB G S s H1 locs1 → (∀ a, gC (S a) ≠ 0 → gC (S a) = gC (S a)) → W p l e R s m args below meth c H1 locs1 cells slots Q (F0 m (pc + 3) ls (.int (nI j) :: st0))) : W p l e R s m args below meth c H locs cells slots Q (F0 m pc ls (.ref (kAd G j) :: st0)) := by
  have hpre : PreV s H RX10 (kAd G j) (Pz G S [.ref (kAd G j)]) [] := by
    obtain ⟨cell, q1, q2, q3, -⟩ := (hM.2.2.2.2.2.2.1 j hj).2.1.kept (H1 := H) (fun a h1 h2 => hW.2.2.1 a h1 h2)
    exact ⟨Pz_blind _ _ _, ⟨cell, q1, q2, q3⟩, (b_preS hM hW).2⟩
  exact b_call (mc := 0) (ms := 0) (g := F0 m pc ls (.ref (kAd G j) :: st0)) hW (va_runU (g := F0 m pc ls (.ref (kAd G j) :: st0)) (As := []) (rest := st0) ⟨hM.1, hM.2.1, hml, hM.2.2.1, hM.2.2.2.1⟩ (c_ord l G S j hj) (va_cwU 0 hM.2.2.2.1 (g_ord hl) rfl rfl rfl rfl (by decide +kernel) hR) hpre rfl rfl hls rfl (lv_room hr) hdg hf) kk
theorem k_max {cm : Cond} {index nL : Nat} (hM : MC G p s m args c cc (cm :: wsL_law0) own) (hml : c.maxLocals = nL) (hls : ls.size = nL) (hl : Cond.methodLink own index Lib.Math.max.name ∈ wsL_law0) (hR : 1 ≤ R.frames) (hL : (rest.map fun v => v.category).sum + 13 ≤ R.locals) (hc : cells ≤ R.cells) (hs : slots ≤ R.slots) {x y : Int32} (hdg : decode cc pc = .ok (.invokestatic index, 3))
    (kk : W p l e R s m args below meth c H locs cells slots Q (F0 m (pc + 3) ls (.int (if x < y then y else x) :: rest))) : W p l e R s m args below meth c H locs cells slots Q (F0 m pc ls (.int y :: .int x :: rest)) :=
  va_mmax hM.1 hM.2.1 (hml.trans hls.symm) hM.2.2.1 (hM.2.2.2.1 _ (wgm hl)) (hM.2.2.2.1 _ (wgm wd_mxs)) (hM.2.2.2.1 _ (wgm wd_mxi)) (hM.2.2.2.1 _ (wgm wd_mxc)) hR hL hc hs hdg kk
theorem k_min {cm : Cond} {index nL : Nat} (hM : MC G p s m args c cc (cm :: wsL_law0) own) (hml : c.maxLocals = nL) (hls : ls.size = nL) (hl : Cond.methodLink own index Lib.Math.min.name ∈ wsL_law0) (hR : 1 ≤ R.frames) (hL : (rest.map fun v => v.category).sum + 13 ≤ R.locals) (hc : cells ≤ R.cells) (hs : slots ≤ R.slots) {x y : Int32} (hdg : decode cc pc = .ok (.invokestatic index, 3))
    (kk : W p l e R s m args below meth c H locs cells slots Q (F0 m (pc + 3) ls (.int (if y < x then y else x) :: rest))) : W p l e R s m args below meth c H locs cells slots Q (F0 m pc ls (.int y :: .int x :: rest)) :=
  va_mmin hM.1 hM.2.1 (hml.trans hls.symm) hM.2.2.1 (hM.2.2.2.1 _ (wgm hl)) (hM.2.2.2.1 _ (wgm wd_mns)) (hM.2.2.2.1 _ (wgm wd_mxi)) (hM.2.2.2.1 _ (wgm wd_mnc)) hR hL hc hs hdg kk
end SCALL
