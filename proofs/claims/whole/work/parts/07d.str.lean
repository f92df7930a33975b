/-! ===== the String constant of scan ===== -/
section SSTR
variable {G : GG} {p : Program} {l : Launch} {e : Env} {R : Room} {s : State} {m : MethodId} {args : Array Value} {below : List Frame} {meth : Method} {c : Code} {H : Heap} {locs : List Loc} {cells slots : Nat} {Q : State → Prop}
variable {cc : ByteArray} {pc : Nat} {ls : Array Slot} {rest : List Value} {Ts : List Cond} {own : String} {S : ST}
theorem k_ldcS (hM : MC G p s m args c cc Ts RX8) (hdg : decode cc pc = .ok (.ldc 65, 2))
    (kk : W p l e R s m args below meth c H locs cells slots Q (F0 m (pc + 2) ls (.ref (kAd G 33) :: rest))) : W p l e R s m args below meth c H locs cells slots Q (F0 m pc ls rest) :=
  va_ldcS hM.1 hM.2.1 hM.2.2.1 hM.2.2.2.2.2.1.2.1 hdg kk
theorem k_cs (hM : MC G p s m args c cc Ts own) (hW : WB G S s H locs) {index : Nat} (hl : Cond.fieldLink own index "java/lang/String" "COMPACT_STRINGS" "Z" ∈ Ts) (hdg : decode cc pc = .ok (.getstatic index, 3))
    (kk : W p l e R s m args below meth c H locs cells slots Q (F0 m (pc + 3) ls (.int 1 :: rest))) : W p l e R s m args below meth c H locs cells slots Q (F0 m pc ls rest) :=
  va_gets hM.1 hM.2.1 hM.2.2.2.2.2.2.2.2.2.2.1 hW.2 hM.2.2.1 (hM.2.2.2.1 _ hl) (fun _ h => h) hdg kk
theorem k_cod (hM : MC G p s m args c cc Ts own) (hW : WB G S s H locs) {index : Nat} (hl : Cond.fieldLink own index "java/lang/String" "coder" "B" ∈ Ts) (hdg : decode cc pc = .ok (.getfield index, 3))
    (kk : W p l e R s m args below meth c H locs cells slots Q (F0 m (pc + 3) ls (.int 0 :: rest))) : W p l e R s m args below meth c H locs cells slots Q (F0 m pc ls (.ref (kAd G 33) :: rest)) :=
  vk_getf hM.1 hM.2.1 hM.2.2.2.2.2.2.2.2.2.2.2.2.1 hW.2 hM.2.2.1 (hM.2.2.2.1 _ hl) (fun _ h => h) hdg kk
theorem k_val (hM : MC G p s m args c cc Ts own) (hW : WB G S s H locs) {index : Nat} (hl : Cond.fieldLink own index "java/lang/String" "value" "[B" ∈ Ts) (hdg : decode cc pc = .ok (.getfield index, 3))
    (kk : W p l e R s m args below meth c H locs cells slots Q (F0 m (pc + 3) ls (.ref (kAd G 34) :: rest))) : W p l e R s m args below meth c H locs cells slots Q (F0 m pc ls (.ref (kAd G 33) :: rest)) :=
  vk_getf hM.1 hM.2.1 hM.2.2.2.2.2.2.2.2.2.2.2.2.2.1 hW.2 hM.2.2.1 (hM.2.2.2.1 _ hl) (fun _ h => h) hdg kk
theorem k_bsg (hM : MC G p s m args c cc Ts own) (hW : WB G S s H locs) {i : Int32} (hin : inb i 8 = true) (hdg : decode cc pc = .ok (.baload, 1))
    (kk : W p l e R s m args below meth c H locs cells slots Q (F0 m (pc + 1) ls (.int (sgn.getD i.toNatClampNeg 0) :: rest))) : W p l e R s m args below meth c H locs cells slots Q (F0 m pc ls (.int i :: .ref (kAd G 34) :: rest)) :=
  va_tb hM.1 hM.2.1 hM.2.2.2.2.2.2.2.2.2.2.2.2.2.2 hW.2 (inb_in hin) rfl hdg kk
theorem k_blen (hM : MC G p s m args c cc Ts own) (hW : WB G S s H locs) (hdg : decode cc pc = .ok (.arraylength, 1))
    (kk : W p l e R s m args below meth c H locs cells slots Q (F0 m (pc + 1) ls (.int 8 :: rest))) : W p l e R s m args below meth c H locs cells slots Q (F0 m pc ls (.ref (kAd G 34) :: rest)) :=
  va_tlen hM.1 hM.2.1 hM.2.2.2.2.2.2.2.2.2.2.2.2.2.2 hW.2 (by decide) hdg kk
theorem k_callC (As : List Value) (st0 : List Value) {x : Int32} {y : MethodName} {ws : List Cond} {rm : Room} {index maxL nL n : Nat} {bytes : ByteArray} {ret : Option FieldType} (hM : MC G p s m args c cc Ts own) (hml : c.maxLocals = nL) (hls : ls.size = nL) (hW : WB G S s H locs) (hC : Ct l y ws rm G S (.ref (kAd G 33) :: As) (some (.int x)) S 0 0) (cw : CallW R s args own RJ0 index y bytes maxL ret ws rm 0 0 n) (hn : As.length = n) (hstack : rest = As.reverse ++ .ref (kAd G 33) :: st0) (hr : (st0.map fun v => v.category).sum ≤ 8) (hf : cells ≤ R.cells ∧ slots ≤ R.slots) (hdg : decode cc pc = .ok (.invokevirtual index, 3))
    (kk : ∀ (H1 : Heap) (locs1 : List Loc), WB G S s H1 locs1 → (∀ a, gC (S a) ≠ 0 → gC (S a) = gC (S a)) → W p l e R s m args below meth c H1 locs1 cells slots Q (F0 m (pc + 3) ls (.int x :: st0))) : W p l e R s m args below meth c H locs cells slots Q (F0 m pc ls rest) := by
  have hpre : PreV s H RJ0 (kAd G 33) (Pz G S (.ref (kAd G 33) :: As)) As := by
    obtain ⟨cell, q1, q2, q3, -⟩ := hM.2.2.2.2.2.2.2.2.2.2.2.1.kept (H1 := H) (fun a h1 h2 => hW.2.2.1 a h1 h2)
    exact ⟨Pz_blind _ _ _, ⟨cell, q1, q2, q3⟩, (b_preS hM hW).2⟩
  exact b_call (mc := 0) (ms := 0) (g := F0 m pc ls rest) hW (va_runV (g := F0 m pc ls rest) (As := As) (rest := st0) ⟨hM.1, hM.2.1, hml, hM.2.2.1, hM.2.2.2.1⟩ hC cw hpre rfl hn hls hstack (lv_room hr) hdg hf) kk
end SSTR
