/-! ===== the case of rests ===== -/
/-- out behind the law's rests -/
def lwS (w : GV) : Option Int32 → GV
  | some z => sL w 0 0 z.toInt64
  | none => w
theorem lr_full {n : Nat} {Sc : ST} {v w : GV} (o : Option Int32) : lrS (fullS n Sc v w) (n + 257) o = fullS n Sc v (lwS w o) := by
  cases o with
  | none => rfl
  | some z =>
    have hw : fullS n Sc v w (n + 257) = w := by rw [fullS, st_ne _ _ (by omega), st_same]
    simp only [lrS, lwS, hw]
    funext x
    by_cases e1 : x = n + 257
    · subst e1; rw [st_same, fullS, st_ne _ _ (by omega), st_same]
    · rw [st_ne _ _ e1]
      by_cases e2 : x = n + 230
      · subst e2; rw [fullS, fullS, st_same, st_same]
      · rw [fullS, fullS, st_ne _ _ e2, st_ne _ _ e1, st_ne _ _ e2, st_ne _ _ e1]
theorem lws_C (w : GV) (o : Option Int32) : gC (lwS w o) = gC w := by cases o <;> rfl
theorem lws_N (w : GV) (o : Option Int32) : gN (lwS w o) 0 = gN w 0 := by cases o <;> rfl
theorem lr_cw : Cond.codeWith yL_rests cL_rests 7 (some .int) [(0, 14, 17, 13)] ∈ wsL_law0 := wg_r61 _ (by decide +kernel)
section LRC
variable {D : va_G} {cA : Nat → ClassId} {p : Program} {l : Launch} {e : Env} {s : State} {m : MethodId} {args : Array Value} {below : List Frame} {meth : Method} {c : Code} {cells slots b L j : Nat} {xs : Nat → Int32} {Q : State → Prop}

set_option maxHeartbeats 4000000 in
theorem L_lr {k1 k2 fu : Nat} {Sc : ST} {v w : GV} {H : Heap} {locs : List Loc} {ls : Array Slot} {rest : List Value} {x1 x2 x3 x4 : Int32} {o : Option Int32} (st0 : List Value) (hst : l.stackTraces = false) (hXZ : XZ (Gz D cA s.heap.size) k1 k2 s) (hM : MC (Gz D cA s.heap.size) p s m args c cL_law (cmL :: wsL_law0) RL) (hWX : ∀ w ∈ WX, w.before args s = true) (hml : c.maxLocals = 7) (hls : ls.size = 7) (hI : IV D cA s Sc v w H locs) (hcc : gC (Sc s.heap.size) = 11) (hf : f_X12_rests fu x1 x2 x3 x4 = some o) (hstack : rest = [.ref (s.heap.size + 257), .int x4, .int x3, .int x2, .int x1, .ref s.heap.size] ++ st0) (hr : (st0.map fun v => v.category).sum ≤ 8) (hroom : cells + 1 ≤ room_1.cells ∧ slots + 6 ≤ room_1.slots) {pc : Nat} (hdg : decode cL_law pc = .ok (.invokestatic 138, 3))
    (kk : ∀ (H1 : Heap) (locs1 : List Loc), IV D cA s Sc v (lwS w o) H1 locs1 → W p l e room_1 s m args below meth c H1 locs1 (cells + 1) (slots + 6) Q (F0 m (pc + 3) ls (.int (thr o) :: st0))) : W p l e room_1 s m args below meth c H locs cells slots Q (F0 m pc ls rest) := by
  have hTs : ∀ w ∈ cmL :: WX, w.before args s = true := fun w h => (List.mem_cons.mp h).elim (fun q => by rw [q]; exact hM.2.2.2.1 _ List.mem_cons_self) (hWX w)
  have hW := hI.full
  have hpre : PreS s H (Px (Gz D cA s.heap.size) (fullS s.heap.size Sc v w) k1 k2 [.ref s.heap.size, .int x1, .int x2, .int x3, .int x4, .ref (s.heap.size + 257)]) [.ref s.heap.size, .int x1, .int x2, .int x3, .int x4, .ref (s.heap.size + 257)] := by
    refine ⟨Px_blind _ _ _ _ _, fun U hU hw => ?_⟩
    obtain ⟨q0, q1⟩ := (b_preS (As := [.ref s.heap.size, .int x1, .int x2, .int x3, .int x4, .ref (s.heap.size + 257)]) hM hW).2 U hU hw
    exact ⟨q0, q1, XZ_next hXZ hW.2 hU hw⟩
  have hrun := vx_runSX (below := below) (l := l) (e := e) (locs := locs) (H := H) (cells := cells) (slots := slots) (R := room_1) (g := F0 m pc ls rest) (As := [.ref s.heap.size, .int x1, .int x2, .int x3, .int x4, .ref (s.heap.size + 257)]) (rest := st0) (nL := 7) (meth := meth) ⟨hM.1, hM.2.1, hml, hM.2.2.1, hTs⟩ (c_L_rests l hst (Gz D cA s.heap.size) fu (fullS s.heap.size Sc v w) s.heap.size (s.heap.size + 257) k1 k2 x1 x2 x3 x4 (by rw [full_n (by omega) (by omega)]; exact hcc) (by rw [full_o]; exact hI.2.2.2.2.2.1) (by rw [full_o]; exact hI.2.2.2.2.2.2) hf) (vx_cwSW 6 hTs (gSx mk_RL_138 sm_L_rests (Or.inr rfl) lr_cw rfl) rfl rfl rfl (by decide +kernel) ⟨Nat.le_of_ble_eq_true rfl, Nat.le_of_ble_eq_true rfl⟩) hpre rfl rfl hls hstack (lv_room hr) hdg hroom
  intro T hT X
  rcases hrun T hT X with ⟨v9, st₀, t, T', L, h0, X', hL, e1, e2, ⟨hv, hB, hz, hk⟩, st⟩ | ⟨q, st₀, t, T', L, E, ce, h0, X', hL, e1, e2, hq, -⟩
  · cases hv
    rw [h0] at hz hk
    have hW' : WB (Gz D cA s.heap.size) (lrS (fullS s.heap.size Sc v w) (s.heap.size + 257) o) s T'.heap (locs ++ L) := ⟨by rw [e1]; exact hB, ⟨Nat.le_trans hW.2.1 (by rw [e1]; exact hz), fun q h1 h2 => by rw [e1, hk q (Nat.lt_of_lt_of_le h1 hW.2.1) h2]; exact hW.2.2.1 q h1 h2, fun q hq => by
      rcases List.mem_append.mp hq with h | h
      · exact hW.2.2.2 q h
      · exact hL q h⟩⟩
    rw [lr_full] at hW'
    obtain ⟨t2, a1, b1⟩ := kk T'.heap (locs ++ L) (IV.of hW' hI.2.2.2.2.1 (by rw [lws_C]; exact hI.2.2.2.2.2.1) (by rw [lws_N]; exact hI.2.2.2.2.2.2) (fun x h1 h2 => hI.no h1 h2)) T' rfl X'
    exact ⟨t2, st t2 a1, b1⟩
  · exact absurd hq id
theorem lr_end {Sc : ST} {v w : GV} {H : Heap} {locs : List Loc} {ls : Array Slot} {o : Option Int32} (hM : MC (Gz D cA s.heap.size) p s m args c cL_law (cmL :: wsL_law0) RL) (hcr : cells + 9 ≤ 601024 ∧ slots + 3102 ≤ 7293034) (hI : IV D cA s Sc v (lwS w o) H locs) (hR : RR s.heap.size Sc v) (hl : lv_has ls 7 [(6, .int (o.getD 0)), (5, .int (thr o)), (0, .ref b), (1, .ref s.heap.size), (2, .ref (s.heap.size + 230)), (3, .ref (s.heap.size + 257)), (4, .int (nI (7 * j)))]) (kk : ∀ (Sc : ST) (v w : GV) (H : Heap) (locs : List Loc) (ls : Array Slot), IV D cA s Sc v w H locs → RR s.heap.size Sc v → lv_has ls 7 [(0, .ref b), (1, .ref s.heap.size), (2, .ref (s.heap.size + 230)), (3, .ref (s.heap.size + 257)), (4, .int (nI (7 * j)))] → W p l e room_1 s m args below meth c H locs (cells + 9) (slots + 3102) Q (F0 m 1386 ls [])) : W p l e room_1 s m args below meth c H locs (cells + 1) (slots + 6) Q (F0 m 1165 ls []) := by
  have hx := hM.1
  have hb := hM.2.1
  have fin : W p l e room_1 s m args below meth c H locs (cells + 1) (slots + 6) Q (F0 m 1182 ls []) := by
    refine lv_goto (tgt := 1386) hx hb dL_law_1182 (by decide) ?_
    exact W.widen (by omega) (by omega) (kk _ _ _ _ _ _ hI hR (lv_sub hl [2, 3, 4, 5, 6] rfl))
  refine lv_iload hx hb dL_law_1165 (lv_at hl 1 rfl) ?_
  refine lv_if_ne (tgt := 1182) hx hb dL_law_1167 (by decide) (fun _ => fin) (fun c1 => ?_)
  cases o with
  | none => exact absurd c1 (by decide)
  | some z =>
    have hg := hI.2.2.1.1
    refine lv_aload_n hx hb dL_law_1170 rfl (lv_at hl 5 rfl) ?_
    refine lv_iconst (v := (0 : Int32)) hx hb dL_law_1171 (by decide) ?_
    have hg : va_at D vwCl (s.heap.size + 257, .inl (cA 2, gN (lwS w (some z)) 0, .inr (.inl (gL (lwS w (some z)) 0)))) H := hg
    refine va_lald hx hb hM.2.2.2.2.1 (va_P1 hg) 0 1 rfl rfl (by rw [hI.2.2.2.2.2.2]; intro q; rcases q with q | q <;> revert q <;> decide) dL_law_1172 ?_
    have hv : gL (lwS w (some z)) 0 (0 : Int32).toNatClampNeg = z.toInt64 := by
      rw [show (0 : Int32).toNatClampNeg = 0 by decide]
      show gL (sL w 0 0 z.toInt64) 0 0 = _
      rw [gL_sL, if_pos rfl]
    rw [hv]
    refine lv_iload hx hb dL_law_1173 (lv_at hl 0 rfl) ?_
    refine lv_i2l hx hb dL_law_1175 rfl ?_
    refine W.lcmp hx hb dL_law_1176 ?_
    refine lv_if_eq (tgt := 1182) hx hb dL_law_1177 (by decide) (fun _ => fin) (fun c2 => absurd ?_ c2)
    show lg_cmp z.toInt64 z.toInt64 = 0
    simp [lg_cmp]
set_option maxHeartbeats 4000000 in
set_option maxRecDepth 100000 in
theorem lc_rests {k1 k2 : Nat} (hst : l.stackTraces = false) (hXZ : XZ (Gz D cA s.heap.size) k1 k2 s) (hWX : ∀ w ∈ WX, w.before args s = true) (hM : MC (Gz D cA s.heap.size) p s m args c cL_law (cmL :: wsL_law0) RL) (hml : c.maxLocals = 7) (hXs : va_X b L xs s s.heap) (hbl : b < s.heap.size) (hL : L ≤ 3584) (hj : 7 * j + 7 ≤ L) (hcr : cells + 9 ≤ 601024 ∧ slots + 3102 ≤ 7293034) (kk : ∀ (Sc : ST) (v w : GV) (H : Heap) (locs : List Loc) (ls : Array Slot), IV D cA s Sc v w H locs → RR s.heap.size Sc v → lv_has ls 7 [(0, .ref b), (1, .ref s.heap.size), (2, .ref (s.heap.size + 230)), (3, .ref (s.heap.size + 257)), (4, .int (nI (7 * j)))] → W p l e room_1 s m args below meth c H locs (cells + 9) (slots + 3102) Q (F0 m 1386 ls [])) : ∀ (Sc : ST) (v w : GV) (H : Heap) (locs : List Loc) (ls : Array Slot), IV D cA s Sc v w H locs → RR s.heap.size Sc v → lv_has ls 7 [(0, .ref b), (1, .ref s.heap.size), (2, .ref (s.heap.size + 230)), (3, .ref (s.heap.size + 257)), (4, .int (nI (7 * j)))] → W p l e room_1 s m args below meth c H locs cells slots Q (F0 m 1077 ls []) := by
  intro Sc v w H locs ls hI hR hl
  have hx := hM.1
  have hb := hM.2.1
  have hbA : ¬ OU (Gz D cA s.heap.size) b := fun q => absurd q.1 (Nat.not_le.mpr hbl)
  have hcv := RR_m hR
  have hcc := RR_c hR
  refine lv_aload_n hx hb dL_law_1077 rfl (lv_at hl 1 rfl) ?_
  refine lv_aload_n hx hb dL_law_1078 rfl (lv_at hl 0 rfl) ?_
  refine lv_iload hx hb dL_law_1079 (lv_at hl 4 rfl) ?_
  refine lv_iconst (v := (1 : Int32)) hx hb dL_law_1081 (by decide) ?_
  refine lv_iadd hx hb dL_law_1082 ?_
  refine va_sld hx hb hXs hbl hbA hI.2.2.2.1 (sin (k := 1) hL hj rfl (by decide)) dL_law_1083 ?_
  refine lv_aload_n hx hb dL_law_1084 rfl (lv_at hl 0 rfl) ?_
  refine lv_iload hx hb dL_law_1085 (lv_at hl 4 rfl) ?_
  refine lv_iconst (v := (2 : Int32)) hx hb dL_law_1087 (by decide) ?_
  refine lv_iadd hx hb dL_law_1088 ?_
  refine va_sld hx hb hXs hbl hbA hI.2.2.2.1 (sin (k := 2) hL hj rfl (by decide)) dL_law_1089 ?_
  refine lv_aload_n hx hb dL_law_1090 rfl (lv_at hl 0 rfl) ?_
  refine lv_iload hx hb dL_law_1091 (lv_at hl 4 rfl) ?_
  refine lv_iconst (v := (3 : Int32)) hx hb dL_law_1093 (by decide) ?_
  refine lv_iadd hx hb dL_law_1094 ?_
  refine va_sld hx hb hXs hbl hbA hI.2.2.2.1 (sin (k := 3) hL hj rfl (by decide)) dL_law_1095 ?_
  refine lv_if_eq (tgt := 1103) hx hb dL_law_1096 (by decide) (fun c0 => ?_) (fun c0 => ?_)
  · refine lv_iconst (v := (0 : Int32)) hx hb dL_law_1103 (by decide) ?_
    refine lv_aload_n hx hb dL_law_1104 rfl (lv_at hl 0 rfl) ?_
    refine lv_iload hx hb dL_law_1105 (lv_at hl 4 rfl) ?_
    refine lv_iconst (v := (4 : Int32)) hx hb dL_law_1107 (by decide) ?_
    refine lv_iadd hx hb dL_law_1108 ?_
    refine va_sld hx hb hXs hbl hbA hI.2.2.2.1 (sin (k := 4) hL hj rfl (by decide)) dL_law_1109 ?_
    refine lv_aload_n hx hb dL_law_1110 rfl (lv_at hl 3 rfl) ?_
    obtain ⟨o, v', r1, r2, rt, hR'⟩ := r_rests (fu := 1101) (Nat.le_refl _) hR (xs (nI (7 * j) + (1 : Int32)).toNatClampNeg) (xs (nI (7 * j) + (2 : Int32)).toNatClampNeg) (0 : Int32) (xs (nI (7 * j) + (4 : Int32)).toNatClampNeg)
    refine L_lr [] hst hXZ hM hWX hml hl.1 hI hcc r1 rfl (Nat.zero_le _) ⟨by show cells + 1 ≤ 601024; omega, by show slots + 6 ≤ 7293034; omega⟩ dL_law_1111 (fun H locs hI => ?_)
    refine lv_istore (lv' := [(5, .int (thr o)), (0, .ref b), (1, .ref s.heap.size), (2, .ref (s.heap.size + 230)), (3, .ref (s.heap.size + 257)), (4, .int (nI (7 * j)))]) hx hb dL_law_1114 hl (by decide) rfl (fun ls hl => ?_)
    refine lv_aload_n hx hb dL_law_1116 rfl (lv_at hl 3 rfl) ?_
    refine lv_aload_n hx hb dL_law_1117 rfl (lv_at hl 1 rfl) ?_
    refine lv_iload hx hb dL_law_1118 (lv_at hl 5 rfl) ?_
    refine lv_iconst (v := (1 : Int32)) hx hb dL_law_1120 (by decide) ?_
    refine lv_iadd hx hb dL_law_1121 ?_
    refine va_sld hx hb hXs hbl hbA hI.2.2.2.1 (sin (k := 1) hL hj rfl (by decide)) dL_law_1122 ?_
    refine lv_aload_n hx hb dL_law_1123 rfl (lv_at hl 1 rfl) ?_
    refine lv_iload hx hb dL_law_1124 (lv_at hl 5 rfl) ?_
    refine lv_iconst (v := (2 : Int32)) hx hb dL_law_1126 (by decide) ?_
    refine lv_iadd hx hb dL_law_1127 ?_
    refine va_sld hx hb hXs hbl hbA hI.2.2.2.1 (sin (k := 2) hL hj rfl (by decide)) dL_law_1128 ?_
    refine lv_aload_n hx hb dL_law_1129 rfl (lv_at hl 1 rfl) ?_
    refine lv_iload hx hb dL_law_1130 (lv_at hl 5 rfl) ?_
    refine lv_iconst (v := (3 : Int32)) hx hb dL_law_1132 (by decide) ?_
    refine lv_iadd hx hb dL_law_1133 ?_
    refine va_sld hx hb hXs hbl hbA hI.2.2.2.1 (sin (k := 3) hL hj rfl (by decide)) dL_law_1134 ?_
    refine lv_if_eq (tgt := 1142) hx hb dL_law_1135 (by decide) (fun c1 => ?_) (fun c1 => ?_)
    rotate_left
    · exact absurd c0 c1
    refine lv_iconst (v := (0 : Int32)) hx hb dL_law_1142 (by decide) ?_
    refine lv_aload_n hx hb dL_law_1143 rfl (lv_at hl 1 rfl) ?_
    refine lv_iload hx hb dL_law_1144 (lv_at hl 5 rfl) ?_
    refine lv_iconst (v := (4 : Int32)) hx hb dL_law_1146 (by decide) ?_
    refine lv_iadd hx hb dL_law_1147 ?_
    refine va_sld hx hb hXs hbl hbA hI.2.2.2.1 (sin (k := 4) hL hj rfl (by decide)) dL_law_1148 ?_
    refine L_mod [.int (xs (nI (7 * j) + (1 : Int32)).toNatClampNeg), .int (xs (nI (7 * j) + (2 : Int32)).toNatClampNeg), .int (0 : Int32), .int (xs (nI (7 * j) + (4 : Int32)).toNatClampNeg)] [] hM hml hl.1 hI (c_X13_rests l _ 1101 _ _ v _ _ _ _ hcv r2) (RR_m hR') (cwV 4 hM.2.2.2.1 (gV mk_RL_143 im_X13_rests se_X13_rests it_RX13 cd_X13_rests) rfl rfl rfl (by decide +kernel) ⟨Nat.le_of_ble_eq_true rfl, Nat.le_of_ble_eq_true rfl⟩) rfl rfl (Nat.zero_le _) ⟨by show cells + 1 ≤ 601024; omega, by show slots + 6 ≤ 7293034; omega⟩ dL_law_1149 (fun H locs hI => ?_)
    refine lv_istore (lv' := [(6, .int (o.getD 0)), (5, .int (thr o)), (0, .ref b), (1, .ref s.heap.size), (2, .ref (s.heap.size + 230)), (3, .ref (s.heap.size + 257)), (4, .int (nI (7 * j)))]) hx hb dL_law_1152 hl (by decide) rfl (fun ls hl => ?_)
    refine lv_aload_n hx hb dL_law_1154 rfl (lv_at hl 4 rfl) ?_
    refine L_mod [] [] hM hml hl.1 hI (c_X13_thrown l _ 1101 _ _ v' (RR_m hR') rfl) (RR_m hR') (cwV 0 hM.2.2.2.1 (gV mk_RL_144 im_X13_thrown se_X13_thrown it_RX13 cd_X13_thrown) rfl rfl rfl (by decide +kernel) ⟨Nat.le_of_ble_eq_true rfl, Nat.le_of_ble_eq_true rfl⟩) rfl rfl (Nat.zero_le _) ⟨by show cells + 1 ≤ 601024; omega, by show slots + 6 ≤ 7293034; omega⟩ dL_law_1155 (fun H locs hI => ?_)
    refine lv_iload hx hb dL_law_1158 (lv_at hl 1 rfl) ?_
    refine lv_icmp_eq (tgt := 1165) hx hb dL_law_1160 (by decide) (fun _ => ?_) (fun c9 => absurd rt c9)
    exact lr_end hM hcr hI hR' hl kk
  · refine lv_iconst (v := (1 : Int32)) hx hb dL_law_1099 (by decide) ?_
    refine lv_goto (tgt := 1104) hx hb dL_law_1100 (by decide) ?_
    refine lv_aload_n hx hb dL_law_1104 rfl (lv_at hl 0 rfl) ?_
    refine lv_iload hx hb dL_law_1105 (lv_at hl 4 rfl) ?_
    refine lv_iconst (v := (4 : Int32)) hx hb dL_law_1107 (by decide) ?_
    refine lv_iadd hx hb dL_law_1108 ?_
    refine va_sld hx hb hXs hbl hbA hI.2.2.2.1 (sin (k := 4) hL hj rfl (by decide)) dL_law_1109 ?_
    refine lv_aload_n hx hb dL_law_1110 rfl (lv_at hl 3 rfl) ?_
    obtain ⟨o, v', r1, r2, rt, hR'⟩ := r_rests (fu := 1101) (Nat.le_refl _) hR (xs (nI (7 * j) + (1 : Int32)).toNatClampNeg) (xs (nI (7 * j) + (2 : Int32)).toNatClampNeg) (1 : Int32) (xs (nI (7 * j) + (4 : Int32)).toNatClampNeg)
    refine L_lr [] hst hXZ hM hWX hml hl.1 hI hcc r1 rfl (Nat.zero_le _) ⟨by show cells + 1 ≤ 601024; omega, by show slots + 6 ≤ 7293034; omega⟩ dL_law_1111 (fun H locs hI => ?_)
    refine lv_istore (lv' := [(5, .int (thr o)), (0, .ref b), (1, .ref s.heap.size), (2, .ref (s.heap.size + 230)), (3, .ref (s.heap.size + 257)), (4, .int (nI (7 * j)))]) hx hb dL_law_1114 hl (by decide) rfl (fun ls hl => ?_)
    refine lv_aload_n hx hb dL_law_1116 rfl (lv_at hl 3 rfl) ?_
    refine lv_aload_n hx hb dL_law_1117 rfl (lv_at hl 1 rfl) ?_
    refine lv_iload hx hb dL_law_1118 (lv_at hl 5 rfl) ?_
    refine lv_iconst (v := (1 : Int32)) hx hb dL_law_1120 (by decide) ?_
    refine lv_iadd hx hb dL_law_1121 ?_
    refine va_sld hx hb hXs hbl hbA hI.2.2.2.1 (sin (k := 1) hL hj rfl (by decide)) dL_law_1122 ?_
    refine lv_aload_n hx hb dL_law_1123 rfl (lv_at hl 1 rfl) ?_
    refine lv_iload hx hb dL_law_1124 (lv_at hl 5 rfl) ?_
    refine lv_iconst (v := (2 : Int32)) hx hb dL_law_1126 (by decide) ?_
    refine lv_iadd hx hb dL_law_1127 ?_
    refine va_sld hx hb hXs hbl hbA hI.2.2.2.1 (sin (k := 2) hL hj rfl (by decide)) dL_law_1128 ?_
    refine lv_aload_n hx hb dL_law_1129 rfl (lv_at hl 1 rfl) ?_
    refine lv_iload hx hb dL_law_1130 (lv_at hl 5 rfl) ?_
    refine lv_iconst (v := (3 : Int32)) hx hb dL_law_1132 (by decide) ?_
    refine lv_iadd hx hb dL_law_1133 ?_
    refine va_sld hx hb hXs hbl hbA hI.2.2.2.1 (sin (k := 3) hL hj rfl (by decide)) dL_law_1134 ?_
    refine lv_if_eq (tgt := 1142) hx hb dL_law_1135 (by decide) (fun c1 => ?_) (fun c1 => ?_)
    · exact absurd c1 c0
    refine lv_iconst (v := (1 : Int32)) hx hb dL_law_1138 (by decide) ?_
    refine lv_goto (tgt := 1143) hx hb dL_law_1139 (by decide) ?_
    refine lv_aload_n hx hb dL_law_1143 rfl (lv_at hl 1 rfl) ?_
    refine lv_iload hx hb dL_law_1144 (lv_at hl 5 rfl) ?_
    refine lv_iconst (v := (4 : Int32)) hx hb dL_law_1146 (by decide) ?_
    refine lv_iadd hx hb dL_law_1147 ?_
    refine va_sld hx hb hXs hbl hbA hI.2.2.2.1 (sin (k := 4) hL hj rfl (by decide)) dL_law_1148 ?_
    refine L_mod [.int (xs (nI (7 * j) + (1 : Int32)).toNatClampNeg), .int (xs (nI (7 * j) + (2 : Int32)).toNatClampNeg), .int (1 : Int32), .int (xs (nI (7 * j) + (4 : Int32)).toNatClampNeg)] [] hM hml hl.1 hI (c_X13_rests l _ 1101 _ _ v _ _ _ _ hcv r2) (RR_m hR') (cwV 4 hM.2.2.2.1 (gV mk_RL_143 im_X13_rests se_X13_rests it_RX13 cd_X13_rests) rfl rfl rfl (by decide +kernel) ⟨Nat.le_of_ble_eq_true rfl, Nat.le_of_ble_eq_true rfl⟩) rfl rfl (Nat.zero_le _) ⟨by show cells + 1 ≤ 601024; omega, by show slots + 6 ≤ 7293034; omega⟩ dL_law_1149 (fun H locs hI => ?_)
    refine lv_istore (lv' := [(6, .int (o.getD 0)), (5, .int (thr o)), (0, .ref b), (1, .ref s.heap.size), (2, .ref (s.heap.size + 230)), (3, .ref (s.heap.size + 257)), (4, .int (nI (7 * j)))]) hx hb dL_law_1152 hl (by decide) rfl (fun ls hl => ?_)
    refine lv_aload_n hx hb dL_law_1154 rfl (lv_at hl 4 rfl) ?_
    refine L_mod [] [] hM hml hl.1 hI (c_X13_thrown l _ 1101 _ _ v' (RR_m hR') rfl) (RR_m hR') (cwV 0 hM.2.2.2.1 (gV mk_RL_144 im_X13_thrown se_X13_thrown it_RX13 cd_X13_thrown) rfl rfl rfl (by decide +kernel) ⟨Nat.le_of_ble_eq_true rfl, Nat.le_of_ble_eq_true rfl⟩) rfl rfl (Nat.zero_le _) ⟨by show cells + 1 ≤ 601024; omega, by show slots + 6 ≤ 7293034; omega⟩ dL_law_1155 (fun H locs hI => ?_)
    refine lv_iload hx hb dL_law_1158 (lv_at hl 1 rfl) ?_
    refine lv_icmp_eq (tgt := 1165) hx hb dL_law_1160 (by decide) (fun _ => ?_) (fun c9 => absurd rt c9)
    exact lr_end hM hcr hI hR' hl kk
end LRC
