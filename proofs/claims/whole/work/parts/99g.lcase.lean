/-! ===== the cases of the law's switch (printed by mklaw.py) ===== -/
abbrev cmL : Cond := Cond.initialized RL
theorem sin {j k L : Nat} {x : Int32} (hL : L ≤ 3584) (hj : 7 * j + 7 ≤ L) (hx : x = nI k) (hk : k < 7) : vp_in (nI (7 * j) + x) L := by
  rw [hx, nI_add]
  intro q
  rcases q with q | q
  · exact nI_pos (by omega) q
  · rw [nI_clamp (by omega)] at q; omega
theorem sin0 {j L : Nat} (hL : L ≤ 3584) (hj : 7 * j + 7 ≤ L) : vp_in (nI (7 * j)) L := by
  intro q
  rcases q with q | q
  · exact nI_pos (by omega) q
  · rw [nI_clamp (by omega)] at q; omega
theorem RR_c {p : Nat} {S : ST} {v : GV} (h : RR p S v) : gC (S p) = 11 := by
  obtain ⟨A, hA, ⟨t, d, ln, dl, f, hP, hK⟩, hM⟩ := h
  exact hP.1.1
theorem RR_m {p : Nat} {S : ST} {v : GV} (h : RR p S v) : gC v = 12 := by
  obtain ⟨A, hA, hC, hM⟩ := h
  exact hM.1
section LCASE
variable {D : va_G} {cA : Nat → ClassId} {p : Program} {l : Launch} {e : Env} {s : State} {m : MethodId} {args : Array Value} {below : List Frame} {meth : Method} {c : Code} {cells slots b L j : Nat} {xs : Nat → Int32} {Q : State → Prop}
set_option maxHeartbeats 4000000 in
set_option maxRecDepth 100000 in
theorem lc_feed (hM : MC (Gz D cA s.heap.size) p s m args c cL_law (cmL :: wsL_law0) RL) (hml : c.maxLocals = 7) (hXs : va_X b L xs s s.heap) (hbl : b < s.heap.size) (hL : L ≤ 3584) (hj : 7 * j + 7 ≤ L) (hcr : cells + 9 ≤ 601024 ∧ slots + 3102 ≤ 7293034) (kk : ∀ (Sc : ST) (v w : GV) (H : Heap) (locs : List Loc) (ls : Array Slot), IV D cA s Sc v w H locs → RR s.heap.size Sc v → lv_has ls 7 [(0, .ref b), (1, .ref s.heap.size), (2, .ref (s.heap.size + 230)), (3, .ref (s.heap.size + 257)), (4, .int (nI (7 * j)))] → W p l e room_1 s m args below meth c H locs (cells + 9) (slots + 3102) Q (F0 m 1386 ls [])) : ∀ (Sc : ST) (v w : GV) (H : Heap) (locs : List Loc) (ls : Array Slot), IV D cA s Sc v w H locs → RR s.heap.size Sc v → lv_has ls 7 [(0, .ref b), (1, .ref s.heap.size), (2, .ref (s.heap.size + 230)), (3, .ref (s.heap.size + 257)), (4, .int (nI (7 * j)))] → W p l e room_1 s m args below meth c H locs cells slots Q (F0 m 188 ls []) := by
  intro Sc v w H locs ls hI hR hl
  have hx := hM.1
  have hb := hM.2.1
  have hbA : ¬ OU (Gz D cA s.heap.size) b := fun q => absurd q.1 (Nat.not_le.mpr hbl)
  have hcv := RR_m hR
  have hcc := RR_c hR
  refine lv_aload_n hx hb dL_law_188 rfl (lv_at hl 1 rfl) ?_
  refine lv_aload_n hx hb dL_law_189 rfl (lv_at hl 0 rfl) ?_
  refine lv_iload hx hb dL_law_190 (lv_at hl 4 rfl) ?_
  refine lv_iconst (v := (1 : Int32)) hx hb dL_law_192 (by decide) ?_
  refine lv_iadd hx hb dL_law_193 ?_
  refine va_sld hx hb hXs hbl hbA hI.2.2.2.1 (sin (k := 1) hL hj rfl (by decide)) dL_law_194 ?_
  refine lv_i2l hx hb dL_law_195 rfl ?_
  refine lv_bipush (v := (32 : Int32)) hx hb dL_law_196 (by decide) ?_
  refine lv_lshl hx hb dL_law_198 rfl ?_
  refine lv_aload_n hx hb dL_law_199 rfl (lv_at hl 0 rfl) ?_
  refine lv_iload hx hb dL_law_200 (lv_at hl 4 rfl) ?_
  refine lv_iconst (v := (2 : Int32)) hx hb dL_law_202 (by decide) ?_
  refine lv_iadd hx hb dL_law_203 ?_
  refine va_sld hx hb hXs hbl hbA hI.2.2.2.1 (sin (k := 2) hL hj rfl (by decide)) dL_law_204 ?_
  refine lv_i2l hx hb dL_law_205 rfl ?_
  refine lv_ldc2 (v := (4294967295 : Int64)) hx hb hM.2.2.1 (hM.2.2.2.1 _ (wgm kj_RL_19)) dL_law_206 ?_
  refine lv_land hx hb dL_law_209 ?_
  refine lv_lor hx hb dL_law_210 ?_
  refine lv_aload_n hx hb dL_law_211 rfl (lv_at hl 0 rfl) ?_
  refine lv_iload hx hb dL_law_212 (lv_at hl 4 rfl) ?_
  refine lv_iconst (v := (3 : Int32)) hx hb dL_law_214 (by decide) ?_
  refine lv_iadd hx hb dL_law_215 ?_
  refine va_sld hx hb hXs hbl hbA hI.2.2.2.1 (sin (k := 3) hL hj rfl (by decide)) dL_law_216 ?_
  refine lv_i2l hx hb dL_law_217 rfl ?_
  refine lv_bipush (v := (32 : Int32)) hx hb dL_law_218 (by decide) ?_
  refine lv_lshl hx hb dL_law_220 rfl ?_
  refine lv_aload_n hx hb dL_law_221 rfl (lv_at hl 0 rfl) ?_
  refine lv_iload hx hb dL_law_222 (lv_at hl 4 rfl) ?_
  refine lv_iconst (v := (4 : Int32)) hx hb dL_law_224 (by decide) ?_
  refine lv_iadd hx hb dL_law_225 ?_
  refine va_sld hx hb hXs hbl hbA hI.2.2.2.1 (sin (k := 4) hL hj rfl (by decide)) dL_law_226 ?_
  refine lv_i2l hx hb dL_law_227 rfl ?_
  refine lv_ldc2 (v := (4294967295 : Int64)) hx hb hM.2.2.1 (hM.2.2.2.1 _ (wgm kj_RL_19)) dL_law_228 ?_
  refine lv_land hx hb dL_law_231 ?_
  refine lv_lor hx hb dL_law_232 ?_
  refine lv_aload_n hx hb dL_law_233 rfl (lv_at hl 0 rfl) ?_
  refine lv_iload hx hb dL_law_234 (lv_at hl 4 rfl) ?_
  refine lv_iconst (v := (5 : Int32)) hx hb dL_law_236 (by decide) ?_
  refine lv_iadd hx hb dL_law_237 ?_
  refine va_sld hx hb hXs hbl hbA hI.2.2.2.1 (sin (k := 5) hL hj rfl (by decide)) dL_law_238 ?_
  refine lv_i2l hx hb dL_law_239 rfl ?_
  refine lv_bipush (v := (32 : Int32)) hx hb dL_law_240 (by decide) ?_
  refine lv_lshl hx hb dL_law_242 rfl ?_
  refine lv_aload_n hx hb dL_law_243 rfl (lv_at hl 0 rfl) ?_
  refine lv_iload hx hb dL_law_244 (lv_at hl 4 rfl) ?_
  refine lv_bipush (v := (6 : Int32)) hx hb dL_law_246 (by decide) ?_
  refine lv_iadd hx hb dL_law_248 ?_
  refine va_sld hx hb hXs hbl hbA hI.2.2.2.1 (sin (k := 6) hL hj rfl (by decide)) dL_law_249 ?_
  refine lv_i2l hx hb dL_law_250 rfl ?_
  refine lv_ldc2 (v := (4294967295 : Int64)) hx hb hM.2.2.1 (hM.2.2.2.1 _ (wgm kj_RL_19)) dL_law_251 ?_
  refine lv_land hx hb dL_law_254 ?_
  refine lv_lor hx hb dL_law_255 ?_
  obtain ⟨z, Sc', v', r1, r2, hR'⟩ := r_feed (fu := 1101) (Nat.le_refl _) hR (((xs (nI (7 * j) + (1 : Int32)).toNatClampNeg).toInt64 <<< ((32 : Int32).toInt64 &&& 63)) ||| ((xs (nI (7 * j) + (2 : Int32)).toNatClampNeg).toInt64 &&& (4294967295 : Int64))) (((xs (nI (7 * j) + (3 : Int32)).toNatClampNeg).toInt64 <<< ((32 : Int32).toInt64 &&& 63)) ||| ((xs (nI (7 * j) + (4 : Int32)).toNatClampNeg).toInt64 &&& (4294967295 : Int64))) (((xs (nI (7 * j) + (5 : Int32)).toNatClampNeg).toInt64 <<< ((32 : Int32).toInt64 &&& 63)) ||| ((xs (nI (7 * j) + (6 : Int32)).toNatClampNeg).toInt64 &&& (4294967295 : Int64)))
  refine L_cls [.long (((xs (nI (7 * j) + (1 : Int32)).toNatClampNeg).toInt64 <<< ((32 : Int32).toInt64 &&& 63)) ||| ((xs (nI (7 * j) + (2 : Int32)).toNatClampNeg).toInt64 &&& (4294967295 : Int64))), .long (((xs (nI (7 * j) + (3 : Int32)).toNatClampNeg).toInt64 <<< ((32 : Int32).toInt64 &&& 63)) ||| ((xs (nI (7 * j) + (4 : Int32)).toNatClampNeg).toInt64 &&& (4294967295 : Int64))), .long (((xs (nI (7 * j) + (5 : Int32)).toNatClampNeg).toInt64 <<< ((32 : Int32).toInt64 &&& 63)) ||| ((xs (nI (7 * j) + (6 : Int32)).toNatClampNeg).toInt64 &&& (4294967295 : Int64)))] [] hM hml hl.1 hI hcc (c_X12_feed l _ 1101 Sc s.heap.size _ _ _ hcc r1) (cwV 3 hM.2.2.2.1 (gV mk_RL_21 im_X12_feed se_X12_feed it_RX12 cd_X12_feed) rfl rfl rfl (by decide +kernel) ⟨Nat.le_of_ble_eq_true rfl, Nat.le_of_ble_eq_true rfl⟩) rfl rfl (Nat.zero_le _) ⟨by show cells ≤ 601024; omega, by show slots ≤ 7293034; omega⟩ dL_law_256 (fun H locs hI => ?_)
  refine lv_aload_n hx hb dL_law_259 rfl (lv_at hl 2 rfl) ?_
  refine lv_aload_n hx hb dL_law_260 rfl (lv_at hl 0 rfl) ?_
  refine lv_iload hx hb dL_law_261 (lv_at hl 4 rfl) ?_
  refine lv_iconst (v := (1 : Int32)) hx hb dL_law_263 (by decide) ?_
  refine lv_iadd hx hb dL_law_264 ?_
  refine va_sld hx hb hXs hbl hbA hI.2.2.2.1 (sin (k := 1) hL hj rfl (by decide)) dL_law_265 ?_
  refine lv_i2l hx hb dL_law_266 rfl ?_
  refine lv_bipush (v := (32 : Int32)) hx hb dL_law_267 (by decide) ?_
  refine lv_lshl hx hb dL_law_269 rfl ?_
  refine lv_aload_n hx hb dL_law_270 rfl (lv_at hl 0 rfl) ?_
  refine lv_iload hx hb dL_law_271 (lv_at hl 4 rfl) ?_
  refine lv_iconst (v := (2 : Int32)) hx hb dL_law_273 (by decide) ?_
  refine lv_iadd hx hb dL_law_274 ?_
  refine va_sld hx hb hXs hbl hbA hI.2.2.2.1 (sin (k := 2) hL hj rfl (by decide)) dL_law_275 ?_
  refine lv_i2l hx hb dL_law_276 rfl ?_
  refine lv_ldc2 (v := (4294967295 : Int64)) hx hb hM.2.2.1 (hM.2.2.2.1 _ (wgm kj_RL_19)) dL_law_277 ?_
  refine lv_land hx hb dL_law_280 ?_
  refine lv_lor hx hb dL_law_281 ?_
  refine lv_aload_n hx hb dL_law_282 rfl (lv_at hl 0 rfl) ?_
  refine lv_iload hx hb dL_law_283 (lv_at hl 4 rfl) ?_
  refine lv_iconst (v := (3 : Int32)) hx hb dL_law_285 (by decide) ?_
  refine lv_iadd hx hb dL_law_286 ?_
  refine va_sld hx hb hXs hbl hbA hI.2.2.2.1 (sin (k := 3) hL hj rfl (by decide)) dL_law_287 ?_
  refine lv_i2l hx hb dL_law_288 rfl ?_
  refine lv_bipush (v := (32 : Int32)) hx hb dL_law_289 (by decide) ?_
  refine lv_lshl hx hb dL_law_291 rfl ?_
  refine lv_aload_n hx hb dL_law_292 rfl (lv_at hl 0 rfl) ?_
  refine lv_iload hx hb dL_law_293 (lv_at hl 4 rfl) ?_
  refine lv_iconst (v := (4 : Int32)) hx hb dL_law_295 (by decide) ?_
  refine lv_iadd hx hb dL_law_296 ?_
  refine va_sld hx hb hXs hbl hbA hI.2.2.2.1 (sin (k := 4) hL hj rfl (by decide)) dL_law_297 ?_
  refine lv_i2l hx hb dL_law_298 rfl ?_
  refine lv_ldc2 (v := (4294967295 : Int64)) hx hb hM.2.2.1 (hM.2.2.2.1 _ (wgm kj_RL_19)) dL_law_299 ?_
  refine lv_land hx hb dL_law_302 ?_
  refine lv_lor hx hb dL_law_303 ?_
  refine lv_aload_n hx hb dL_law_304 rfl (lv_at hl 0 rfl) ?_
  refine lv_iload hx hb dL_law_305 (lv_at hl 4 rfl) ?_
  refine lv_iconst (v := (5 : Int32)) hx hb dL_law_307 (by decide) ?_
  refine lv_iadd hx hb dL_law_308 ?_
  refine va_sld hx hb hXs hbl hbA hI.2.2.2.1 (sin (k := 5) hL hj rfl (by decide)) dL_law_309 ?_
  refine lv_i2l hx hb dL_law_310 rfl ?_
  refine lv_bipush (v := (32 : Int32)) hx hb dL_law_311 (by decide) ?_
  refine lv_lshl hx hb dL_law_313 rfl ?_
  refine lv_aload_n hx hb dL_law_314 rfl (lv_at hl 0 rfl) ?_
  refine lv_iload hx hb dL_law_315 (lv_at hl 4 rfl) ?_
  refine lv_bipush (v := (6 : Int32)) hx hb dL_law_317 (by decide) ?_
  refine lv_iadd hx hb dL_law_319 ?_
  refine va_sld hx hb hXs hbl hbA hI.2.2.2.1 (sin (k := 6) hL hj rfl (by decide)) dL_law_320 ?_
  refine lv_i2l hx hb dL_law_321 rfl ?_
  refine lv_ldc2 (v := (4294967295 : Int64)) hx hb hM.2.2.1 (hM.2.2.2.1 _ (wgm kj_RL_19)) dL_law_322 ?_
  refine lv_land hx hb dL_law_325 ?_
  refine lv_lor hx hb dL_law_326 ?_
  refine L_mod [.long (((xs (nI (7 * j) + (1 : Int32)).toNatClampNeg).toInt64 <<< ((32 : Int32).toInt64 &&& 63)) ||| ((xs (nI (7 * j) + (2 : Int32)).toNatClampNeg).toInt64 &&& (4294967295 : Int64))), .long (((xs (nI (7 * j) + (3 : Int32)).toNatClampNeg).toInt64 <<< ((32 : Int32).toInt64 &&& 63)) ||| ((xs (nI (7 * j) + (4 : Int32)).toNatClampNeg).toInt64 &&& (4294967295 : Int64))), .long (((xs (nI (7 * j) + (5 : Int32)).toNatClampNeg).toInt64 <<< ((32 : Int32).toInt64 &&& 63)) ||| ((xs (nI (7 * j) + (6 : Int32)).toNatClampNeg).toInt64 &&& (4294967295 : Int64)))] [.int z] hM hml hl.1 hI (c_X13_feed l _ 1101 _ _ v _ _ _ hcv r2) (RR_m hR') (cwV 3 hM.2.2.2.1 (gV mk_RL_25 im_X13_feed se_X13_feed it_RX13 cd_X13_feed) rfl rfl rfl (by decide +kernel) ⟨Nat.le_of_ble_eq_true rfl, Nat.le_of_ble_eq_true rfl⟩) rfl rfl (Nat.le_of_ble_eq_true rfl) ⟨by show cells ≤ 601024; omega, by show slots ≤ 7293034; omega⟩ dL_law_327 (fun H locs hI => ?_)
  refine lv_icmp_eq (tgt := 1386) hx hb dL_law_330 (by decide) (fun _ => ?_) (fun c9 => absurd rfl c9)
  exact W.widen (Nat.le_add_right _ _) (Nat.le_add_right _ _) (kk _ _ _ _ _ _ hI hR' hl)
set_option maxHeartbeats 4000000 in
set_option maxRecDepth 100000 in
theorem lc_gallery (hM : MC (Gz D cA s.heap.size) p s m args c cL_law (cmL :: wsL_law0) RL) (hml : c.maxLocals = 7) (hXs : va_X b L xs s s.heap) (hbl : b < s.heap.size) (hL : L ≤ 3584) (hj : 7 * j + 7 ≤ L) (hcr : cells + 9 ≤ 601024 ∧ slots + 3102 ≤ 7293034) (kk : ∀ (Sc : ST) (v w : GV) (H : Heap) (locs : List Loc) (ls : Array Slot), IV D cA s Sc v w H locs → RR s.heap.size Sc v → lv_has ls 7 [(0, .ref b), (1, .ref s.heap.size), (2, .ref (s.heap.size + 230)), (3, .ref (s.heap.size + 257)), (4, .int (nI (7 * j)))] → W p l e room_1 s m args below meth c H locs (cells + 9) (slots + 3102) Q (F0 m 1386 ls [])) : ∀ (Sc : ST) (v w : GV) (H : Heap) (locs : List Loc) (ls : Array Slot), IV D cA s Sc v w H locs → RR s.heap.size Sc v → lv_has ls 7 [(0, .ref b), (1, .ref s.heap.size), (2, .ref (s.heap.size + 230)), (3, .ref (s.heap.size + 257)), (4, .int (nI (7 * j)))] → W p l e room_1 s m args below meth c H locs cells slots Q (F0 m 335 ls []) := by
  intro Sc v w H locs ls hI hR hl
  have hx := hM.1
  have hb := hM.2.1
  have hbA : ¬ OU (Gz D cA s.heap.size) b := fun q => absurd q.1 (Nat.not_le.mpr hbl)
  have hcv := RR_m hR
  have hcc := RR_c hR
  refine lv_aload_n hx hb dL_law_335 rfl (lv_at hl 1 rfl) ?_
  obtain ⟨z, Sc', v', r1, r2, hR'⟩ := r_gallery (fu := 1101) (g0 := Gq D cA s.heap.size) (n := H.size) (Nat.le_refl _) hR (fun x hx => by
    by_cases q : gC (Sc x) = 0
    · exact q
    · have := hI.1.lt (b := x) (d := gC (Sc x) - 1) (by omega) (Or.inl rfl)
      omega)
  refine L_gal [] hM hml hl.1 hI hcc r1 (cwV 0 hM.2.2.2.1 (gV mk_RL_26 im_X12_gallery se_X12_gallery it_RX12 cd_X12_gallery) rfl rfl rfl (by decide +kernel) ⟨Nat.le_of_ble_eq_true rfl, Nat.le_of_ble_eq_true rfl⟩) rfl (Nat.zero_le _) hcr dL_law_336 (fun H locs hI => ?_)
  refine lv_aload_n hx hb dL_law_339 rfl (lv_at hl 2 rfl) ?_
  refine L_mod [] [.int z] hM hml hl.1 hI (c_X13_gallery l _ 1101 _ _ v hcv r2) (RR_m hR') (cwV 0 hM.2.2.2.1 (gV mk_RL_30 im_X13_gallery se_X13_gallery it_RX13 cd_X13_gallery) rfl rfl rfl (by decide +kernel) ⟨Nat.le_of_ble_eq_true rfl, Nat.le_of_ble_eq_true rfl⟩) rfl rfl (Nat.le_of_ble_eq_true rfl) ⟨by show cells + 9 ≤ 601024; omega, by show slots + 3102 ≤ 7293034; omega⟩ dL_law_340 (fun H locs hI => ?_)
  refine lv_icmp_eq (tgt := 1386) hx hb dL_law_343 (by decide) (fun _ => ?_) (fun c9 => absurd rfl c9)
  exact kk _ _ _ _ _ _ hI hR' hl
set_option maxHeartbeats 4000000 in
set_option maxRecDepth 100000 in
theorem lc_nights (hM : MC (Gz D cA s.heap.size) p s m args c cL_law (cmL :: wsL_law0) RL) (hml : c.maxLocals = 7) (hXs : va_X b L xs s s.heap) (hbl : b < s.heap.size) (hL : L ≤ 3584) (hj : 7 * j + 7 ≤ L) (hcr : cells + 9 ≤ 601024 ∧ slots + 3102 ≤ 7293034) (kk : ∀ (Sc : ST) (v w : GV) (H : Heap) (locs : List Loc) (ls : Array Slot), IV D cA s Sc v w H locs → RR s.heap.size Sc v → lv_has ls 7 [(0, .ref b), (1, .ref s.heap.size), (2, .ref (s.heap.size + 230)), (3, .ref (s.heap.size + 257)), (4, .int (nI (7 * j)))] → W p l e room_1 s m args below meth c H locs (cells + 9) (slots + 3102) Q (F0 m 1386 ls [])) : ∀ (Sc : ST) (v w : GV) (H : Heap) (locs : List Loc) (ls : Array Slot), IV D cA s Sc v w H locs → RR s.heap.size Sc v → lv_has ls 7 [(0, .ref b), (1, .ref s.heap.size), (2, .ref (s.heap.size + 230)), (3, .ref (s.heap.size + 257)), (4, .int (nI (7 * j)))] → W p l e room_1 s m args below meth c H locs cells slots Q (F0 m 348 ls []) := by
  intro Sc v w H locs ls hI hR hl
  have hx := hM.1
  have hb := hM.2.1
  have hbA : ¬ OU (Gz D cA s.heap.size) b := fun q => absurd q.1 (Nat.not_le.mpr hbl)
  have hcv := RR_m hR
  have hcc := RR_c hR
  refine lv_aload_n hx hb dL_law_348 rfl (lv_at hl 1 rfl) ?_
  obtain ⟨z, Sc', v', r1, r2, hR'⟩ := r_nights (fu := 1101) (Nat.le_refl _) hR
  refine L_cls [] [] hM hml hl.1 hI hcc (c_X12_nights l _ 1101 Sc s.heap.size hcc r1) (cwV 0 hM.2.2.2.1 (gV mk_RL_31 im_X12_nights se_X12_nights it_RX12 cd_X12_nights) rfl rfl rfl (by decide +kernel) ⟨Nat.le_of_ble_eq_true rfl, Nat.le_of_ble_eq_true rfl⟩) rfl rfl (Nat.zero_le _) ⟨by show cells ≤ 601024; omega, by show slots ≤ 7293034; omega⟩ dL_law_349 (fun H locs hI => ?_)
  refine lv_aload_n hx hb dL_law_352 rfl (lv_at hl 2 rfl) ?_
  refine L_mod [] [.int z] hM hml hl.1 hI (c_X13_nights l _ 1101 _ _ v hcv r2) (RR_m hR') (cwV 0 hM.2.2.2.1 (gV mk_RL_34 im_X13_nights se_X13_nights it_RX13 cd_X13_nights) rfl rfl rfl (by decide +kernel) ⟨Nat.le_of_ble_eq_true rfl, Nat.le_of_ble_eq_true rfl⟩) rfl rfl (Nat.le_of_ble_eq_true rfl) ⟨by show cells ≤ 601024; omega, by show slots ≤ 7293034; omega⟩ dL_law_353 (fun H locs hI => ?_)
  refine lv_icmp_eq (tgt := 1386) hx hb dL_law_356 (by decide) (fun _ => ?_) (fun c9 => absurd rfl c9)
  exact W.widen (Nat.le_add_right _ _) (Nat.le_add_right _ _) (kk _ _ _ _ _ _ hI hR' hl)
set_option maxHeartbeats 4000000 in
set_option maxRecDepth 100000 in
theorem lc_piece (hM : MC (Gz D cA s.heap.size) p s m args c cL_law (cmL :: wsL_law0) RL) (hml : c.maxLocals = 7) (hXs : va_X b L xs s s.heap) (hbl : b < s.heap.size) (hL : L ≤ 3584) (hj : 7 * j + 7 ≤ L) (hcr : cells + 9 ≤ 601024 ∧ slots + 3102 ≤ 7293034) (kk : ∀ (Sc : ST) (v w : GV) (H : Heap) (locs : List Loc) (ls : Array Slot), IV D cA s Sc v w H locs → RR s.heap.size Sc v → lv_has ls 7 [(0, .ref b), (1, .ref s.heap.size), (2, .ref (s.heap.size + 230)), (3, .ref (s.heap.size + 257)), (4, .int (nI (7 * j)))] → W p l e room_1 s m args below meth c H locs (cells + 9) (slots + 3102) Q (F0 m 1386 ls [])) : ∀ (Sc : ST) (v w : GV) (H : Heap) (locs : List Loc) (ls : Array Slot), IV D cA s Sc v w H locs → RR s.heap.size Sc v → lv_has ls 7 [(0, .ref b), (1, .ref s.heap.size), (2, .ref (s.heap.size + 230)), (3, .ref (s.heap.size + 257)), (4, .int (nI (7 * j)))] → W p l e room_1 s m args below meth c H locs cells slots Q (F0 m 361 ls []) := by
  intro Sc v w H locs ls hI hR hl
  have hx := hM.1
  have hb := hM.2.1
  have hbA : ¬ OU (Gz D cA s.heap.size) b := fun q => absurd q.1 (Nat.not_le.mpr hbl)
  have hcv := RR_m hR
  have hcc := RR_c hR
  refine lv_aload_n hx hb dL_law_361 rfl (lv_at hl 1 rfl) ?_
  refine lv_aload_n hx hb dL_law_362 rfl (lv_at hl 0 rfl) ?_
  refine lv_iload hx hb dL_law_363 (lv_at hl 4 rfl) ?_
  refine lv_iconst (v := (1 : Int32)) hx hb dL_law_365 (by decide) ?_
  refine lv_iadd hx hb dL_law_366 ?_
  refine va_sld hx hb hXs hbl hbA hI.2.2.2.1 (sin (k := 1) hL hj rfl (by decide)) dL_law_367 ?_
  refine lv_aload_n hx hb dL_law_368 rfl (lv_at hl 0 rfl) ?_
  refine lv_iload hx hb dL_law_369 (lv_at hl 4 rfl) ?_
  refine lv_iconst (v := (2 : Int32)) hx hb dL_law_371 (by decide) ?_
  refine lv_iadd hx hb dL_law_372 ?_
  refine va_sld hx hb hXs hbl hbA hI.2.2.2.1 (sin (k := 2) hL hj rfl (by decide)) dL_law_373 ?_
  obtain ⟨z, Sc', v', r1, r2, hR'⟩ := r_piece (fu := 1101) (Nat.le_refl _) hR (xs (nI (7 * j) + (1 : Int32)).toNatClampNeg) (xs (nI (7 * j) + (2 : Int32)).toNatClampNeg)
  refine L_cls [.int (xs (nI (7 * j) + (1 : Int32)).toNatClampNeg), .int (xs (nI (7 * j) + (2 : Int32)).toNatClampNeg)] [] hM hml hl.1 hI hcc (c_X12_piece l _ 1101 Sc s.heap.size _ _ hcc r1) (cwV 2 hM.2.2.2.1 (gV mk_RL_35 im_X12_piece se_X12_piece it_RX12 cd_X12_piece) rfl rfl rfl (by decide +kernel) ⟨Nat.le_of_ble_eq_true rfl, Nat.le_of_ble_eq_true rfl⟩) rfl rfl (Nat.zero_le _) ⟨by show cells ≤ 601024; omega, by show slots ≤ 7293034; omega⟩ dL_law_374 (fun H locs hI => ?_)
  refine lv_aload_n hx hb dL_law_377 rfl (lv_at hl 2 rfl) ?_
  refine lv_aload_n hx hb dL_law_378 rfl (lv_at hl 0 rfl) ?_
  refine lv_iload hx hb dL_law_379 (lv_at hl 4 rfl) ?_
  refine lv_iconst (v := (1 : Int32)) hx hb dL_law_381 (by decide) ?_
  refine lv_iadd hx hb dL_law_382 ?_
  refine va_sld hx hb hXs hbl hbA hI.2.2.2.1 (sin (k := 1) hL hj rfl (by decide)) dL_law_383 ?_
  refine lv_aload_n hx hb dL_law_384 rfl (lv_at hl 0 rfl) ?_
  refine lv_iload hx hb dL_law_385 (lv_at hl 4 rfl) ?_
  refine lv_iconst (v := (2 : Int32)) hx hb dL_law_387 (by decide) ?_
  refine lv_iadd hx hb dL_law_388 ?_
  refine va_sld hx hb hXs hbl hbA hI.2.2.2.1 (sin (k := 2) hL hj rfl (by decide)) dL_law_389 ?_
  refine L_mod [.int (xs (nI (7 * j) + (1 : Int32)).toNatClampNeg), .int (xs (nI (7 * j) + (2 : Int32)).toNatClampNeg)] [.int z] hM hml hl.1 hI (c_X13_piece l _ 1101 _ _ v _ _ hcv r2) (RR_m hR') (cwV 2 hM.2.2.2.1 (gV mk_RL_39 im_X13_piece se_X13_piece it_RX13 cd_X13_piece) rfl rfl rfl (by decide +kernel) ⟨Nat.le_of_ble_eq_true rfl, Nat.le_of_ble_eq_true rfl⟩) rfl rfl (Nat.le_of_ble_eq_true rfl) ⟨by show cells ≤ 601024; omega, by show slots ≤ 7293034; omega⟩ dL_law_390 (fun H locs hI => ?_)
  refine lv_icmp_eq (tgt := 1386) hx hb dL_law_393 (by decide) (fun _ => ?_) (fun c9 => absurd rfl c9)
  exact W.widen (Nat.le_add_right _ _) (Nat.le_add_right _ _) (kk _ _ _ _ _ _ hI hR' hl)
set_option maxHeartbeats 4000000 in
set_option maxRecDepth 100000 in
theorem lc_distance (hM : MC (Gz D cA s.heap.size) p s m args c cL_law (cmL :: wsL_law0) RL) (hml : c.maxLocals = 7) (hXs : va_X b L xs s s.heap) (hbl : b < s.heap.size) (hL : L ≤ 3584) (hj : 7 * j + 7 ≤ L) (hcr : cells + 9 ≤ 601024 ∧ slots + 3102 ≤ 7293034) (kk : ∀ (Sc : ST) (v w : GV) (H : Heap) (locs : List Loc) (ls : Array Slot), IV D cA s Sc v w H locs → RR s.heap.size Sc v → lv_has ls 7 [(0, .ref b), (1, .ref s.heap.size), (2, .ref (s.heap.size + 230)), (3, .ref (s.heap.size + 257)), (4, .int (nI (7 * j)))] → W p l e room_1 s m args below meth c H locs (cells + 9) (slots + 3102) Q (F0 m 1386 ls [])) : ∀ (Sc : ST) (v w : GV) (H : Heap) (locs : List Loc) (ls : Array Slot), IV D cA s Sc v w H locs → RR s.heap.size Sc v → lv_has ls 7 [(0, .ref b), (1, .ref s.heap.size), (2, .ref (s.heap.size + 230)), (3, .ref (s.heap.size + 257)), (4, .int (nI (7 * j)))] → W p l e room_1 s m args below meth c H locs cells slots Q (F0 m 398 ls []) := by
  intro Sc v w H locs ls hI hR hl
  have hx := hM.1
  have hb := hM.2.1
  have hbA : ¬ OU (Gz D cA s.heap.size) b := fun q => absurd q.1 (Nat.not_le.mpr hbl)
  have hcv := RR_m hR
  have hcc := RR_c hR
  refine lv_aload_n hx hb dL_law_398 rfl (lv_at hl 1 rfl) ?_
  refine lv_aload_n hx hb dL_law_399 rfl (lv_at hl 0 rfl) ?_
  refine lv_iload hx hb dL_law_400 (lv_at hl 4 rfl) ?_
  refine lv_iconst (v := (1 : Int32)) hx hb dL_law_402 (by decide) ?_
  refine lv_iadd hx hb dL_law_403 ?_
  refine va_sld hx hb hXs hbl hbA hI.2.2.2.1 (sin (k := 1) hL hj rfl (by decide)) dL_law_404 ?_
  refine lv_aload_n hx hb dL_law_405 rfl (lv_at hl 0 rfl) ?_
  refine lv_iload hx hb dL_law_406 (lv_at hl 4 rfl) ?_
  refine lv_iconst (v := (2 : Int32)) hx hb dL_law_408 (by decide) ?_
  refine lv_iadd hx hb dL_law_409 ?_
  refine va_sld hx hb hXs hbl hbA hI.2.2.2.1 (sin (k := 2) hL hj rfl (by decide)) dL_law_410 ?_
  obtain ⟨z, v', r1, r2, hR'⟩ := r_distance (fu := 1101) (Nat.le_refl _) hR (xs (nI (7 * j) + (1 : Int32)).toNatClampNeg) (xs (nI (7 * j) + (2 : Int32)).toNatClampNeg)
  refine L_cls [.int (xs (nI (7 * j) + (1 : Int32)).toNatClampNeg), .int (xs (nI (7 * j) + (2 : Int32)).toNatClampNeg)] [] hM hml hl.1 hI hcc (c_X12_distance l _ 1101 Sc s.heap.size _ _ hcc r1) (cwV 2 hM.2.2.2.1 (gV mk_RL_40 im_X12_distance se_X12_distance it_RX12 cd_X12_distance) rfl rfl rfl (by decide +kernel) ⟨Nat.le_of_ble_eq_true rfl, Nat.le_of_ble_eq_true rfl⟩) rfl rfl (Nat.zero_le _) ⟨by show cells ≤ 601024; omega, by show slots ≤ 7293034; omega⟩ dL_law_411 (fun H locs hI => ?_)
  refine lv_aload_n hx hb dL_law_414 rfl (lv_at hl 2 rfl) ?_
  refine lv_aload_n hx hb dL_law_415 rfl (lv_at hl 0 rfl) ?_
  refine lv_iload hx hb dL_law_416 (lv_at hl 4 rfl) ?_
  refine lv_iconst (v := (1 : Int32)) hx hb dL_law_418 (by decide) ?_
  refine lv_iadd hx hb dL_law_419 ?_
  refine va_sld hx hb hXs hbl hbA hI.2.2.2.1 (sin (k := 1) hL hj rfl (by decide)) dL_law_420 ?_
  refine lv_aload_n hx hb dL_law_421 rfl (lv_at hl 0 rfl) ?_
  refine lv_iload hx hb dL_law_422 (lv_at hl 4 rfl) ?_
  refine lv_iconst (v := (2 : Int32)) hx hb dL_law_424 (by decide) ?_
  refine lv_iadd hx hb dL_law_425 ?_
  refine va_sld hx hb hXs hbl hbA hI.2.2.2.1 (sin (k := 2) hL hj rfl (by decide)) dL_law_426 ?_
  refine L_mod [.int (xs (nI (7 * j) + (1 : Int32)).toNatClampNeg), .int (xs (nI (7 * j) + (2 : Int32)).toNatClampNeg)] [.int z] hM hml hl.1 hI (c_X13_distance l _ 1101 _ _ v _ _ hcv r2) (RR_m hR') (cwV 2 hM.2.2.2.1 (gV mk_RL_43 im_X13_distance se_X13_distance it_RX13 cd_X13_distance) rfl rfl rfl (by decide +kernel) ⟨Nat.le_of_ble_eq_true rfl, Nat.le_of_ble_eq_true rfl⟩) rfl rfl (Nat.le_of_ble_eq_true rfl) ⟨by show cells ≤ 601024; omega, by show slots ≤ 7293034; omega⟩ dL_law_427 (fun H locs hI => ?_)
  refine lv_icmp_eq (tgt := 1386) hx hb dL_law_430 (by decide) (fun _ => ?_) (fun c9 => absurd rfl c9)
  exact W.widen (Nat.le_add_right _ _) (Nat.le_add_right _ _) (kk _ _ _ _ _ _ hI hR' hl)
set_option maxHeartbeats 4000000 in
set_option maxRecDepth 100000 in
theorem lc_thief (hM : MC (Gz D cA s.heap.size) p s m args c cL_law (cmL :: wsL_law0) RL) (hml : c.maxLocals = 7) (hXs : va_X b L xs s s.heap) (hbl : b < s.heap.size) (hL : L ≤ 3584) (hj : 7 * j + 7 ≤ L) (hcr : cells + 9 ≤ 601024 ∧ slots + 3102 ≤ 7293034) (kk : ∀ (Sc : ST) (v w : GV) (H : Heap) (locs : List Loc) (ls : Array Slot), IV D cA s Sc v w H locs → RR s.heap.size Sc v → lv_has ls 7 [(0, .ref b), (1, .ref s.heap.size), (2, .ref (s.heap.size + 230)), (3, .ref (s.heap.size + 257)), (4, .int (nI (7 * j)))] → W p l e room_1 s m args below meth c H locs (cells + 9) (slots + 3102) Q (F0 m 1386 ls [])) : ∀ (Sc : ST) (v w : GV) (H : Heap) (locs : List Loc) (ls : Array Slot), IV D cA s Sc v w H locs → RR s.heap.size Sc v → lv_has ls 7 [(0, .ref b), (1, .ref s.heap.size), (2, .ref (s.heap.size + 230)), (3, .ref (s.heap.size + 257)), (4, .int (nI (7 * j)))] → W p l e room_1 s m args below meth c H locs cells slots Q (F0 m 435 ls []) := by
  intro Sc v w H locs ls hI hR hl
  have hx := hM.1
  have hb := hM.2.1
  have hbA : ¬ OU (Gz D cA s.heap.size) b := fun q => absurd q.1 (Nat.not_le.mpr hbl)
  have hcv := RR_m hR
  have hcc := RR_c hR
  refine lv_aload_n hx hb dL_law_435 rfl (lv_at hl 1 rfl) ?_
  refine lv_aload_n hx hb dL_law_436 rfl (lv_at hl 0 rfl) ?_
  refine lv_iload hx hb dL_law_437 (lv_at hl 4 rfl) ?_
  refine lv_iconst (v := (1 : Int32)) hx hb dL_law_439 (by decide) ?_
  refine lv_iadd hx hb dL_law_440 ?_
  refine va_sld hx hb hXs hbl hbA hI.2.2.2.1 (sin (k := 1) hL hj rfl (by decide)) dL_law_441 ?_
  refine lv_aload_n hx hb dL_law_442 rfl (lv_at hl 0 rfl) ?_
  refine lv_iload hx hb dL_law_443 (lv_at hl 4 rfl) ?_
  refine lv_iconst (v := (2 : Int32)) hx hb dL_law_445 (by decide) ?_
  refine lv_iadd hx hb dL_law_446 ?_
  refine va_sld hx hb hXs hbl hbA hI.2.2.2.1 (sin (k := 2) hL hj rfl (by decide)) dL_law_447 ?_
  obtain ⟨z, v', r1, r2, hR'⟩ := r_thief (fu := 1101) (Nat.le_refl _) hR (xs (nI (7 * j) + (1 : Int32)).toNatClampNeg) (xs (nI (7 * j) + (2 : Int32)).toNatClampNeg)
  refine L_cls [.int (xs (nI (7 * j) + (1 : Int32)).toNatClampNeg), .int (xs (nI (7 * j) + (2 : Int32)).toNatClampNeg)] [] hM hml hl.1 hI hcc (c_X12_thief l _ 1101 Sc s.heap.size _ _ hcc r1) (cwV 2 hM.2.2.2.1 (gV mk_RL_44 im_X12_thief se_X12_thief it_RX12 cd_X12_thief) rfl rfl rfl (by decide +kernel) ⟨Nat.le_of_ble_eq_true rfl, Nat.le_of_ble_eq_true rfl⟩) rfl rfl (Nat.zero_le _) ⟨by show cells ≤ 601024; omega, by show slots ≤ 7293034; omega⟩ dL_law_448 (fun H locs hI => ?_)
  refine lv_aload_n hx hb dL_law_451 rfl (lv_at hl 2 rfl) ?_
  refine lv_aload_n hx hb dL_law_452 rfl (lv_at hl 0 rfl) ?_
  refine lv_iload hx hb dL_law_453 (lv_at hl 4 rfl) ?_
  refine lv_iconst (v := (1 : Int32)) hx hb dL_law_455 (by decide) ?_
  refine lv_iadd hx hb dL_law_456 ?_
  refine va_sld hx hb hXs hbl hbA hI.2.2.2.1 (sin (k := 1) hL hj rfl (by decide)) dL_law_457 ?_
  refine lv_aload_n hx hb dL_law_458 rfl (lv_at hl 0 rfl) ?_
  refine lv_iload hx hb dL_law_459 (lv_at hl 4 rfl) ?_
  refine lv_iconst (v := (2 : Int32)) hx hb dL_law_461 (by decide) ?_
  refine lv_iadd hx hb dL_law_462 ?_
  refine va_sld hx hb hXs hbl hbA hI.2.2.2.1 (sin (k := 2) hL hj rfl (by decide)) dL_law_463 ?_
  refine L_mod [.int (xs (nI (7 * j) + (1 : Int32)).toNatClampNeg), .int (xs (nI (7 * j) + (2 : Int32)).toNatClampNeg)] [.int z] hM hml hl.1 hI (c_X13_thief l _ 1101 _ _ v _ _ hcv r2) (RR_m hR') (cwV 2 hM.2.2.2.1 (gV mk_RL_47 im_X13_thief se_X13_thief it_RX13 cd_X13_thief) rfl rfl rfl (by decide +kernel) ⟨Nat.le_of_ble_eq_true rfl, Nat.le_of_ble_eq_true rfl⟩) rfl rfl (Nat.le_of_ble_eq_true rfl) ⟨by show cells ≤ 601024; omega, by show slots ≤ 7293034; omega⟩ dL_law_464 (fun H locs hI => ?_)
  refine lv_icmp_eq (tgt := 1386) hx hb dL_law_467 (by decide) (fun _ => ?_) (fun c9 => absurd rfl c9)
  exact W.widen (Nat.le_add_right _ _) (Nat.le_add_right _ _) (kk _ _ _ _ _ _ hI hR' hl)
set_option maxHeartbeats 4000000 in
set_option maxRecDepth 100000 in
theorem lc_steal (hM : MC (Gz D cA s.heap.size) p s m args c cL_law (cmL :: wsL_law0) RL) (hml : c.maxLocals = 7) (hXs : va_X b L xs s s.heap) (hbl : b < s.heap.size) (hL : L ≤ 3584) (hj : 7 * j + 7 ≤ L) (hcr : cells + 9 ≤ 601024 ∧ slots + 3102 ≤ 7293034) (kk : ∀ (Sc : ST) (v w : GV) (H : Heap) (locs : List Loc) (ls : Array Slot), IV D cA s Sc v w H locs → RR s.heap.size Sc v → lv_has ls 7 [(0, .ref b), (1, .ref s.heap.size), (2, .ref (s.heap.size + 230)), (3, .ref (s.heap.size + 257)), (4, .int (nI (7 * j)))] → W p l e room_1 s m args below meth c H locs (cells + 9) (slots + 3102) Q (F0 m 1386 ls [])) : ∀ (Sc : ST) (v w : GV) (H : Heap) (locs : List Loc) (ls : Array Slot), IV D cA s Sc v w H locs → RR s.heap.size Sc v → lv_has ls 7 [(0, .ref b), (1, .ref s.heap.size), (2, .ref (s.heap.size + 230)), (3, .ref (s.heap.size + 257)), (4, .int (nI (7 * j)))] → W p l e room_1 s m args below meth c H locs cells slots Q (F0 m 472 ls []) := by
  intro Sc v w H locs ls hI hR hl
  have hx := hM.1
  have hb := hM.2.1
  have hbA : ¬ OU (Gz D cA s.heap.size) b := fun q => absurd q.1 (Nat.not_le.mpr hbl)
  have hcv := RR_m hR
  have hcc := RR_c hR
  refine lv_aload_n hx hb dL_law_472 rfl (lv_at hl 1 rfl) ?_
  refine lv_aload_n hx hb dL_law_473 rfl (lv_at hl 0 rfl) ?_
  refine lv_iload hx hb dL_law_474 (lv_at hl 4 rfl) ?_
  refine lv_iconst (v := (1 : Int32)) hx hb dL_law_476 (by decide) ?_
  refine lv_iadd hx hb dL_law_477 ?_
  refine va_sld hx hb hXs hbl hbA hI.2.2.2.1 (sin (k := 1) hL hj rfl (by decide)) dL_law_478 ?_
  refine lv_aload_n hx hb dL_law_479 rfl (lv_at hl 0 rfl) ?_
  refine lv_iload hx hb dL_law_480 (lv_at hl 4 rfl) ?_
  refine lv_iconst (v := (2 : Int32)) hx hb dL_law_482 (by decide) ?_
  refine lv_iadd hx hb dL_law_483 ?_
  refine va_sld hx hb hXs hbl hbA hI.2.2.2.1 (sin (k := 2) hL hj rfl (by decide)) dL_law_484 ?_
  obtain ⟨z, Sc', v', r1, r2, hR'⟩ := r_steal (fu := 1101) (Nat.le_refl _) hR (xs (nI (7 * j) + (1 : Int32)).toNatClampNeg) (xs (nI (7 * j) + (2 : Int32)).toNatClampNeg)
  refine L_cls [.int (xs (nI (7 * j) + (1 : Int32)).toNatClampNeg), .int (xs (nI (7 * j) + (2 : Int32)).toNatClampNeg)] [] hM hml hl.1 hI hcc (c_X12_steal l _ 1101 Sc s.heap.size _ _ hcc r1) (cwV 2 hM.2.2.2.1 (gV mk_RL_48 im_X12_steal se_X12_steal it_RX12 cd_X12_steal) rfl rfl rfl (by decide +kernel) ⟨Nat.le_of_ble_eq_true rfl, Nat.le_of_ble_eq_true rfl⟩) rfl rfl (Nat.zero_le _) ⟨by show cells ≤ 601024; omega, by show slots ≤ 7293034; omega⟩ dL_law_485 (fun H locs hI => ?_)
  refine lv_aload_n hx hb dL_law_488 rfl (lv_at hl 2 rfl) ?_
  refine lv_aload_n hx hb dL_law_489 rfl (lv_at hl 0 rfl) ?_
  refine lv_iload hx hb dL_law_490 (lv_at hl 4 rfl) ?_
  refine lv_iconst (v := (1 : Int32)) hx hb dL_law_492 (by decide) ?_
  refine lv_iadd hx hb dL_law_493 ?_
  refine va_sld hx hb hXs hbl hbA hI.2.2.2.1 (sin (k := 1) hL hj rfl (by decide)) dL_law_494 ?_
  refine lv_aload_n hx hb dL_law_495 rfl (lv_at hl 0 rfl) ?_
  refine lv_iload hx hb dL_law_496 (lv_at hl 4 rfl) ?_
  refine lv_iconst (v := (2 : Int32)) hx hb dL_law_498 (by decide) ?_
  refine lv_iadd hx hb dL_law_499 ?_
  refine va_sld hx hb hXs hbl hbA hI.2.2.2.1 (sin (k := 2) hL hj rfl (by decide)) dL_law_500 ?_
  refine L_mod [.int (xs (nI (7 * j) + (1 : Int32)).toNatClampNeg), .int (xs (nI (7 * j) + (2 : Int32)).toNatClampNeg)] [.int z] hM hml hl.1 hI (c_X13_steal l _ 1101 _ _ v _ _ hcv r2) (RR_m hR') (cwV 2 hM.2.2.2.1 (gV mk_RL_51 im_X13_steal se_X13_steal it_RX13 cd_X13_steal) rfl rfl rfl (by decide +kernel) ⟨Nat.le_of_ble_eq_true rfl, Nat.le_of_ble_eq_true rfl⟩) rfl rfl (Nat.le_of_ble_eq_true rfl) ⟨by show cells ≤ 601024; omega, by show slots ≤ 7293034; omega⟩ dL_law_501 (fun H locs hI => ?_)
  refine lv_icmp_eq (tgt := 1386) hx hb dL_law_504 (by decide) (fun _ => ?_) (fun c9 => absurd rfl c9)
  exact W.widen (Nat.le_add_right _ _) (Nat.le_add_right _ _) (kk _ _ _ _ _ _ hI hR' hl)
set_option maxHeartbeats 4000000 in
set_option maxRecDepth 100000 in
theorem lc_paint (hM : MC (Gz D cA s.heap.size) p s m args c cL_law (cmL :: wsL_law0) RL) (hml : c.maxLocals = 7) (hXs : va_X b L xs s s.heap) (hbl : b < s.heap.size) (hL : L ≤ 3584) (hj : 7 * j + 7 ≤ L) (hcr : cells + 9 ≤ 601024 ∧ slots + 3102 ≤ 7293034) (kk : ∀ (Sc : ST) (v w : GV) (H : Heap) (locs : List Loc) (ls : Array Slot), IV D cA s Sc v w H locs → RR s.heap.size Sc v → lv_has ls 7 [(0, .ref b), (1, .ref s.heap.size), (2, .ref (s.heap.size + 230)), (3, .ref (s.heap.size + 257)), (4, .int (nI (7 * j)))] → W p l e room_1 s m args below meth c H locs (cells + 9) (slots + 3102) Q (F0 m 1386 ls [])) : ∀ (Sc : ST) (v w : GV) (H : Heap) (locs : List Loc) (ls : Array Slot), IV D cA s Sc v w H locs → RR s.heap.size Sc v → lv_has ls 7 [(0, .ref b), (1, .ref s.heap.size), (2, .ref (s.heap.size + 230)), (3, .ref (s.heap.size + 257)), (4, .int (nI (7 * j)))] → W p l e room_1 s m args below meth c H locs cells slots Q (F0 m 509 ls []) := by
  intro Sc v w H locs ls hI hR hl
  have hx := hM.1
  have hb := hM.2.1
  have hbA : ¬ OU (Gz D cA s.heap.size) b := fun q => absurd q.1 (Nat.not_le.mpr hbl)
  have hcv := RR_m hR
  have hcc := RR_c hR
  refine lv_aload_n hx hb dL_law_509 rfl (lv_at hl 1 rfl) ?_
  refine lv_aload_n hx hb dL_law_510 rfl (lv_at hl 0 rfl) ?_
  refine lv_iload hx hb dL_law_511 (lv_at hl 4 rfl) ?_
  refine lv_iconst (v := (1 : Int32)) hx hb dL_law_513 (by decide) ?_
  refine lv_iadd hx hb dL_law_514 ?_
  refine va_sld hx hb hXs hbl hbA hI.2.2.2.1 (sin (k := 1) hL hj rfl (by decide)) dL_law_515 ?_
  refine lv_aload_n hx hb dL_law_516 rfl (lv_at hl 0 rfl) ?_
  refine lv_iload hx hb dL_law_517 (lv_at hl 4 rfl) ?_
  refine lv_iconst (v := (2 : Int32)) hx hb dL_law_519 (by decide) ?_
  refine lv_iadd hx hb dL_law_520 ?_
  refine va_sld hx hb hXs hbl hbA hI.2.2.2.1 (sin (k := 2) hL hj rfl (by decide)) dL_law_521 ?_
  refine lv_aload_n hx hb dL_law_522 rfl (lv_at hl 0 rfl) ?_
  refine lv_iload hx hb dL_law_523 (lv_at hl 4 rfl) ?_
  refine lv_iconst (v := (3 : Int32)) hx hb dL_law_525 (by decide) ?_
  refine lv_iadd hx hb dL_law_526 ?_
  refine va_sld hx hb hXs hbl hbA hI.2.2.2.1 (sin (k := 3) hL hj rfl (by decide)) dL_law_527 ?_
  obtain ⟨z, Sc', v', r1, r2, hR'⟩ := r_paint (fu := 1101) (Nat.le_refl _) hR (xs (nI (7 * j) + (1 : Int32)).toNatClampNeg) (xs (nI (7 * j) + (2 : Int32)).toNatClampNeg) (xs (nI (7 * j) + (3 : Int32)).toNatClampNeg)
  refine L_cls [.int (xs (nI (7 * j) + (1 : Int32)).toNatClampNeg), .int (xs (nI (7 * j) + (2 : Int32)).toNatClampNeg), .int (xs (nI (7 * j) + (3 : Int32)).toNatClampNeg)] [] hM hml hl.1 hI hcc (c_X12_paint l _ 1101 Sc s.heap.size _ _ _ hcc r1) (cwV 3 hM.2.2.2.1 (gV mk_RL_52 im_X12_paint se_X12_paint it_RX12 cd_X12_paint) rfl rfl rfl (by decide +kernel) ⟨Nat.le_of_ble_eq_true rfl, Nat.le_of_ble_eq_true rfl⟩) rfl rfl (Nat.zero_le _) ⟨by show cells ≤ 601024; omega, by show slots ≤ 7293034; omega⟩ dL_law_528 (fun H locs hI => ?_)
  refine lv_aload_n hx hb dL_law_531 rfl (lv_at hl 2 rfl) ?_
  refine lv_aload_n hx hb dL_law_532 rfl (lv_at hl 0 rfl) ?_
  refine lv_iload hx hb dL_law_533 (lv_at hl 4 rfl) ?_
  refine lv_iconst (v := (1 : Int32)) hx hb dL_law_535 (by decide) ?_
  refine lv_iadd hx hb dL_law_536 ?_
  refine va_sld hx hb hXs hbl hbA hI.2.2.2.1 (sin (k := 1) hL hj rfl (by decide)) dL_law_537 ?_
  refine lv_aload_n hx hb dL_law_538 rfl (lv_at hl 0 rfl) ?_
  refine lv_iload hx hb dL_law_539 (lv_at hl 4 rfl) ?_
  refine lv_iconst (v := (2 : Int32)) hx hb dL_law_541 (by decide) ?_
  refine lv_iadd hx hb dL_law_542 ?_
  refine va_sld hx hb hXs hbl hbA hI.2.2.2.1 (sin (k := 2) hL hj rfl (by decide)) dL_law_543 ?_
  refine lv_aload_n hx hb dL_law_544 rfl (lv_at hl 0 rfl) ?_
  refine lv_iload hx hb dL_law_545 (lv_at hl 4 rfl) ?_
  refine lv_iconst (v := (3 : Int32)) hx hb dL_law_547 (by decide) ?_
  refine lv_iadd hx hb dL_law_548 ?_
  refine va_sld hx hb hXs hbl hbA hI.2.2.2.1 (sin (k := 3) hL hj rfl (by decide)) dL_law_549 ?_
  refine L_mod [.int (xs (nI (7 * j) + (1 : Int32)).toNatClampNeg), .int (xs (nI (7 * j) + (2 : Int32)).toNatClampNeg), .int (xs (nI (7 * j) + (3 : Int32)).toNatClampNeg)] [.int z] hM hml hl.1 hI (c_X13_paint l _ 1101 _ _ v _ _ _ hcv r2) (RR_m hR') (cwV 3 hM.2.2.2.1 (gV mk_RL_56 im_X13_paint se_X13_paint it_RX13 cd_X13_paint) rfl rfl rfl (by decide +kernel) ⟨Nat.le_of_ble_eq_true rfl, Nat.le_of_ble_eq_true rfl⟩) rfl rfl (Nat.le_of_ble_eq_true rfl) ⟨by show cells ≤ 601024; omega, by show slots ≤ 7293034; omega⟩ dL_law_550 (fun H locs hI => ?_)
  refine lv_icmp_eq (tgt := 1386) hx hb dL_law_553 (by decide) (fun _ => ?_) (fun c9 => absurd rfl c9)
  exact W.widen (Nat.le_add_right _ _) (Nat.le_add_right _ _) (kk _ _ _ _ _ _ hI hR' hl)
set_option maxHeartbeats 4000000 in
set_option maxRecDepth 100000 in
theorem lc_sell (hM : MC (Gz D cA s.heap.size) p s m args c cL_law (cmL :: wsL_law0) RL) (hml : c.maxLocals = 7) (hXs : va_X b L xs s s.heap) (hbl : b < s.heap.size) (hL : L ≤ 3584) (hj : 7 * j + 7 ≤ L) (hcr : cells + 9 ≤ 601024 ∧ slots + 3102 ≤ 7293034) (kk : ∀ (Sc : ST) (v w : GV) (H : Heap) (locs : List Loc) (ls : Array Slot), IV D cA s Sc v w H locs → RR s.heap.size Sc v → lv_has ls 7 [(0, .ref b), (1, .ref s.heap.size), (2, .ref (s.heap.size + 230)), (3, .ref (s.heap.size + 257)), (4, .int (nI (7 * j)))] → W p l e room_1 s m args below meth c H locs (cells + 9) (slots + 3102) Q (F0 m 1386 ls [])) : ∀ (Sc : ST) (v w : GV) (H : Heap) (locs : List Loc) (ls : Array Slot), IV D cA s Sc v w H locs → RR s.heap.size Sc v → lv_has ls 7 [(0, .ref b), (1, .ref s.heap.size), (2, .ref (s.heap.size + 230)), (3, .ref (s.heap.size + 257)), (4, .int (nI (7 * j)))] → W p l e room_1 s m args below meth c H locs cells slots Q (F0 m 558 ls []) := by
  intro Sc v w H locs ls hI hR hl
  have hx := hM.1
  have hb := hM.2.1
  have hbA : ¬ OU (Gz D cA s.heap.size) b := fun q => absurd q.1 (Nat.not_le.mpr hbl)
  have hcv := RR_m hR
  have hcc := RR_c hR
  refine lv_aload_n hx hb dL_law_558 rfl (lv_at hl 1 rfl) ?_
  refine lv_aload_n hx hb dL_law_559 rfl (lv_at hl 0 rfl) ?_
  refine lv_iload hx hb dL_law_560 (lv_at hl 4 rfl) ?_
  refine lv_iconst (v := (1 : Int32)) hx hb dL_law_562 (by decide) ?_
  refine lv_iadd hx hb dL_law_563 ?_
  refine va_sld hx hb hXs hbl hbA hI.2.2.2.1 (sin (k := 1) hL hj rfl (by decide)) dL_law_564 ?_
  refine lv_aload_n hx hb dL_law_565 rfl (lv_at hl 0 rfl) ?_
  refine lv_iload hx hb dL_law_566 (lv_at hl 4 rfl) ?_
  refine lv_iconst (v := (2 : Int32)) hx hb dL_law_568 (by decide) ?_
  refine lv_iadd hx hb dL_law_569 ?_
  refine va_sld hx hb hXs hbl hbA hI.2.2.2.1 (sin (k := 2) hL hj rfl (by decide)) dL_law_570 ?_
  obtain ⟨z, Sc', v', r1, r2, hR'⟩ := r_sell (fu := 1101) (Nat.le_refl _) hR (xs (nI (7 * j) + (1 : Int32)).toNatClampNeg) (xs (nI (7 * j) + (2 : Int32)).toNatClampNeg)
  refine L_cls [.int (xs (nI (7 * j) + (1 : Int32)).toNatClampNeg), .int (xs (nI (7 * j) + (2 : Int32)).toNatClampNeg)] [] hM hml hl.1 hI hcc (c_X12_sell l _ 1101 Sc s.heap.size _ _ hcc r1) (cwV 2 hM.2.2.2.1 (gV mk_RL_57 im_X12_sell se_X12_sell it_RX12 cd_X12_sell) rfl rfl rfl (by decide +kernel) ⟨Nat.le_of_ble_eq_true rfl, Nat.le_of_ble_eq_true rfl⟩) rfl rfl (Nat.zero_le _) ⟨by show cells ≤ 601024; omega, by show slots ≤ 7293034; omega⟩ dL_law_571 (fun H locs hI => ?_)
  refine lv_aload_n hx hb dL_law_574 rfl (lv_at hl 2 rfl) ?_
  refine lv_aload_n hx hb dL_law_575 rfl (lv_at hl 0 rfl) ?_
  refine lv_iload hx hb dL_law_576 (lv_at hl 4 rfl) ?_
  refine lv_iconst (v := (1 : Int32)) hx hb dL_law_578 (by decide) ?_
  refine lv_iadd hx hb dL_law_579 ?_
  refine va_sld hx hb hXs hbl hbA hI.2.2.2.1 (sin (k := 1) hL hj rfl (by decide)) dL_law_580 ?_
  refine lv_aload_n hx hb dL_law_581 rfl (lv_at hl 0 rfl) ?_
  refine lv_iload hx hb dL_law_582 (lv_at hl 4 rfl) ?_
  refine lv_iconst (v := (2 : Int32)) hx hb dL_law_584 (by decide) ?_
  refine lv_iadd hx hb dL_law_585 ?_
  refine va_sld hx hb hXs hbl hbA hI.2.2.2.1 (sin (k := 2) hL hj rfl (by decide)) dL_law_586 ?_
  refine L_mod [.int (xs (nI (7 * j) + (1 : Int32)).toNatClampNeg), .int (xs (nI (7 * j) + (2 : Int32)).toNatClampNeg)] [.int z] hM hml hl.1 hI (c_X13_sell l _ 1101 _ _ v _ _ hcv r2) (RR_m hR') (cwV 2 hM.2.2.2.1 (gV mk_RL_60 im_X13_sell se_X13_sell it_RX13 cd_X13_sell) rfl rfl rfl (by decide +kernel) ⟨Nat.le_of_ble_eq_true rfl, Nat.le_of_ble_eq_true rfl⟩) rfl rfl (Nat.le_of_ble_eq_true rfl) ⟨by show cells ≤ 601024; omega, by show slots ≤ 7293034; omega⟩ dL_law_587 (fun H locs hI => ?_)
  refine lv_icmp_eq (tgt := 1386) hx hb dL_law_590 (by decide) (fun _ => ?_) (fun c9 => absurd rfl c9)
  exact W.widen (Nat.le_add_right _ _) (Nat.le_add_right _ _) (kk _ _ _ _ _ _ hI hR' hl)
set_option maxHeartbeats 4000000 in
set_option maxRecDepth 100000 in
theorem lc_guard (hM : MC (Gz D cA s.heap.size) p s m args c cL_law (cmL :: wsL_law0) RL) (hml : c.maxLocals = 7) (hXs : va_X b L xs s s.heap) (hbl : b < s.heap.size) (hL : L ≤ 3584) (hj : 7 * j + 7 ≤ L) (hcr : cells + 9 ≤ 601024 ∧ slots + 3102 ≤ 7293034) (kk : ∀ (Sc : ST) (v w : GV) (H : Heap) (locs : List Loc) (ls : Array Slot), IV D cA s Sc v w H locs → RR s.heap.size Sc v → lv_has ls 7 [(0, .ref b), (1, .ref s.heap.size), (2, .ref (s.heap.size + 230)), (3, .ref (s.heap.size + 257)), (4, .int (nI (7 * j)))] → W p l e room_1 s m args below meth c H locs (cells + 9) (slots + 3102) Q (F0 m 1386 ls [])) : ∀ (Sc : ST) (v w : GV) (H : Heap) (locs : List Loc) (ls : Array Slot), IV D cA s Sc v w H locs → RR s.heap.size Sc v → lv_has ls 7 [(0, .ref b), (1, .ref s.heap.size), (2, .ref (s.heap.size + 230)), (3, .ref (s.heap.size + 257)), (4, .int (nI (7 * j)))] → W p l e room_1 s m args below meth c H locs cells slots Q (F0 m 595 ls []) := by
  intro Sc v w H locs ls hI hR hl
  have hx := hM.1
  have hb := hM.2.1
  have hbA : ¬ OU (Gz D cA s.heap.size) b := fun q => absurd q.1 (Nat.not_le.mpr hbl)
  have hcv := RR_m hR
  have hcc := RR_c hR
  refine lv_aload_n hx hb dL_law_595 rfl (lv_at hl 1 rfl) ?_
  refine lv_aload_n hx hb dL_law_596 rfl (lv_at hl 0 rfl) ?_
  refine lv_iload hx hb dL_law_597 (lv_at hl 4 rfl) ?_
  refine lv_iconst (v := (1 : Int32)) hx hb dL_law_599 (by decide) ?_
  refine lv_iadd hx hb dL_law_600 ?_
  refine va_sld hx hb hXs hbl hbA hI.2.2.2.1 (sin (k := 1) hL hj rfl (by decide)) dL_law_601 ?_
  obtain ⟨z, Sc', v', r1, r2, hR'⟩ := r_guard (fu := 1101) (Nat.le_refl _) hR (xs (nI (7 * j) + (1 : Int32)).toNatClampNeg)
  refine L_cls [.int (xs (nI (7 * j) + (1 : Int32)).toNatClampNeg)] [] hM hml hl.1 hI hcc (c_X12_guard l _ 1101 Sc s.heap.size _ hcc r1) (cwV 1 hM.2.2.2.1 (gV mk_RL_61 im_X12_guard se_X12_guard it_RX12 cd_X12_guard) rfl rfl rfl (by decide +kernel) ⟨Nat.le_of_ble_eq_true rfl, Nat.le_of_ble_eq_true rfl⟩) rfl rfl (Nat.zero_le _) ⟨by show cells ≤ 601024; omega, by show slots ≤ 7293034; omega⟩ dL_law_602 (fun H locs hI => ?_)
  refine lv_aload_n hx hb dL_law_605 rfl (lv_at hl 2 rfl) ?_
  refine lv_aload_n hx hb dL_law_606 rfl (lv_at hl 0 rfl) ?_
  refine lv_iload hx hb dL_law_607 (lv_at hl 4 rfl) ?_
  refine lv_iconst (v := (1 : Int32)) hx hb dL_law_609 (by decide) ?_
  refine lv_iadd hx hb dL_law_610 ?_
  refine va_sld hx hb hXs hbl hbA hI.2.2.2.1 (sin (k := 1) hL hj rfl (by decide)) dL_law_611 ?_
  refine L_mod [.int (xs (nI (7 * j) + (1 : Int32)).toNatClampNeg)] [.int z] hM hml hl.1 hI (c_X13_guard l _ 1101 _ _ v _ hcv r2) (RR_m hR') (cwV 1 hM.2.2.2.1 (gV mk_RL_65 im_X13_guard se_X13_guard it_RX13 cd_X13_guard) rfl rfl rfl (by decide +kernel) ⟨Nat.le_of_ble_eq_true rfl, Nat.le_of_ble_eq_true rfl⟩) rfl rfl (Nat.le_of_ble_eq_true rfl) ⟨by show cells ≤ 601024; omega, by show slots ≤ 7293034; omega⟩ dL_law_612 (fun H locs hI => ?_)
  refine lv_icmp_eq (tgt := 1386) hx hb dL_law_615 (by decide) (fun _ => ?_) (fun c9 => absurd rfl c9)
  exact W.widen (Nat.le_add_right _ _) (Nat.le_add_right _ _) (kk _ _ _ _ _ _ hI hR' hl)
set_option maxHeartbeats 4000000 in
set_option maxRecDepth 100000 in
theorem lc_night (hM : MC (Gz D cA s.heap.size) p s m args c cL_law (cmL :: wsL_law0) RL) (hml : c.maxLocals = 7) (hXs : va_X b L xs s s.heap) (hbl : b < s.heap.size) (hL : L ≤ 3584) (hj : 7 * j + 7 ≤ L) (hcr : cells + 9 ≤ 601024 ∧ slots + 3102 ≤ 7293034) (kk : ∀ (Sc : ST) (v w : GV) (H : Heap) (locs : List Loc) (ls : Array Slot), IV D cA s Sc v w H locs → RR s.heap.size Sc v → lv_has ls 7 [(0, .ref b), (1, .ref s.heap.size), (2, .ref (s.heap.size + 230)), (3, .ref (s.heap.size + 257)), (4, .int (nI (7 * j)))] → W p l e room_1 s m args below meth c H locs (cells + 9) (slots + 3102) Q (F0 m 1386 ls [])) : ∀ (Sc : ST) (v w : GV) (H : Heap) (locs : List Loc) (ls : Array Slot), IV D cA s Sc v w H locs → RR s.heap.size Sc v → lv_has ls 7 [(0, .ref b), (1, .ref s.heap.size), (2, .ref (s.heap.size + 230)), (3, .ref (s.heap.size + 257)), (4, .int (nI (7 * j)))] → W p l e room_1 s m args below meth c H locs cells slots Q (F0 m 620 ls []) := by
  intro Sc v w H locs ls hI hR hl
  have hx := hM.1
  have hb := hM.2.1
  have hbA : ¬ OU (Gz D cA s.heap.size) b := fun q => absurd q.1 (Nat.not_le.mpr hbl)
  have hcv := RR_m hR
  have hcc := RR_c hR
  refine lv_aload_n hx hb dL_law_620 rfl (lv_at hl 1 rfl) ?_
  obtain ⟨z, Sc', v', r1, r2, hR'⟩ := r_night (fu := 1101) (Nat.le_refl _) hR
  refine L_cls [] [] hM hml hl.1 hI hcc (c_X12_night l _ 1101 Sc s.heap.size hcc r1) (cwV 0 hM.2.2.2.1 (gV mk_RL_66 im_X12_night se_X12_night it_RX12 cd_X12_night) rfl rfl rfl (by decide +kernel) ⟨Nat.le_of_ble_eq_true rfl, Nat.le_of_ble_eq_true rfl⟩) rfl rfl (Nat.zero_le _) ⟨by show cells ≤ 601024; omega, by show slots ≤ 7293034; omega⟩ dL_law_621 (fun H locs hI => ?_)
  refine lv_aload_n hx hb dL_law_624 rfl (lv_at hl 2 rfl) ?_
  refine L_mod [] [.int z] hM hml hl.1 hI (c_X13_night l _ 1101 _ _ v hcv r2) (RR_m hR') (cwV 0 hM.2.2.2.1 (gV mk_RL_69 im_X13_night se_X13_night it_RX13 cd_X13_night) rfl rfl rfl (by decide +kernel) ⟨Nat.le_of_ble_eq_true rfl, Nat.le_of_ble_eq_true rfl⟩) rfl rfl (Nat.le_of_ble_eq_true rfl) ⟨by show cells ≤ 601024; omega, by show slots ≤ 7293034; omega⟩ dL_law_625 (fun H locs hI => ?_)
  refine lv_icmp_eq (tgt := 1386) hx hb dL_law_628 (by decide) (fun _ => ?_) (fun c9 => absurd rfl c9)
  exact W.widen (Nat.le_add_right _ _) (Nat.le_add_right _ _) (kk _ _ _ _ _ _ hI hR' hl)
set_option maxHeartbeats 4000000 in
set_option maxRecDepth 100000 in
theorem lc_undo (hM : MC (Gz D cA s.heap.size) p s m args c cL_law (cmL :: wsL_law0) RL) (hml : c.maxLocals = 7) (hXs : va_X b L xs s s.heap) (hbl : b < s.heap.size) (hL : L ≤ 3584) (hj : 7 * j + 7 ≤ L) (hcr : cells + 9 ≤ 601024 ∧ slots + 3102 ≤ 7293034) (kk : ∀ (Sc : ST) (v w : GV) (H : Heap) (locs : List Loc) (ls : Array Slot), IV D cA s Sc v w H locs → RR s.heap.size Sc v → lv_has ls 7 [(0, .ref b), (1, .ref s.heap.size), (2, .ref (s.heap.size + 230)), (3, .ref (s.heap.size + 257)), (4, .int (nI (7 * j)))] → W p l e room_1 s m args below meth c H locs (cells + 9) (slots + 3102) Q (F0 m 1386 ls [])) : ∀ (Sc : ST) (v w : GV) (H : Heap) (locs : List Loc) (ls : Array Slot), IV D cA s Sc v w H locs → RR s.heap.size Sc v → lv_has ls 7 [(0, .ref b), (1, .ref s.heap.size), (2, .ref (s.heap.size + 230)), (3, .ref (s.heap.size + 257)), (4, .int (nI (7 * j)))] → W p l e room_1 s m args below meth c H locs cells slots Q (F0 m 633 ls []) := by
  intro Sc v w H locs ls hI hR hl
  have hx := hM.1
  have hb := hM.2.1
  have hbA : ¬ OU (Gz D cA s.heap.size) b := fun q => absurd q.1 (Nat.not_le.mpr hbl)
  have hcv := RR_m hR
  have hcc := RR_c hR
  refine lv_aload_n hx hb dL_law_633 rfl (lv_at hl 1 rfl) ?_
  obtain ⟨z, Sc', v', r1, r2, hR'⟩ := r_undo (fu := 1101) (Nat.le_refl _) hR
  refine L_cls [] [] hM hml hl.1 hI hcc (c_X12_undo l _ 1101 Sc s.heap.size hcc r1) (cwV 0 hM.2.2.2.1 (gV mk_RL_70 im_X12_undo se_X12_undo it_RX12 cd_X12_undo) rfl rfl rfl (by decide +kernel) ⟨Nat.le_of_ble_eq_true rfl, Nat.le_of_ble_eq_true rfl⟩) rfl rfl (Nat.zero_le _) ⟨by show cells ≤ 601024; omega, by show slots ≤ 7293034; omega⟩ dL_law_634 (fun H locs hI => ?_)
  refine lv_aload_n hx hb dL_law_637 rfl (lv_at hl 2 rfl) ?_
  refine L_mod [] [.int z] hM hml hl.1 hI (c_X13_undo l _ 1101 _ _ v hcv r2) (RR_m hR') (cwV 0 hM.2.2.2.1 (gV mk_RL_74 im_X13_undo se_X13_undo it_RX13 cd_X13_undo) rfl rfl rfl (by decide +kernel) ⟨Nat.le_of_ble_eq_true rfl, Nat.le_of_ble_eq_true rfl⟩) rfl rfl (Nat.le_of_ble_eq_true rfl) ⟨by show cells ≤ 601024; omega, by show slots ≤ 7293034; omega⟩ dL_law_638 (fun H locs hI => ?_)
  refine lv_icmp_eq (tgt := 1386) hx hb dL_law_641 (by decide) (fun _ => ?_) (fun c9 => absurd rfl c9)
  exact W.widen (Nat.le_add_right _ _) (Nat.le_add_right _ _) (kk _ _ _ _ _ _ hI hR' hl)
set_option maxHeartbeats 4000000 in
set_option maxRecDepth 100000 in
theorem lc_judged (hM : MC (Gz D cA s.heap.size) p s m args c cL_law (cmL :: wsL_law0) RL) (hml : c.maxLocals = 7) (hXs : va_X b L xs s s.heap) (hbl : b < s.heap.size) (hL : L ≤ 3584) (hj : 7 * j + 7 ≤ L) (hcr : cells + 9 ≤ 601024 ∧ slots + 3102 ≤ 7293034) (kk : ∀ (Sc : ST) (v w : GV) (H : Heap) (locs : List Loc) (ls : Array Slot), IV D cA s Sc v w H locs → RR s.heap.size Sc v → lv_has ls 7 [(0, .ref b), (1, .ref s.heap.size), (2, .ref (s.heap.size + 230)), (3, .ref (s.heap.size + 257)), (4, .int (nI (7 * j)))] → W p l e room_1 s m args below meth c H locs (cells + 9) (slots + 3102) Q (F0 m 1386 ls [])) : ∀ (Sc : ST) (v w : GV) (H : Heap) (locs : List Loc) (ls : Array Slot), IV D cA s Sc v w H locs → RR s.heap.size Sc v → lv_has ls 7 [(0, .ref b), (1, .ref s.heap.size), (2, .ref (s.heap.size + 230)), (3, .ref (s.heap.size + 257)), (4, .int (nI (7 * j)))] → W p l e room_1 s m args below meth c H locs cells slots Q (F0 m 646 ls []) := by
  intro Sc v w H locs ls hI hR hl
  have hx := hM.1
  have hb := hM.2.1
  have hbA : ¬ OU (Gz D cA s.heap.size) b := fun q => absurd q.1 (Nat.not_le.mpr hbl)
  have hcv := RR_m hR
  have hcc := RR_c hR
  refine lv_aload_n hx hb dL_law_646 rfl (lv_at hl 1 rfl) ?_
  refine lv_aload_n hx hb dL_law_647 rfl (lv_at hl 0 rfl) ?_
  refine lv_iload hx hb dL_law_648 (lv_at hl 4 rfl) ?_
  refine lv_iconst (v := (1 : Int32)) hx hb dL_law_650 (by decide) ?_
  refine lv_iadd hx hb dL_law_651 ?_
  refine va_sld hx hb hXs hbl hbA hI.2.2.2.1 (sin (k := 1) hL hj rfl (by decide)) dL_law_652 ?_
  obtain ⟨z, Sc', v', r1, r2, hR'⟩ := r_judged (fu := 1101) (Nat.le_refl _) hR (xs (nI (7 * j) + (1 : Int32)).toNatClampNeg)
  refine L_cls [.int (xs (nI (7 * j) + (1 : Int32)).toNatClampNeg)] [] hM hml hl.1 hI hcc (c_X12_judged l _ 1101 Sc s.heap.size _ hcc r1) (cwV 1 hM.2.2.2.1 (gV mk_RL_75 im_X12_judged se_X12_judged it_RX12 cd_X12_judged) rfl rfl rfl (by decide +kernel) ⟨Nat.le_of_ble_eq_true rfl, Nat.le_of_ble_eq_true rfl⟩) rfl rfl (Nat.zero_le _) ⟨by show cells ≤ 601024; omega, by show slots ≤ 7293034; omega⟩ dL_law_653 (fun H locs hI => ?_)
  refine lv_aload_n hx hb dL_law_656 rfl (lv_at hl 2 rfl) ?_
  refine lv_aload_n hx hb dL_law_657 rfl (lv_at hl 0 rfl) ?_
  refine lv_iload hx hb dL_law_658 (lv_at hl 4 rfl) ?_
  refine lv_iconst (v := (1 : Int32)) hx hb dL_law_660 (by decide) ?_
  refine lv_iadd hx hb dL_law_661 ?_
  refine va_sld hx hb hXs hbl hbA hI.2.2.2.1 (sin (k := 1) hL hj rfl (by decide)) dL_law_662 ?_
  refine L_mod [.int (xs (nI (7 * j) + (1 : Int32)).toNatClampNeg)] [.int z] hM hml hl.1 hI (c_X13_judged l _ 1101 _ _ v _ hcv r2) (RR_m hR') (cwV 1 hM.2.2.2.1 (gV mk_RL_79 im_X13_judged se_X13_judged it_RX13 cd_X13_judged) rfl rfl rfl (by decide +kernel) ⟨Nat.le_of_ble_eq_true rfl, Nat.le_of_ble_eq_true rfl⟩) rfl rfl (Nat.le_of_ble_eq_true rfl) ⟨by show cells ≤ 601024; omega, by show slots ≤ 7293034; omega⟩ dL_law_663 (fun H locs hI => ?_)
  refine lv_icmp_eq (tgt := 1386) hx hb dL_law_666 (by decide) (fun _ => ?_) (fun c9 => absurd rfl c9)
  exact W.widen (Nat.le_add_right _ _) (Nat.le_add_right _ _) (kk _ _ _ _ _ _ hI hR' hl)
set_option maxHeartbeats 4000000 in
set_option maxRecDepth 100000 in
theorem lc_tree (hM : MC (Gz D cA s.heap.size) p s m args c cL_law (cmL :: wsL_law0) RL) (hml : c.maxLocals = 7) (hXs : va_X b L xs s s.heap) (hbl : b < s.heap.size) (hL : L ≤ 3584) (hj : 7 * j + 7 ≤ L) (hcr : cells + 9 ≤ 601024 ∧ slots + 3102 ≤ 7293034) (kk : ∀ (Sc : ST) (v w : GV) (H : Heap) (locs : List Loc) (ls : Array Slot), IV D cA s Sc v w H locs → RR s.heap.size Sc v → lv_has ls 7 [(0, .ref b), (1, .ref s.heap.size), (2, .ref (s.heap.size + 230)), (3, .ref (s.heap.size + 257)), (4, .int (nI (7 * j)))] → W p l e room_1 s m args below meth c H locs (cells + 9) (slots + 3102) Q (F0 m 1386 ls [])) : ∀ (Sc : ST) (v w : GV) (H : Heap) (locs : List Loc) (ls : Array Slot), IV D cA s Sc v w H locs → RR s.heap.size Sc v → lv_has ls 7 [(0, .ref b), (1, .ref s.heap.size), (2, .ref (s.heap.size + 230)), (3, .ref (s.heap.size + 257)), (4, .int (nI (7 * j)))] → W p l e room_1 s m args below meth c H locs cells slots Q (F0 m 671 ls []) := by
  intro Sc v w H locs ls hI hR hl
  have hx := hM.1
  have hb := hM.2.1
  have hbA : ¬ OU (Gz D cA s.heap.size) b := fun q => absurd q.1 (Nat.not_le.mpr hbl)
  have hcv := RR_m hR
  have hcc := RR_c hR
  refine lv_aload_n hx hb dL_law_671 rfl (lv_at hl 1 rfl) ?_
  refine lv_aload_n hx hb dL_law_672 rfl (lv_at hl 0 rfl) ?_
  refine lv_iload hx hb dL_law_673 (lv_at hl 4 rfl) ?_
  refine lv_iconst (v := (1 : Int32)) hx hb dL_law_675 (by decide) ?_
  refine lv_iadd hx hb dL_law_676 ?_
  refine va_sld hx hb hXs hbl hbA hI.2.2.2.1 (sin (k := 1) hL hj rfl (by decide)) dL_law_677 ?_
  refine lv_aload_n hx hb dL_law_678 rfl (lv_at hl 0 rfl) ?_
  refine lv_iload hx hb dL_law_679 (lv_at hl 4 rfl) ?_
  refine lv_iconst (v := (2 : Int32)) hx hb dL_law_681 (by decide) ?_
  refine lv_iadd hx hb dL_law_682 ?_
  refine va_sld hx hb hXs hbl hbA hI.2.2.2.1 (sin (k := 2) hL hj rfl (by decide)) dL_law_683 ?_
  obtain ⟨z, Sc', v', r1, r2, hR'⟩ := r_tree (fu := 1101) (Nat.le_refl _) hR (xs (nI (7 * j) + (1 : Int32)).toNatClampNeg) (xs (nI (7 * j) + (2 : Int32)).toNatClampNeg)
  refine L_cls [.int (xs (nI (7 * j) + (1 : Int32)).toNatClampNeg), .int (xs (nI (7 * j) + (2 : Int32)).toNatClampNeg)] [] hM hml hl.1 hI hcc (c_X12_tree l _ 1101 Sc s.heap.size _ _ hcc r1) (cwV 2 hM.2.2.2.1 (gV mk_RL_80 im_X12_tree se_X12_tree it_RX12 cd_X12_tree) rfl rfl rfl (by decide +kernel) ⟨Nat.le_of_ble_eq_true rfl, Nat.le_of_ble_eq_true rfl⟩) rfl rfl (Nat.zero_le _) ⟨by show cells ≤ 601024; omega, by show slots ≤ 7293034; omega⟩ dL_law_684 (fun H locs hI => ?_)
  refine lv_aload_n hx hb dL_law_687 rfl (lv_at hl 2 rfl) ?_
  refine lv_aload_n hx hb dL_law_688 rfl (lv_at hl 0 rfl) ?_
  refine lv_iload hx hb dL_law_689 (lv_at hl 4 rfl) ?_
  refine lv_iconst (v := (1 : Int32)) hx hb dL_law_691 (by decide) ?_
  refine lv_iadd hx hb dL_law_692 ?_
  refine va_sld hx hb hXs hbl hbA hI.2.2.2.1 (sin (k := 1) hL hj rfl (by decide)) dL_law_693 ?_
  refine lv_aload_n hx hb dL_law_694 rfl (lv_at hl 0 rfl) ?_
  refine lv_iload hx hb dL_law_695 (lv_at hl 4 rfl) ?_
  refine lv_iconst (v := (2 : Int32)) hx hb dL_law_697 (by decide) ?_
  refine lv_iadd hx hb dL_law_698 ?_
  refine va_sld hx hb hXs hbl hbA hI.2.2.2.1 (sin (k := 2) hL hj rfl (by decide)) dL_law_699 ?_
  refine L_mod [.int (xs (nI (7 * j) + (1 : Int32)).toNatClampNeg), .int (xs (nI (7 * j) + (2 : Int32)).toNatClampNeg)] [.int z] hM hml hl.1 hI (c_X13_tree l _ 1101 _ _ v _ _ hcv r2) (RR_m hR') (cwV 2 hM.2.2.2.1 (gV mk_RL_83 im_X13_tree se_X13_tree it_RX13 cd_X13_tree) rfl rfl rfl (by decide +kernel) ⟨Nat.le_of_ble_eq_true rfl, Nat.le_of_ble_eq_true rfl⟩) rfl rfl (Nat.le_of_ble_eq_true rfl) ⟨by show cells ≤ 601024; omega, by show slots ≤ 7293034; omega⟩ dL_law_700 (fun H locs hI => ?_)
  refine lv_icmp_eq (tgt := 1386) hx hb dL_law_703 (by decide) (fun _ => ?_) (fun c9 => absurd rfl c9)
  exact W.widen (Nat.le_add_right _ _) (Nat.le_add_right _ _) (kk _ _ _ _ _ _ hI hR' hl)
set_option maxHeartbeats 4000000 in
set_option maxRecDepth 100000 in
theorem lc_kin (hM : MC (Gz D cA s.heap.size) p s m args c cL_law (cmL :: wsL_law0) RL) (hml : c.maxLocals = 7) (hXs : va_X b L xs s s.heap) (hbl : b < s.heap.size) (hL : L ≤ 3584) (hj : 7 * j + 7 ≤ L) (hcr : cells + 9 ≤ 601024 ∧ slots + 3102 ≤ 7293034) (kk : ∀ (Sc : ST) (v w : GV) (H : Heap) (locs : List Loc) (ls : Array Slot), IV D cA s Sc v w H locs → RR s.heap.size Sc v → lv_has ls 7 [(0, .ref b), (1, .ref s.heap.size), (2, .ref (s.heap.size + 230)), (3, .ref (s.heap.size + 257)), (4, .int (nI (7 * j)))] → W p l e room_1 s m args below meth c H locs (cells + 9) (slots + 3102) Q (F0 m 1386 ls [])) : ∀ (Sc : ST) (v w : GV) (H : Heap) (locs : List Loc) (ls : Array Slot), IV D cA s Sc v w H locs → RR s.heap.size Sc v → lv_has ls 7 [(0, .ref b), (1, .ref s.heap.size), (2, .ref (s.heap.size + 230)), (3, .ref (s.heap.size + 257)), (4, .int (nI (7 * j)))] → W p l e room_1 s m args below meth c H locs cells slots Q (F0 m 708 ls []) := by
  intro Sc v w H locs ls hI hR hl
  have hx := hM.1
  have hb := hM.2.1
  have hbA : ¬ OU (Gz D cA s.heap.size) b := fun q => absurd q.1 (Nat.not_le.mpr hbl)
  have hcv := RR_m hR
  have hcc := RR_c hR
  refine lv_aload_n hx hb dL_law_708 rfl (lv_at hl 1 rfl) ?_
  refine lv_aload_n hx hb dL_law_709 rfl (lv_at hl 0 rfl) ?_
  refine lv_iload hx hb dL_law_710 (lv_at hl 4 rfl) ?_
  refine lv_iconst (v := (1 : Int32)) hx hb dL_law_712 (by decide) ?_
  refine lv_iadd hx hb dL_law_713 ?_
  refine va_sld hx hb hXs hbl hbA hI.2.2.2.1 (sin (k := 1) hL hj rfl (by decide)) dL_law_714 ?_
  obtain ⟨z, v', r1, r2, hR'⟩ := r_kin (fu := 1101) (Nat.le_refl _) hR (xs (nI (7 * j) + (1 : Int32)).toNatClampNeg)
  refine L_cls [.int (xs (nI (7 * j) + (1 : Int32)).toNatClampNeg)] [] hM hml hl.1 hI hcc (c_X12_kin l _ 1101 Sc s.heap.size _ hcc r1) (cwV 1 hM.2.2.2.1 (gV mk_RL_84 im_X12_kin se_X12_kin it_RX12 cd_X12_kin) rfl rfl rfl (by decide +kernel) ⟨Nat.le_of_ble_eq_true rfl, Nat.le_of_ble_eq_true rfl⟩) rfl rfl (Nat.zero_le _) ⟨by show cells ≤ 601024; omega, by show slots ≤ 7293034; omega⟩ dL_law_715 (fun H locs hI => ?_)
  refine lv_aload_n hx hb dL_law_718 rfl (lv_at hl 2 rfl) ?_
  refine lv_aload_n hx hb dL_law_719 rfl (lv_at hl 0 rfl) ?_
  refine lv_iload hx hb dL_law_720 (lv_at hl 4 rfl) ?_
  refine lv_iconst (v := (1 : Int32)) hx hb dL_law_722 (by decide) ?_
  refine lv_iadd hx hb dL_law_723 ?_
  refine va_sld hx hb hXs hbl hbA hI.2.2.2.1 (sin (k := 1) hL hj rfl (by decide)) dL_law_724 ?_
  refine L_mod [.int (xs (nI (7 * j) + (1 : Int32)).toNatClampNeg)] [.int z] hM hml hl.1 hI (c_X13_kin l _ 1101 _ _ v _ hcv r2) (RR_m hR') (cwV 1 hM.2.2.2.1 (gV mk_RL_87 im_X13_kin se_X13_kin it_RX13 cd_X13_kin) rfl rfl rfl (by decide +kernel) ⟨Nat.le_of_ble_eq_true rfl, Nat.le_of_ble_eq_true rfl⟩) rfl rfl (Nat.le_of_ble_eq_true rfl) ⟨by show cells ≤ 601024; omega, by show slots ≤ 7293034; omega⟩ dL_law_725 (fun H locs hI => ?_)
  refine lv_icmp_eq (tgt := 1386) hx hb dL_law_728 (by decide) (fun _ => ?_) (fun c9 => absurd rfl c9)
  exact W.widen (Nat.le_add_right _ _) (Nat.le_add_right _ _) (kk _ _ _ _ _ _ hI hR' hl)
set_option maxHeartbeats 4000000 in
set_option maxRecDepth 100000 in
theorem lc_nearest (hM : MC (Gz D cA s.heap.size) p s m args c cL_law (cmL :: wsL_law0) RL) (hml : c.maxLocals = 7) (hXs : va_X b L xs s s.heap) (hbl : b < s.heap.size) (hL : L ≤ 3584) (hj : 7 * j + 7 ≤ L) (hcr : cells + 9 ≤ 601024 ∧ slots + 3102 ≤ 7293034) (kk : ∀ (Sc : ST) (v w : GV) (H : Heap) (locs : List Loc) (ls : Array Slot), IV D cA s Sc v w H locs → RR s.heap.size Sc v → lv_has ls 7 [(0, .ref b), (1, .ref s.heap.size), (2, .ref (s.heap.size + 230)), (3, .ref (s.heap.size + 257)), (4, .int (nI (7 * j)))] → W p l e room_1 s m args below meth c H locs (cells + 9) (slots + 3102) Q (F0 m 1386 ls [])) : ∀ (Sc : ST) (v w : GV) (H : Heap) (locs : List Loc) (ls : Array Slot), IV D cA s Sc v w H locs → RR s.heap.size Sc v → lv_has ls 7 [(0, .ref b), (1, .ref s.heap.size), (2, .ref (s.heap.size + 230)), (3, .ref (s.heap.size + 257)), (4, .int (nI (7 * j)))] → W p l e room_1 s m args below meth c H locs cells slots Q (F0 m 733 ls []) := by
  intro Sc v w H locs ls hI hR hl
  have hx := hM.1
  have hb := hM.2.1
  have hbA : ¬ OU (Gz D cA s.heap.size) b := fun q => absurd q.1 (Nat.not_le.mpr hbl)
  have hcv := RR_m hR
  have hcc := RR_c hR
  refine lv_aload_n hx hb dL_law_733 rfl (lv_at hl 1 rfl) ?_
  refine lv_aload_n hx hb dL_law_734 rfl (lv_at hl 0 rfl) ?_
  refine lv_iload hx hb dL_law_735 (lv_at hl 4 rfl) ?_
  refine lv_iconst (v := (1 : Int32)) hx hb dL_law_737 (by decide) ?_
  refine lv_iadd hx hb dL_law_738 ?_
  refine va_sld hx hb hXs hbl hbA hI.2.2.2.1 (sin (k := 1) hL hj rfl (by decide)) dL_law_739 ?_
  obtain ⟨z, v', r1, r2, hR'⟩ := r_nearest (fu := 1101) (Nat.le_refl _) hR (xs (nI (7 * j) + (1 : Int32)).toNatClampNeg)
  refine L_cls [.int (xs (nI (7 * j) + (1 : Int32)).toNatClampNeg)] [] hM hml hl.1 hI hcc (c_X12_nearest l _ 1101 Sc s.heap.size _ hcc r1) (cwV 1 hM.2.2.2.1 (gV mk_RL_88 im_X12_nearest se_X12_nearest it_RX12 cd_X12_nearest) rfl rfl rfl (by decide +kernel) ⟨Nat.le_of_ble_eq_true rfl, Nat.le_of_ble_eq_true rfl⟩) rfl rfl (Nat.zero_le _) ⟨by show cells ≤ 601024; omega, by show slots ≤ 7293034; omega⟩ dL_law_740 (fun H locs hI => ?_)
  refine lv_aload_n hx hb dL_law_743 rfl (lv_at hl 2 rfl) ?_
  refine lv_aload_n hx hb dL_law_744 rfl (lv_at hl 0 rfl) ?_
  refine lv_iload hx hb dL_law_745 (lv_at hl 4 rfl) ?_
  refine lv_iconst (v := (1 : Int32)) hx hb dL_law_747 (by decide) ?_
  refine lv_iadd hx hb dL_law_748 ?_
  refine va_sld hx hb hXs hbl hbA hI.2.2.2.1 (sin (k := 1) hL hj rfl (by decide)) dL_law_749 ?_
  refine L_mod [.int (xs (nI (7 * j) + (1 : Int32)).toNatClampNeg)] [.int z] hM hml hl.1 hI (c_X13_nearest l _ 1101 _ _ v _ hcv r2) (RR_m hR') (cwV 1 hM.2.2.2.1 (gV mk_RL_91 im_X13_nearest se_X13_nearest it_RX13 cd_X13_nearest) rfl rfl rfl (by decide +kernel) ⟨Nat.le_of_ble_eq_true rfl, Nat.le_of_ble_eq_true rfl⟩) rfl rfl (Nat.le_of_ble_eq_true rfl) ⟨by show cells ≤ 601024; omega, by show slots ≤ 7293034; omega⟩ dL_law_750 (fun H locs hI => ?_)
  refine lv_icmp_eq (tgt := 1386) hx hb dL_law_753 (by decide) (fun _ => ?_) (fun c9 => absurd rfl c9)
  exact W.widen (Nat.le_add_right _ _) (Nat.le_add_right _ _) (kk _ _ _ _ _ _ hI hR' hl)
end LCASE
