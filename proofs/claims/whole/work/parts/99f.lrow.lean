/-! ===== the law: the class and the model side by side ===== -/
/-- all that comes from n on; and the same without the model's cells and out's -/
def Gz (D : va_G) (cA : Nat → ClassId) (n : Nat) : GG := (D, cA, n, 0, 0)
def Gq (D : va_G) (cA : Nat → ClassId) (n : Nat) : GG := (D, cA, n, n + 230, n + 258)
theorem OU_z {D : va_G} {cA : Nat → ClassId} {n x : Nat} : OU (Gz D cA n) x ↔ n ≤ x := ⟨fun h => h.1, fun h => ⟨h, Or.inr (Nat.zero_le _)⟩⟩
theorem OU_q {D : va_G} {cA : Nat → ClassId} {n x : Nat} : OU (Gq D cA n) x ↔ n ≤ x ∧ (x < n + 230 ∨ n + 258 ≤ x) := Iff.rfl
theorem OU_qz {D : va_G} {cA : Nat → ClassId} {n x : Nat} (h : OU (Gq D cA n) x) : OU (Gz D cA n) x := OU_z.mpr h.1
theorem ow11_all : ((List.range 27).all fun y => decide (y = 0) || (List.range 41).any fun k => decide ((ds 11 k).1 = 2) && decide ((ds 11 k).2.1 = y)) = true := by decide +kernel
theorem ow11 {y : Nat} (h : y < 27) : ow 11 y := by
  have := List.all_eq_true.mp ow11_all y (List.mem_range.mpr h)
  rw [Bool.or_eq_true, decide_eq_true_eq, List.any_eq_true] at this
  rcases this with q | ⟨k, hk, q⟩
  · exact Or.inl q
  · rw [Bool.and_eq_true, decide_eq_true_eq, decide_eq_true_eq] at q
    exact Or.inr ⟨k, List.mem_range.mp hk, q.1, q.2⟩
theorem ow11_lt_all : ((List.range 41).all fun k => decide ((ds 11 k).1 ≠ 2) || decide ((ds 11 k).2.1 < 27)) = true := by decide +kernel
theorem ow11_lt {y : Nat} (h : ow 11 y) : y < 27 := by
  rcases h with rfl | ⟨k, hk, h1, rfl⟩
  · decide
  · have := List.all_eq_true.mp ow11_lt_all k (List.mem_range.mpr hk)
    rw [Bool.or_eq_true, decide_eq_true_eq, decide_eq_true_eq] at this
    rcases this with q | q
    · exact absurd h1 q
    · exact q
theorem CW.narrow {D : va_G} {cA : Nat → ClassId} {n : Nat} {U : State} {H : Heap} (h : CW (Gz D cA n) U H) : CW (Gq D cA n) U H :=
  ⟨fun j hj => ⟨(h.1 j hj).1.narrow (fun _ => OU_qz), (h.1 j hj).2.1.narrow (fun _ => OU_qz), (h.1 j hj).2.2.1.narrow (fun _ => OU_qz), (h.1 j hj).2.2.2.1.narrow (fun _ => OU_qz), (h.1 j hj).2.2.2.2.narrow (fun _ => OU_qz)⟩, ⟨h.2.1.1.narrow (fun _ => OU_qz), h.2.1.2.narrow (fun _ => OU_qz)⟩, ⟨h.2.2.1.1.narrow (fun _ => OU_qz), h.2.2.1.2.narrow (fun _ => OU_qz)⟩, ⟨h.2.2.2.1.1.narrow (fun _ => OU_qz), h.2.2.2.1.2.narrow (fun _ => OU_qz)⟩, h.2.2.2.2.1.narrow (fun _ => OU_qz), h.2.2.2.2.2.1.narrow (fun _ => OU_qz), h.2.2.2.2.2.2.1.narrow (fun _ => OU_qz), h.2.2.2.2.2.2.2.1.narrow (fun _ => OU_qz), h.2.2.2.2.2.2.2.2.narrow (fun _ => OU_qz)⟩
/-- the class's parts Sc, the model v, out w, in the heap H -/
def IV (D : va_G) (cA : Nat → ClassId) (s : State) (Sc : ST) (v w : GV) (H : Heap) (locs : List Loc) : Prop := BW (Gq D cA s.heap.size) Sc H ∧ grp (Gz D cA s.heap.size) (s.heap.size + 230) 11 v H ∧ grp (Gz D cA s.heap.size) (s.heap.size + 257) 25 w H ∧ va_S (OU (Gz D cA s.heap.size)) s.heap H locs ∧ gC v = 12 ∧ gC w = 26 ∧ gN w 0 = 1
def fullS (n : Nat) (Sc : ST) (v w : GV) : ST := st (st Sc (n + 257) w) (n + 230) v
section LROW
variable {D : va_G} {cA : Nat → ClassId} {p : Program} {l : Launch} {e : Env} {R : Room} {s : State} {m : MethodId} {args : Array Value} {below : List Frame} {meth : Method} {c : Code} {H : Heap} {locs : List Loc} {cells slots : Nat} {Q : State → Prop}
variable {pc : Nat} {ls : Array Slot} {rest st0 : List Value} {Sc Sc' : ST} {v w v' w' : GV} {cm : Cond}
theorem IV.size (h : IV D cA s Sc v w H locs) : s.heap.size + 258 ≤ H.size := by
  have : s.heap.size + 257 < H.size := h.2.2.1.1.lt
  omega
theorem IV.no (h : IV D cA s Sc v w H locs) {x : Nat} (h1 : s.heap.size + 230 ≤ x) (h2 : x < s.heap.size + 258) : gC (Sc x) = 0 := by
  by_cases c0 : gC (Sc x) = 0
  · exact c0
  · have := (h.1.1 x (gC (Sc x) - 1) (by omega)).1 0 (Or.inl rfl)
    rcases this.2 with q | q
    · have q : x + 0 < s.heap.size + 230 := q
      omega
    · have q : s.heap.size + 258 ≤ x + 0 := q
      omega
theorem full_q : fullS s.heap.size Sc v w (s.heap.size + 230) = v := st_same _ _ _
theorem full_o : fullS s.heap.size Sc v w (s.heap.size + 257) = w := by rw [fullS, st_ne _ _ (by omega), st_same]
theorem full_n {x : Nat} (h1 : x ≠ s.heap.size + 230) (h2 : x ≠ s.heap.size + 257) : fullS s.heap.size Sc v w x = Sc x := by rw [fullS, st_ne _ _ h1, st_ne _ _ h2]
/-- both in one state -/
theorem IV.full (h : IV D cA s Sc v w H locs) : WB (Gz D cA s.heap.size) (fullS s.heap.size Sc v w) s H locs := by
  obtain ⟨hB, hv, hw, hS, cv, cw, -⟩ := id h
  have ex : ∀ a d, gC (fullS s.heap.size Sc v w a) = d + 1 → (a = s.heap.size + 230 ∧ d = 11) ∨ (a = s.heap.size + 257 ∧ d = 25) ∨ (a ≠ s.heap.size + 230 ∧ a ≠ s.heap.size + 257 ∧ gC (Sc a) = d + 1) := by
    intro a d ha
    by_cases e1 : a = s.heap.size + 230
    · subst e1; rw [full_q] at ha; exact Or.inl ⟨rfl, by omega⟩
    · by_cases e2 : a = s.heap.size + 257
      · subst e2; rw [full_o] at ha; exact Or.inr (Or.inl ⟨rfl, by omega⟩)
      · rw [full_n e1 e2] at ha; exact Or.inr (Or.inr ⟨e1, e2, ha⟩)
  have w25 : ∀ y, ow 25 y → y = 0 := fun y hy => ow_big (by decide) hy
  refine ⟨⟨fun a d ha => ?_, fun a b d d' ha hb hab x y hx hy => ?_⟩, hS⟩
  · rcases ex a d ha with ⟨rfl, rfl⟩ | ⟨rfl, rfl⟩ | ⟨e1, e2, e3⟩
    · rw [full_q]; exact ⟨fun x _ => OU_z.mpr (by omega), hv⟩
    · rw [full_o]; exact ⟨fun x _ => OU_z.mpr (by omega), hw⟩
    · rw [full_n e1 e2]
      obtain ⟨g1, g2⟩ := hB.1 a d e3
      exact ⟨fun x hx => OU_qz (g1 x hx), g2⟩
  · have out : ∀ a d x, gC (Sc a) = d + 1 → ow d x → a + x < s.heap.size + 230 ∨ s.heap.size + 258 ≤ a + x := fun a d x ha hx => ((hB.1 a d ha).1 x hx).2
    rcases ex a d ha with ⟨rfl, rfl⟩ | ⟨rfl, rfl⟩ | ⟨e1, e2, e3⟩
    · have hx := ow11_lt hx
      rcases ex b d' hb with ⟨rfl, rfl⟩ | ⟨rfl, rfl⟩ | ⟨f1, f2, f3⟩
      · exact absurd rfl hab
      · rw [w25 y hy]; omega
      · have := out b d' y f3 hy; omega
    · rw [w25 x hx]
      rcases ex b d' hb with ⟨rfl, rfl⟩ | ⟨rfl, rfl⟩ | ⟨f1, f2, f3⟩
      · have hy := ow11_lt hy; omega
      · exact absurd rfl hab
      · have := out b d' y f3 hy; omega
    · have := out a d x e3 hx
      rcases ex b d' hb with ⟨rfl, rfl⟩ | ⟨rfl, rfl⟩ | ⟨f1, f2, f3⟩
      · have hy := ow11_lt hy; omega
      · rw [w25 y hy]; omega
      · exact hB.2 a b d d' e3 f3 hab x y hx hy
/-- .. and apart again -/
theorem IV.of (hW : WB (Gz D cA s.heap.size) (fullS s.heap.size Sc v w) s H locs) (cv : gC v = 12) (cw : gC w = 26) (nw : gN w 0 = 1) (h0 : ∀ x, s.heap.size + 230 ≤ x → x < s.heap.size + 258 → gC (Sc x) = 0) : IV D cA s Sc v w H locs := by
  obtain ⟨hB, hS⟩ := hW
  have ne : ∀ a d, gC (Sc a) = d + 1 → a ≠ s.heap.size + 230 ∧ a ≠ s.heap.size + 257 := by
    intro a d ha
    refine ⟨?_, ?_⟩
    · rintro rfl; have := h0 (s.heap.size + 230) (by omega) (by omega); omega
    · rintro rfl; have := h0 (s.heap.size + 257) (by omega) (by omega); omega
  have hq : gC (fullS s.heap.size Sc v w (s.heap.size + 230)) = 11 + 1 := by rw [full_q]; exact cv
  have ho : gC (fullS s.heap.size Sc v w (s.heap.size + 257)) = 25 + 1 := by rw [full_o]; exact cw
  refine ⟨⟨fun a d ha => ?_, fun a b d d' ha hb hab x y hx hy => ?_⟩, ?_, ?_, hS, cv, cw, nw⟩
  · obtain ⟨n1, n2⟩ := ne a d ha
    have ha' : gC (fullS s.heap.size Sc v w a) = d + 1 := by rw [full_n n1 n2]; exact ha
    obtain ⟨g1, g2⟩ := hB.1 a d ha'
    rw [full_n n1 n2] at g2
    refine ⟨fun x hx => OU_q.mpr ⟨OU_z.mp (g1 x hx), ?_⟩, g2⟩
    rcases Nat.lt_or_ge (a + x) (s.heap.size + 230) with q | q
    · exact Or.inl q
    · rcases Nat.lt_or_ge (a + x) (s.heap.size + 258) with q2 | q2
      · exfalso
        by_cases e : a + x = s.heap.size + 257
        · exact hB.2 a (s.heap.size + 257) d 25 ha' ho n2 x 0 hx (Or.inl rfl) e
        · exact hB.2 a (s.heap.size + 230) d 11 ha' hq n1 x (a + x - (s.heap.size + 230)) hx (ow11 (by omega)) (by omega)
      · exact Or.inr q2
  · obtain ⟨n1, n2⟩ := ne a d ha
    obtain ⟨n3, n4⟩ := ne b d' hb
    exact hB.2 a b d d' (by rw [full_n n1 n2]; exact ha) (by rw [full_n n3 n4]; exact hb) hab x y hx hy
  · have := (hB.1 _ 11 hq).2
    rwa [full_q] at this
  · have := (hB.1 _ 25 ho).2
    rwa [full_o] at this
/-- the words of a method of the class, at its call -/
theorem ZW_q {U : State} (hZ : ZW (Gz D cA s.heap.size) s) (hI : IV D cA s Sc v w H locs) (hU : U.heap = H) (hw : s.WarmedH U.vm) : ZW (Gq D cA s.heap.size) U := by
  have h := ZW_next hZ hI.2.2.2.1 hU hw
  refine ⟨⟨⟨h.1.1.1, by rw [hU]; exact hI.size⟩, h.1.2⟩, h.2.narrow⟩
/-- behind a call of the class -/
theorem L_post {z : Int32} {mc ms : Nat} {Qa : State → Outcome → State → Prop} (hI : IV D cA s Sc v w H locs) (hr : va_Run p l e R s m args below meth c H locs cells slots mc ms (F0 m pc ls rest) st0 Qa (OU (Gq D cA s.heap.size))) (hQ : ∀ (st : State) (oc : Outcome) (t : State), Qa st oc t → oc = .returned (some (.int z)) ∧ BW (Gq D cA s.heap.size) Sc' t.heap ∧ va_F (OU (Gq D cA s.heap.size)) st t)
    (kk : ∀ (H1 : Heap) (locs1 : List Loc), IV D cA s Sc' v w H1 locs1 → W p l e R s m args below meth c H1 locs1 (cells + mc) (slots + ms) Q (F0 m (pc + 3) ls (.int z :: st0))) : W p l e R s m args below meth c H locs cells slots Q (F0 m pc ls rest) := by
  intro T hT X
  obtain ⟨v9, st₀, t, T', L, h0, X', hL, e1, e2, hq, st⟩ := hr T hT X
  obtain ⟨hv, hB, hz, hk⟩ := hQ _ _ _ hq
  cases hv
  rw [h0] at hz hk
  obtain ⟨i1, i2, i3, i4, i5, i6, i7⟩ := id hI
  have hsz := hI.size
  have keep : ∀ x, s.heap.size + 230 ≤ x → x < s.heap.size + 258 → T'.heap[x]? = H[x]? := fun x h1 h2 => by
    rw [e1]
    exact hk x (by omega) (fun q => by rcases (OU_q.mp q).2 with q | q <;> omega)
  have hI' : IV D cA s Sc' v w T'.heap (locs ++ L) := by
    refine ⟨by rw [e1]; exact hB, ⟨i2.1.kept (keep _ (by omega) (by omega)), fun k hk1 hk2 => (i2.2 k hk1 hk2).kept (keep _ (by omega) ?_)⟩, ⟨i3.1.kept (keep _ (by omega) (by omega)), fun k hk1 hk2 => absurd (nf_lt hk1) (by decide)⟩, ⟨Nat.le_trans i4.1 (by rw [e1]; exact hz), fun x h1 h2 => ?_, fun x hx => ?_⟩, i5, i6, i7⟩
    · have := ow11_lt (Or.inr ⟨k, hk1, hk2, rfl⟩ : ow 11 (ds 11 k).2.1)
      omega
    · rw [e1, hk x (Nat.lt_of_lt_of_le h1 i4.1) (fun q => h2 (OU_qz q))]; exact i4.2.1 x h1 h2
    · rcases List.mem_append.mp hx with h | h
      · exact i4.2.2 x h
      · exact OU_qz (hL x h)
  obtain ⟨t2, a1, b1⟩ := kk T'.heap (locs ++ L) hI' T' rfl X'
  exact ⟨t2, st t2 a1, b1⟩
theorem L_recv (hM : MC (Gz D cA s.heap.size) p s m args c cL_law (cm :: wsL_law0) RL) (hI : IV D cA s Sc v w H locs) (hc : gC (Sc s.heap.size) = 11) {Pc : Array Value → State → Prop} {As : List Value} (hbl : FrameBlind Pc) (hP : ∀ U : State, U.heap = H → s.WarmedH U.vm → Pc (Value.ref s.heap.size :: As).toArray U) : PreV s H RX12 s.heap.size Pc As := by
  obtain ⟨h1, h2, h3, h4, h5, h6⟩ := hM
  have hg := (hI.1.1 s.heap.size 10 hc).2.1
  rw [hdE_o (by decide)] at hg
  exact ⟨hbl, va_recv (q0 := 0) (D := D) h5 (va_P1 hg) (show vwCl[10 % 12]? = _ from rfl) rfl, hP⟩
/-- a call of the class that makes nothing -/
theorem L_cls (As : List Value) (st0 : List Value) {z : Int32} {y : MethodName} {ws : List Cond} {rm : Room} {index maxL n : Nat} {bytes : ByteArray} {ret : Option FieldType} (hM : MC (Gz D cA s.heap.size) p s m args c cL_law (cm :: wsL_law0) RL) (hml : c.maxLocals = 7) (hls : ls.size = 7) (hI : IV D cA s Sc v w H locs) (hc : gC (Sc s.heap.size) = 11) (hC : Ct l y ws rm (Gq D cA s.heap.size) Sc (.ref s.heap.size :: As) (some (.int z)) Sc' 0 0) (cw : CallW R s args RL RX12 index y bytes maxL ret ws rm 0 0 n) (hn : As.length = n) (hstack : rest = As.reverse ++ .ref s.heap.size :: st0) (hr : (st0.map fun v => v.category).sum ≤ 8) (hf : cells ≤ R.cells ∧ slots ≤ R.slots) (hdg : decode cL_law pc = .ok (.invokevirtual index, 3))
    (kk : ∀ (H1 : Heap) (locs1 : List Loc), IV D cA s Sc' v w H1 locs1 → W p l e R s m args below meth c H1 locs1 cells slots Q (F0 m (pc + 3) ls (.int z :: st0))) : W p l e R s m args below meth c H locs cells slots Q (F0 m pc ls rest) := by
  have hpre : PreV s H RX12 s.heap.size (Pz (Gq D cA s.heap.size) Sc (.ref s.heap.size :: As)) As := L_recv hM hI hc (Pz_blind _ _ _) (fun U hU hw => ⟨rfl, by rw [hU]; exact hI.1, va_K.moved hw.alike hM.2.2.2.2.1, ZW_q hM.2.2.2.2.2 hI hU hw⟩)
  exact L_post (mc := 0) (ms := 0) (z := z) (Sc' := Sc') hI (va_runV (g := F0 m pc ls rest) (As := As) (rest := st0) ⟨hM.1, hM.2.1, hml, hM.2.2.1, hM.2.2.2.1⟩ hC cw hpre rfl hn hls hstack (lv_room hr) hdg hf) (fun st oc t h => ⟨h.1, h.2.1, h.2.2.2⟩) kk
/-- gallery -/
theorem L_gal (st0 : List Value) {z : Int32} {index : Nat} {fu : Nat} (hM : MC (Gz D cA s.heap.size) p s m args c cL_law (cm :: wsL_law0) RL) (hml : c.maxLocals = 7) (hls : ls.size = 7) (hI : IV D cA s Sc v w H locs) (hc : gC (Sc s.heap.size) = 11) (hfn : f_X12_gallery fu (Gq D cA s.heap.size) Sc s.heap.size H.size = some (z, Sc')) (cw : CallW R s args RL RX12 index yX12_gallery cX12_gallery 3 (some .int) w_X12_gallery RM_X12_gallery 9 3102 0) (hstack : rest = .ref s.heap.size :: st0) (hr : (st0.map fun v => v.category).sum ≤ 8) (hf : cells + 9 ≤ R.cells ∧ slots + 3102 ≤ R.slots) (hdg : decode cL_law pc = .ok (.invokevirtual index, 3))
    (kk : ∀ (H1 : Heap) (locs1 : List Loc), IV D cA s Sc' v w H1 locs1 → W p l e R s m args below meth c H1 locs1 (cells + 9) (slots + 3102) Q (F0 m (pc + 3) ls (.int z :: st0))) : W p l e R s m args below meth c H locs cells slots Q (F0 m pc ls rest) := by
  have hpre : PreV s H RX12 s.heap.size (Pn (Gq D cA s.heap.size) Sc H.size [.ref s.heap.size]) [] := L_recv hM hI hc (Pn_blind _ _ _ _) (fun U hU hw => ⟨rfl, by rw [hU]; exact hI.1, va_K.moved hw.alike hM.2.2.2.2.1, ZW_q hM.2.2.2.2.2 hI hU hw, by rw [hU]⟩)
  exact L_post (z := z) (Sc' := Sc') hI (va_runV (g := F0 m pc ls rest) (As := []) (rest := st0) ⟨hM.1, hM.2.1, hml, hM.2.2.1, hM.2.2.2.1⟩ (c_X12_gallery l (Gq D cA s.heap.size) fu Sc s.heap.size H.size hc hfn) cw hpre rfl rfl hls hstack (lv_room hr) hdg hf) (fun st oc t h => h) kk
/-- a call of the model -/
theorem L_mod (As : List Value) (st0 : List Value) {z : Int32} {y : MethodName} {ws : List Cond} {rm : Room} {index maxL n : Nat} {bytes : ByteArray} {ret : Option FieldType} (hM : MC (Gz D cA s.heap.size) p s m args c cL_law (cm :: wsL_law0) RL) (hml : c.maxLocals = 7) (hls : ls.size = 7) (hI : IV D cA s Sc v w H locs) (hC : Ct l y ws rm (Gz D cA s.heap.size) (fullS s.heap.size Sc v w) (.ref (s.heap.size + 230) :: As) (some (.int z)) (fullS s.heap.size Sc v' w) 0 0) (cv' : gC v' = 12) (cw : CallW R s args RL RX13 index y bytes maxL ret ws rm 0 0 n) (hn : As.length = n) (hstack : rest = As.reverse ++ .ref (s.heap.size + 230) :: st0) (hr : (st0.map fun v => v.category).sum ≤ 8) (hf : cells ≤ R.cells ∧ slots ≤ R.slots) (hdg : decode cL_law pc = .ok (.invokevirtual index, 3))
    (kk : ∀ (H1 : Heap) (locs1 : List Loc), IV D cA s Sc v' w H1 locs1 → W p l e R s m args below meth c H1 locs1 cells slots Q (F0 m (pc + 3) ls (.int z :: st0))) : W p l e R s m args below meth c H locs cells slots Q (F0 m pc ls rest) :=
  b_callVi (S1 := st Sc (s.heap.size + 257) w) (w := v) As st0 hM hml hls hI.full (show gC v = 11 + 1 from hI.2.2.2.2.1) rfl (by decide) hC cw hn hstack hr hf hdg (fun H1 locs1 hW _ => kk H1 locs1 (IV.of hW cv' hI.2.2.2.2.2.1 hI.2.2.2.2.2.2 (fun x h1 h2 => hI.no h1 h2)))
end LROW
