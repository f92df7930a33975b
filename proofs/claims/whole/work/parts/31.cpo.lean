section MCOPY
variable {G : GG} {p : Program} {l : Launch} {e : Env} {R : Room} {s : State} {m : MethodId} {args : Array Value} {below : List Frame} {meth : Method} {c : Code} {H : Heap} {locs : List Loc} {cells slots : Nat} {Q : State → Prop}
variable {cc : ByteArray} {pc : Nat} {ls : Array Slot} {rest : List Value} {Ts : List Cond} {own : String} {S : ST} {v : GV} {a : Nat}
theorem WB.bareL (hW : WB G S s H locs) {ci : Nat} (hc : gC (S a) = ci + 1) (hci : ¬ ci < 24) (w : GV) (hw : gC w = ci + 1) {H1 : Heap} (L : List Loc) (hL : ∀ q ∈ L, q.base = a) (hcell : va_at G.1 vwCl (a, hdE G a ci w) H1) (z : H1.size = H.size) (oq : ∀ q : Nat, q ≠ a → H1[q]? = H[q]?) : WB G (st S a w) s H1 (locs ++ L) := by
  have hW' := hW.at_ a
  have hz := (hW'.1.at hc).1 0 (Or.inl rfl)
  refine ⟨hW'.1.upd hc w hw (x := 0) (Or.inl rfl) oq ⟨hcell, fun k hk => absurd (nf_lt hk) hci⟩, ⟨by rw [z]; exact hW.2.1, fun q h1 h2 => ?_, fun q hq => ?_⟩⟩
  · rw [oq q (fun e => h2 (by rw [e]; exact hz))]
    exact hW.2.2.1 q h1 h2
  · rcases List.mem_append.mp hq with h | h
    · exact hW.2.2.2 q h
    · rw [hL q h]; exact hz
theorem m_copy {cm : Cond} {index nL : Nat} (hM : MC G p s m args c cc (cm :: wsL_law0) own) (hml : c.maxLocals = nL) (hls : ls.size = nL) (hW : WB G S s H locs) (hl : Cond.methodLink own index arraycopyName ∈ wsL_law0) {b : Nat} (cj kj : Nat) (hcb : gC (S b) = cj + 1) (hkb : kj < nf cj) (htb : (ds cj kj).1 = 2) (hab : (ds cj kj).2.2.1 = 1) (hc : gC (S a) = 24 + 1) {o0 : Nat} (ho0 : (ds cj kj).2.1 = o0)
    {sp dp n : Int32} (h1 : ¬ sp < 0) (h2 : ¬ dp < 0) (h3 : ¬ n < 0) (h4 : sp.toNatClampNeg + n.toNatClampNeg ≤ alen cj kj (S b)) (h5 : dp.toNatClampNeg + n.toNatClampNeg ≤ gN (S a) 0) (hframes : 1 ≤ R.frames) (hlocals : (rest.map fun v => v.category).sum + (nativeFrameWords "java/lang/System" "arraycopy" 5 + 11) ≤ R.locals) (hdg : decode cc pc = .ok (.invokestatic index, 3))
    (kk : ∀ (S1 : ST), S1 = st S a (sAf (S a) 0 (va_cpy (gA (S b) kj) (gA (S a) 0) sp.toNatClampNeg dp.toNatClampNeg n.toNatClampNeg)) → ∀ (H1 : Heap) (locs1 : List Loc), H1.size = H.size → WB G S1 s H1 locs1 → W p l e R s m args below meth c H1 locs1 cells slots Q (F0 m (pc + 3) ls rest)) : W p l e R s m args below meth c H locs cells slots Q (F0 m pc ls (.int n :: .int dp :: .ref a :: .int sp :: .ref (b + o0) :: rest)) := by
  subst ho0
  have nn : ∀ z : Int32, ¬ z < 0 → z.toInt = (z.toNatClampNeg : Int) := by
    intro z hz
    have hz0 : (0 : Int) ≤ z.toInt := by
      have := Int32.not_lt.mp hz
      simpa using Int32.le_iff_toInt_le.mp this
    show z.toInt = ((z.toInt.toNat : Nat) : Int)
    omega
  obtain ⟨hexec, hb, hown, hts, hK, h6⟩ := id hM
  have hg1 := ((hW.at_ a).1.at hc).2.1
  have hg0 := ((hW.at_ b).1.at hcb).2.2 kj hkb htb
  have hd : ∀ w : GV, hdE G a 24 w = .inl (G.2.1 1, gN w 0, .inl (gA w 0)) := fun w => rfl
  rw [hd] at hg1
  rw [hab, show acont cj kj (S b) = .inl (gA (S b) kj) by simp [acont, hab]] at hg0
  generalize hn0 : alen cj kj (S b) = n0 at *
  generalize hn1 : gN (S a) 0 = n1 at *
  generalize hf : gA (S b) kj = f at *
  generalize hgg : gA (S a) 0 = g at *
  intro T hT X
  have hc0 : H[b + (ds cj kj).2.1]? = some (vp_cell (G.2.1 1) (n0, .inl f)) := hg0
  have hc1 : H[a]? = some (vp_cell (G.2.1 1) (n1, .inl g)) := hg1
  obtain ⟨-, k0, hk0, cm0, hkk0⟩ := (hK.2 0 _ rfl).1 n0 (fun j => .int (f j))
  obtain ⟨-, k1, hk1, cm1, hkk1⟩ := (hK.2 0 _ rfl).1 n1 (fun j => .int (g j))
  obtain ⟨vm', X', step⟩ := X.arraycopy hexec hown (hts _ (wgm hl)) (hts _ (wgm wd_acn)) (hts _ (wgm wd_acs)) (hts _ (wgm wd_aci)) (src := b + (ds cj kj).2.1) (dst := a) (cs := vp_cell (G.2.1 1) (n0, .inl f)) (cd := vp_cell (G.2.1 1) (n1, .inl g)) (srcPos := sp) (destPos := dp) (n := n) (by rw [hT]; exact hc0) (by rw [hT]; exact hc1)
    (fun _ h => by cases h) (fun _ h => by cases h) (fun h => by cases h) (fun h => by cases h) hk0 hk1 hkk0 hkk1 (by simp [refKind]) h1 h2 h3
    (by rw [nn sp h1, nn n h3]; show ¬ _ > ((arrV (G.2.1 1) n0 (fun j => .int (f j))).slots.size : Int); rw [arrV_size]; omega)
    (by rw [nn dp h2, nn n h3]; show ¬ _ > ((arrV (G.2.1 1) n1 (fun j => .int (g j))).slots.size : Int); rw [arrV_size]; omega)
    (fun vm₁ _ i hi => by
      have e : (vp_cell (G.2.1 1) (n0, .inl f)).slots.getD (sp.toNatClampNeg + i) .null = .int (f (sp.toNatClampNeg + i)) := by
        show (arrV (G.2.1 1) n0 (fun j => .int (f j))).slots.getD _ _ = _
        rw [Array.getD_eq_getD_getElem?, arrV_read _ _ (by omega)]
        rfl
      refine ⟨?_, ?_⟩
      · rw [e]; rfl
      · rw [e]; exact trivial)
    (g := F0 m pc ls (.int n :: .int dp :: .ref (a) :: .int sp :: .ref (b + (ds cj kj).2.1) :: rest)) rfl (by rw [hml]; exact hls) (rest := rest) rfl (by rw [hb]; exact hdg) hframes (by show 2 * 0 + _ + _ ≤ _; omega)
  have e1 : copied (vp_cell (G.2.1 1) (n0, .inl f)) (vp_cell (G.2.1 1) (n1, .inl g)) sp dp n = vp_cell (G.2.1 1) (n1, .inl (va_cpy f g sp.toNatClampNeg dp.toNatClampNeg n.toNatClampNeg)) := va_copied (fun z => .int z) (G.2.1 1) (G.2.1 1) f g h4
  rw [e1] at X' step
  have hl : a < H.size := (Array.getElem?_eq_some_iff.mp hc1).1
  have hheap : ((T.setVm vm').setCell (a) (vp_cell (G.2.1 1) (n1, .inl (va_cpy f g sp.toNatClampNeg dp.toNatClampNeg n.toNatClampNeg)))).heap = H.setIfInBounds (a) (vp_cell (G.2.1 1) (n1, .inl (va_cpy f g sp.toNatClampNeg dp.toNatClampNeg n.toNatClampNeg))) := by rw [← hT]; rfl
  have oq : ∀ q : Nat, q ≠ a → (H.setIfInBounds (a) (vp_cell (G.2.1 1) (n1, .inl (va_cpy f g sp.toNatClampNeg dp.toNatClampNeg n.toNatClampNeg))))[q]? = H[q]? := fun q hq => by simp [Array.getElem?_setIfInBounds, Ne.symm hq]
  have hcw : gC (sAf (S a) 0 (va_cpy f g sp.toNatClampNeg dp.toNatClampNeg n.toNatClampNeg)) = 24 + 1 := hc
  obtain ⟨t, a1, b1⟩ := kk _ rfl _ _ (by simp) (hW.bareL hc (by decide) (sAf (S a) 0 (va_cpy f g sp.toNatClampNeg dp.toNatClampNeg n.toNatClampNeg)) hcw _ (fun q hq => by
      obtain ⟨z, -, hz⟩ := List.mem_map.mp hq
      rw [← hz]) (by
      rw [hd, show gN (sAf (S a) 0 (va_cpy f g sp.toNatClampNeg dp.toNatClampNeg n.toNatClampNeg)) 0 = gN (S a) 0 from rfl, hn1]
      have e3 : gA (sAf (S a) 0 (va_cpy f g sp.toNatClampNeg dp.toNatClampNeg n.toNatClampNeg)) 0 = va_cpy f g sp.toNatClampNeg dp.toNatClampNeg n.toNatClampNeg := by funext t; simp [gA, sAf, va_up]
      rw [e3]
      show (H.setIfInBounds _ _)[_]? = some _
      simp [Array.getElem?_setIfInBounds, hl]) (by simp) oq) _ hheap X'
  exact ⟨t, step t a1, b1⟩
theorem n_callS {S2 : ST} {o : Option Value} {cm cy : Cond} {n n' : Nat} (As : List Value) (st0 : List Value) {y : MethodName} {rm : Room} {index maxL nL np mc ms : Nat} {bytes : ByteArray} {ret : Option FieldType} (hM : MC G p s m args c cc (cm :: wsL_law0) own) (hml : c.maxLocals = nL) (hls : ls.size = nL) (hW : WB G S s H locs) (hz : H.size = n) (hC : Cn l y (cy :: wsL_law0) rm G S n As o S2 n' mc ms) (cw : CallB R s args own index y bytes maxL ret (cy :: wsL_law0) rm mc ms np ∧ (Cond.static y).before args s = true) (hn : As.length = np) (hstack : rest = As.reverse ++ st0) (hr : (st0.map fun v => v.category).sum ≤ 8) (hf : cells + mc ≤ R.cells ∧ slots + ms ≤ R.slots) (hdg : decode cc pc = .ok (.invokestatic index, 3))
    (kk : ∀ (H1 : Heap) (locs1 : List Loc), H1.size = n' → WB G S2 s H1 locs1 → W p l e R s m args below meth c H1 locs1 (cells + mc) (slots + ms) Q (F0 m (pc + 3) ls (o.toList ++ st0))) : W p l e R s m args below meth c H locs cells slots Q (F0 m pc ls rest) := by
  have hpre : PreS s H (Pn G S n As) As := by
    refine ⟨Pn_blind _ _ _ _, fun U hU hw => ?_⟩
    obtain ⟨q0, q1, q2, q3⟩ := (b_preS (As := As) hM hW).2 U hU hw
    exact ⟨q0, q1, q2, q3, by rw [hU]; exact hz⟩
  exact n_call hW (va_runS (g := F0 m pc ls rest) (As := As) (rest := st0) ⟨hM.1, hM.2.1, hml, hM.2.2.1, hM.2.2.2.1⟩ hC cw hpre rfl hn hls hstack (lv_room hr) hdg hf) kk
theorem n_callV {S2 : ST} {o : Option Value} {cm cy : Cond} {b ci n n' : Nat} {C : String} {T : u_T} {N : Nat} (As : List Value) (st0 : List Value) {y : MethodName} {rm : Room} {index maxL nL np mc ms : Nat} {bytes : ByteArray} {ret : Option FieldType} (hM : MC G p s m args c cc (cm :: wsL_law0) own) (hml : c.maxLocals = nL) (hls : ls.size = nL) (hW : WB G S s H locs) (hz : H.size = n) (hc : gC (S b) = ci + 1) (hcl : vwCl[ci % 12]? = some (C, T, N)) (h24 : ci < 24) (hC : Cn l y (cy :: wsL_law0) rm G S n (.ref b :: As) o S2 n' mc ms) (cw : CallW R s args own C index y bytes maxL ret (cy :: wsL_law0) rm mc ms np) (hn : As.length = np) (hstack : rest = As.reverse ++ .ref b :: st0) (hr : (st0.map fun v => v.category).sum ≤ 8) (hf : cells + mc ≤ R.cells ∧ slots + ms ≤ R.slots) (hdg : decode cc pc = .ok (.invokevirtual index, 3))
    (kk : ∀ (H1 : Heap) (locs1 : List Loc), H1.size = n' → WB G S2 s H1 locs1 → W p l e R s m args below meth c H1 locs1 (cells + mc) (slots + ms) Q (F0 m (pc + 3) ls (o.toList ++ st0))) : W p l e R s m args below meth c H locs cells slots Q (F0 m pc ls rest) := by
  have hpre : PreV s H C b (Pn G S n (.ref b :: As)) As := by
    obtain ⟨g1, g2, g3⟩ := b_preV (As := As) hM (hW.at_ b) hc h24 hcl
    refine ⟨Pn_blind _ _ _ _, g2, fun U hU hw => ?_⟩
    obtain ⟨q0, q1, q2, q3⟩ := (b_preS (As := .ref b :: As) hM hW).2 U hU hw
    exact ⟨q0, q1, q2, q3, by rw [hU]; exact hz⟩
  exact n_call hW (va_runV (g := F0 m pc ls rest) (As := As) (rest := st0) ⟨hM.1, hM.2.1, hml, hM.2.2.1, hM.2.2.2.1⟩ hC cw hpre rfl hn hls hstack (lv_room hr) hdg hf) kk
end MCOPY
abbrev RM_cpo : Room := { frames := 1, cells := 1, slots := 1000, locals := 60 }
abbrev w_cpo : List Cond := Cond.code yJ7_copyOf_59c91 cJ7_copyOf_59c91 3 (some (.array .int)) :: wsL_law0
/-- the first N of a reader's steps, as an array by itself -/
def cpo (S : ST) (b h : Nat) (x : Int32) : ST := st S h (sAf (barr 1 x.toNatClampNeg) 0 (va_cpy (gA (S b) 1) (gA (barr 1 x.toNatClampNeg) 0) 0 0 x.toNatClampNeg))
set_option maxHeartbeats 4000000 in
theorem c_cpo (l : Launch) (G : GG) (S : ST) (b n : Nat) (x : Int32) (hb4 : gC (S b) = 4 + 1) (hx0 : ¬ x < 0) (hx1 : x < 1000) (hbn : b ≠ n) : Cn l yJ7_copyOf_59c91 w_cpo RM_cpo G S n [.ref (b + 1), .int x] (some (.ref n)) (cpo S b n x) (n + 1) 1 1000 := by
  have hxn : x.toNatClampNeg < 1000 := by
    have h1 := Int32.lt_iff_toInt_lt.mp hx1
    have h2 : x.toInt < 1000 := h1
    show x.toInt.toNat < 1000
    omega
  refine Met.ofW (cc := cJ7_copyOf_59c91) (maxL := 3) (ret := (some (.array .int))) (by decide) rfl ?_
  intro p e s m args below meth c s₁ B hml hv
  obtain ⟨rfl, hB, hK, hzw, hz⟩ := hv
  have hM : MC G p s m _ c cJ7_copyOf_59c91 w_cpo RJ7 := ⟨B.exec, B.bytes, findClass_of_methodNamed B.named, atoms_spec (ws := w_cpo) B.pre, hK, hzw⟩
  have hW : WB G S s s.heap [] := ⟨hB, va_S.rf⟩
  have hl := lv_entry ([.ref (b + 1), .int x]) (n := 3) (Nat.le_of_ble_eq_true rfl)
  rw [lg_entry_eq]
  generalize (lg_sl ([.ref (b + 1), .int x]) ++ List.replicate (3 - (lg_sl ([.ref (b + 1), .int x])).length) Slot.unset).toArray = ls at hl ⊢
  have hl : lv_has ls 3 [(0, .ref (b + 1)), (1, .int x)] := hl
  have hx := hM.1
  have hb := hM.2.1
  refine lv_iload_n hx hb dJ7_copyOf_59c91_0 rfl (lv_at hl 1 rfl) ?_
  refine lv_aload_n hx hb dJ7_copyOf_59c91_1 rfl (lv_at hl 0 rfl) ?_
  refine b_alen (n := 1000) hM (hW.at_ b) 4 1 0 hb4 (by decide) rfl rfl (by decide) rfl rfl (x := (1000 : Int32)) (by decide) dJ7_copyOf_59c91_2 ?_
  refine lv_icmp_ne (tgt := 14) hx hb dJ7_copyOf_59c91_3 (by decide) (fun _ => ?_) (fun c9 => absurd hx1 (by rw [c9]; decide))
  refine lv_iload_n hx hb dJ7_copyOf_59c91_14 rfl (lv_at hl 1 rfl) ?_
  refine m_newa hM hW hz 1 (by decide) rfl (wgm wd_ai) x.toNatClampNeg hx0 rfl (by show x.toNatClampNeg * 4 ≤ 536870912; omega) (Nat.le_of_ble_eq_true rfl) (by show 0 + x.toNatClampNeg ≤ 1000; omega) dJ7_copyOf_59c91_15 (fun S1 eS hk hg9 H hz hW => ?_)
  refine W.widen (k := 1) (n := 1000) (by omega) (by omega) ?_
  refine lv_astore_n (lv' := [(2, .ref n), (0, .ref (b + 1)), (1, .int x)]) hx hb dJ7_copyOf_59c91_17 rfl hl (by decide) rfl (fun ls hl => ?_)
  refine lv_aload_n hx hb dJ7_copyOf_59c91_18 rfl (lv_at hl 1 rfl) ?_
  refine lv_iconst (v := (0 : Int32)) hx hb dJ7_copyOf_59c91_19 (by decide) ?_
  refine lv_aload_n hx hb dJ7_copyOf_59c91_20 rfl (lv_at hl 0 rfl) ?_
  refine lv_iconst (v := (0 : Int32)) hx hb dJ7_copyOf_59c91_21 (by decide) ?_
  refine lv_aload_n hx hb dJ7_copyOf_59c91_22 rfl (lv_at hl 1 rfl) ?_
  have hb4' : gC (S1 b) = 4 + 1 := keep1 hk hb4
  refine b_alen (n := 1000) hM (hW.at_ b) 4 1 0 hb4' (by decide) rfl rfl (by decide) rfl rfl (x := (1000 : Int32)) (by decide) dJ7_copyOf_59c91_23 ?_
  refine lv_iload_n hx hb dJ7_copyOf_59c91_24 rfl (lv_at hl 2 rfl) ?_
  refine k_min hM hml hl.1 mk_RJ7_304 (Nat.le_of_ble_eq_true rfl) (Nat.le_of_ble_eq_true rfl) (Nat.le_of_ble_eq_true rfl) (Nat.le_of_ble_eq_true rfl) dJ7_copyOf_59c91_25 ?_
  rw [if_pos hx1]
  have e1 : S1 n = barr 1 x.toNatClampNeg := by rw [eS, st_same]
  have e2 : S1 b = S b := by rw [eS, st_ne _ _ hbn]
  refine m_copy hM hml hl.1 hW mk_RJ7_150 4 1 hb4' (by decide) rfl rfl hg9 rfl (by decide) (by decide) hx0 (by show 0 + x.toNatClampNeg ≤ 1000; omega) (by rw [e1]; show 0 + x.toNatClampNeg ≤ x.toNatClampNeg; omega) (Nat.le_of_ble_eq_true rfl) (by decide) dJ7_copyOf_59c91_28 (fun S2 eS2 H locs hz9 hW => ?_)
  refine lv_aload_n hx hb dJ7_copyOf_59c91_31 rfl (lv_at hl 0 rfl) ?_
  have e3 : S2 = cpo S b n x := by
    rw [eS2, e1, e2, eS]
    funext q
    by_cases hq : q = n
    · subst hq; simp [cpo, st, va_up]
    · simp [cpo, st, va_up, hq]
  rw [e3] at hW
  exact W.aret hx hb B.returns (Or.inr ⟨_, rfl⟩) (Or.inr ⟨_, rfl⟩) (n_ret hW (hz9.trans hz) _) hW.2.2.2 dJ7_copyOf_59c91_32 B.notSynchronized
