section SCOPY
variable {G : GG} {p : Program} {l : Launch} {e : Env} {R : Room} {s : State} {m : MethodId} {args : Array Value} {below : List Frame} {meth : Method} {c : Code} {H : Heap} {locs : List Loc} {cells slots : Nat} {Q : State → Prop}
variable {cc : ByteArray} {pc : Nat} {ls : Array Slot} {rest : List Value} {Ts : List Cond} {own : String} {S : ST} {v : GV} {a : Nat}
theorem WB.arrL (hW : WB G (st S a v) s H locs) {ci k : Nat} (hc : gC v = ci + 1) (hk : k < nf ci) (ht : (ds ci k).1 = 2) (w : GV) (hw : gC w = ci + 1) (hwf : ∀ j, fvl G ci a w j = fvl G ci a v j) (hwa : ∀ j, j ≠ k → alen ci j w = alen ci j v ∧ acont ci j w = acont ci j v) {H1 : Heap} (L : List Loc) (hL : ∀ q ∈ L, q.base = a + (ds ci k).2.1) (hcell : va_at G.1 vwCl (a + (ds ci k).2.1, .inl (G.2.1 (ds ci k).2.2.1, alen ci k w, acont ci k w)) H1) (z : H1.size = H.size) (oq : ∀ q : Nat, q ≠ a + (ds ci k).2.1 → H1[q]? = H[q]?) : WB G (st S a w) s H1 (locs ++ L) := by
  obtain ⟨hz, hg, hga⟩ := hW.1.at hc
  refine ⟨hW.1.upd hc w hw (x := (ds ci k).2.1) (Or.inr ⟨k, hk, ht, rfl⟩) oq ⟨?_, fun i hi hi2 => ?_⟩, ⟨by rw [z]; exact hW.2.1, fun q h1 h2 => ?_, fun q hq => ?_⟩⟩
  · have e : flds G ci a w = flds G ci a v := by simp only [flds]; congr 1; funext j; exact hwf j
    rw [hdE_o (nf_lt hk)] at hg ⊢
    rw [e]
    exact hg.kept (oq a (by have := (tab_off hk ht).1; omega))
  · by_cases e : i = k
    · subst e; exact hcell
    · have := hga i hi hi2
      rw [← (hwa i e).1, ← (hwa i e).2] at this
      exact this.kept (oq _ (fun q => e ((tab_off hk ht).2 i hi hi2 (by have q : a + (ds ci i).2.1 = a + (ds ci k).2.1 := q; omega))))
  · rw [oq q (fun e => h2 (by rw [e]; exact hz _ (Or.inr ⟨k, hk, ht, rfl⟩)))]
    exact hW.2.2.1 q h1 h2
  · rcases List.mem_append.mp hq with h | h
    · exact hW.2.2.2 q h
    · rw [hL q h]; exact hz _ (Or.inr ⟨k, hk, ht, rfl⟩)
theorem s_copy {cm : Cond} {index nL : Nat} (hM : MC G p s m args c cc (cm :: wsL_law0) own) (hml : c.maxLocals = nL) (hls : ls.size = nL) (hW : WB G S s H locs) (hl : Cond.methodLink own index arraycopyName ∈ wsL_law0) {b : Nat} (cj kj ci k : Nat) (hcb : gC (S b) = cj + 1) (hkb : kj < nf cj) (htb : (ds cj kj).1 = 2) (hab : (ds cj kj).2.2.1 = 1) (hc : gC (S a) = ci + 1) (hk : k < nf ci) (ht : (ds ci k).1 = 2) (ha : (ds ci k).2.2.1 = 1) {o o0 : Nat} (ho : (ds ci k).2.1 = o) (ho0 : (ds cj kj).2.1 = o0)
    {sp dp n : Int32} (h1 : ¬ sp < 0) (h2 : ¬ dp < 0) (h3 : ¬ n < 0) (h4 : sp.toNatClampNeg + n.toNatClampNeg ≤ alen cj kj (S b)) (h5 : dp.toNatClampNeg + n.toNatClampNeg ≤ alen ci k (S a)) (hframes : 1 ≤ R.frames) (hlocals : (rest.map fun v => v.category).sum + (nativeFrameWords "java/lang/System" "arraycopy" 5 + 11) ≤ R.locals) (hdg : decode cc pc = .ok (.invokestatic index, 3))
    (kk : ∀ (S1 : ST), S1 = st S a (sAf (S a) k (va_cpy (gA (S b) kj) (gA (S a) k) sp.toNatClampNeg dp.toNatClampNeg n.toNatClampNeg)) → (∀ b, gC (S b) ≠ 0 → gC (S1 b) = gC (S b)) → ∀ (H1 : Heap) (locs1 : List Loc), WB G S1 s H1 locs1 → W p l e R s m args below meth c H1 locs1 cells slots Q (F0 m (pc + 3) ls rest)) : W p l e R s m args below meth c H locs cells slots Q (F0 m pc ls (.int n :: .int dp :: .ref (a + o) :: .int sp :: .ref (b + o0) :: rest)) := by
  subst ho ho0
  have nn : ∀ z : Int32, ¬ z < 0 → z.toInt = (z.toNatClampNeg : Int) := by
    intro z hz
    have hz0 : (0 : Int) ≤ z.toInt := by
      have := Int32.not_lt.mp hz
      simpa using Int32.le_iff_toInt_le.mp this
    show z.toInt = ((z.toInt.toNat : Nat) : Int)
    omega
  obtain ⟨hexec, hb, hown, hts, hK, h6⟩ := id hM
  have hg1 := ((hW.at_ a).1.at hc).2.2 k hk ht
  have hg0 := ((hW.at_ b).1.at hcb).2.2 kj hkb htb
  have hco : ∀ w : GV, acont ci k w = .inl (gA w k) := fun w => by simp [acont, ha]
  rw [ha, hco] at hg1
  rw [hab, show acont cj kj (S b) = .inl (gA (S b) kj) by simp [acont, hab]] at hg0
  generalize hn0 : alen cj kj (S b) = n0 at *
  generalize hn1 : alen ci k (S a) = n1 at *
  generalize hf : gA (S b) kj = f at *
  generalize hgg : gA (S a) k = g at *
  intro T hT X
  have hc0 : H[b + (ds cj kj).2.1]? = some (vp_cell (G.2.1 1) (n0, .inl f)) := hg0
  have hc1 : H[a + (ds ci k).2.1]? = some (vp_cell (G.2.1 1) (n1, .inl g)) := hg1
  obtain ⟨-, k0, hk0, cm0, hkk0⟩ := (hK.2 0 _ rfl).1 n0 (fun j => .int (f j))
  obtain ⟨-, k1, hk1, cm1, hkk1⟩ := (hK.2 0 _ rfl).1 n1 (fun j => .int (g j))
  obtain ⟨vm', X', step⟩ := X.arraycopy hexec hown (hts _ (wgm hl)) (hts _ (wgm wd_acn)) (hts _ (wgm wd_acs)) (hts _ (wgm wd_aci)) (src := b + (ds cj kj).2.1) (dst := a + (ds ci k).2.1) (cs := vp_cell (G.2.1 1) (n0, .inl f)) (cd := vp_cell (G.2.1 1) (n1, .inl g)) (srcPos := sp) (destPos := dp) (n := n) (by rw [hT]; exact hc0) (by rw [hT]; exact hc1)
    (fun _ h => by cases h) (fun _ h => by cases h) (fun h => by cases h) (fun h => by cases h) hk0 hk1 hkk0 hkk1 (by simp [refKind]) h1 h2 h3
    (by rw [nn sp h1, nn n h3]; show ¬ _ > ((arrV (G.2.1 1) n0 (fun j => .int (f j))).slots.size : Int); rw [arrV_size]; omega)
    (by rw [nn dp h2, nn n h3]; show ¬ _ > ((arrV (G.2.1 1) n1 (fun j => .int (g j))).slots.size : Int); rw [arrV_size]; omega)
    (fun vm₁ _ i hi => by
      have e : (vp_cell (G.2.1 1) (n0, .inl f)).slots.getD (sp.toNatClampNeg + i) .null = .int (f (sp.toNatClampNeg + i)) := by
        show (arrV (G.2.1 1) n0 (fun j => .int (f j))).slots.getD _ _ = _
        rw [Array.getD_eq_getD_getElem?, arrV_read _ _ (by omega)]
        rfl
      refine ⟨?_, ?_⟩
      · rw [e]; rfl
      · rw [e]; exact trivial)
    (g := F0 m pc ls (.int n :: .int dp :: .ref (a + (ds ci k).2.1) :: .int sp :: .ref (b + (ds cj kj).2.1) :: rest)) rfl (by rw [hml]; exact hls) (rest := rest) rfl (by rw [hb]; exact hdg) hframes (by show 2 * 0 + _ + _ ≤ _; omega)
  have e1 : copied (vp_cell (G.2.1 1) (n0, .inl f)) (vp_cell (G.2.1 1) (n1, .inl g)) sp dp n = vp_cell (G.2.1 1) (n1, .inl (va_cpy f g sp.toNatClampNeg dp.toNatClampNeg n.toNatClampNeg)) := va_copied (fun z => .int z) (G.2.1 1) (G.2.1 1) f g h4
  rw [e1] at X' step
  have hl : a + (ds ci k).2.1 < H.size := (Array.getElem?_eq_some_iff.mp hc1).1
  have hheap : ((T.setVm vm').setCell (a + (ds ci k).2.1) (vp_cell (G.2.1 1) (n1, .inl (va_cpy f g sp.toNatClampNeg dp.toNatClampNeg n.toNatClampNeg)))).heap = H.setIfInBounds (a + (ds ci k).2.1) (vp_cell (G.2.1 1) (n1, .inl (va_cpy f g sp.toNatClampNeg dp.toNatClampNeg n.toNatClampNeg))) := by rw [← hT]; rfl
  have oq : ∀ q : Nat, q ≠ a + (ds ci k).2.1 → (H.setIfInBounds (a + (ds ci k).2.1) (vp_cell (G.2.1 1) (n1, .inl (va_cpy f g sp.toNatClampNeg dp.toNatClampNeg n.toNatClampNeg))))[q]? = H[q]? := fun q hq => by simp [Array.getElem?_setIfInBounds, Ne.symm hq]
  have hcw : gC (sAf (S a) k (va_cpy f g sp.toNatClampNeg dp.toNatClampNeg n.toNatClampNeg)) = ci + 1 := hc
  obtain ⟨t, a1, b1⟩ := kk _ rfl (keep_st hc hcw) _ _ ((hW.at_ a).arrL hc hk ht (sAf (S a) k (va_cpy f g sp.toNatClampNeg dp.toNatClampNeg n.toNatClampNeg)) hcw (fun _ => rfl) (fun j hj => ⟨rfl, by
      have : gA (sAf (S a) k (va_cpy f g sp.toNatClampNeg dp.toNatClampNeg n.toNatClampNeg)) j = gA (S a) j := by funext t; simp [gA, sAf, va_up, hj]
      simp only [acont, this]; rfl⟩) _ (fun q hq => by
      obtain ⟨z, -, hz⟩ := List.mem_map.mp hq
      rw [← hz]) (by
      rw [ha, hco, show alen ci k (sAf (S a) k (va_cpy f g sp.toNatClampNeg dp.toNatClampNeg n.toNatClampNeg)) = alen ci k (S a) from rfl, hn1]
      have e3 : gA (sAf (S a) k (va_cpy f g sp.toNatClampNeg dp.toNatClampNeg n.toNatClampNeg)) k = va_cpy f g sp.toNatClampNeg dp.toNatClampNeg n.toNatClampNeg := by funext t; simp [gA, sAf, va_up]
      rw [e3]
      show (H.setIfInBounds _ _)[_]? = some _
      simp [Array.getElem?_setIfInBounds, hl]) (by simp) oq) _ hheap X'
  exact ⟨t, step t a1, b1⟩
end SCOPY
/-! Arrays.fill of a row of a group -/
def flA (f : Nat → Int32) (n : Nat) (x : Int32) : Nat → Int32 := fun j => if j < n then x else f j
theorem flA_next (v : GV) (k i : Nat) (x : Int32) : sA (sAf v k (flA (gA v k) i x)) k i x = sAf v k (flA (gA v k) (i + 1) x) := by
  have h1 : gA (sAf v k (flA (gA v k) i x)) k = flA (gA v k) i x := by funext t; simp [gA, sAf, va_up]
  have h2 : upd (flA (gA v k) i x) i x = flA (gA v k) (i + 1) x := by
    funext j
    simp only [upd, flA]
    by_cases e : j = i
    · subst e; simp
    · by_cases h : j < i
      · simp [e, h, show j < i + 1 by omega]
      · simp [e, h, show ¬ j < i + 1 by omega]
  unfold sA
  rw [h1, h2]
  simp only [sAf]
  congr 2
  congr 1
  funext j
  by_cases e : j = k <;> simp [va_up, e]
theorem flA_0 (v : GV) (k : Nat) (x : Int32) : sAf v k (flA (gA v k) 0 x) = v := by
  have h : flA (gA v k) 0 x = gA v k := by funext j; simp [flA]
  rw [h]
  simp only [sAf]
  have h2 : va_up v.2.2.1 k (gA v k) = v.2.2.1 := by
    funext j
    by_cases e : j = k
    · subst e; simp [va_up]; rfl
    · simp [va_up, e]
  rw [h2]
abbrev w_fill : List Cond := Cond.code yJ7_fill_53178 cJ7_fill_53178 4 none :: wsL_law0
set_option maxHeartbeats 4000000 in
theorem t_fill {G : GG} {p : Program} {l : Launch} {e : Env} {s : State} {m : MethodId} {args : Array Value} {below : List Frame} {meth : Method} {c : Code} {S : ST} {a ci k : Nat} {v : GV} {x : Int32} (hM : MC G p s m args c cJ7_fill_53178 w_fill RJ7) (hr : meth.sig.returnType = none) (hlk : meth.locks = false) (hc : gC v = ci + 1) (hk : k < nf ci) (ht : (ds ci k).1 = 2) (ha : (ds ci k).2.2.1 = 1) (hn : alen ci k v < 2 ^ 31) : ∀ (d i : Nat), i + d = alen ci k v → ∀ (H : Heap) (locs : List Loc), WB G (st S a (sAf v k (flA (gA v k) i x))) s H locs → ∀ (ls : Array Slot), lv_has ls 4 [(0, .ref (a + (ds ci k).2.1)), (1, .int x), (2, .int (nI i)), (3, .int (nI (alen ci k v)))] → W p l e RM_0 s m args below meth c H locs 0 0 (QR G below args s none (st S a v) (st S a (sAf v k (flA (gA v k) (alen ci k v) x)))) (F0 m 5 ls []) := by
  have hx := hM.1
  have hb := hM.2.1
  intro d
  induction d with
  | zero =>
    intro i hi H locs hW ls hl
    have hi : i = alen ci k v := by omega
    subst hi
    refine lv_iload_n hx hb dJ7_fill_53178_5 rfl (lv_at hl 2 rfl) ?_
    refine lv_iload_n hx hb dJ7_fill_53178_6 rfl (lv_at hl 3 rfl) ?_
    refine lv_icmp_ge (tgt := 20) hx hb dJ7_fill_53178_7 (by decide) (fun c1 => ?_) (fun c1 => absurd (nI_le (Nat.le_refl _) hn) c1)
    exact W.vret hx hb hr (b_ret0 hW (keep_s2 hc hc) _) hW.2.2.2 dJ7_fill_53178_20 hlk
  | succ d ih =>
    intro i hi H locs hW ls hl
    refine lv_iload_n hx hb dJ7_fill_53178_5 rfl (lv_at hl 2 rfl) ?_
    refine lv_iload_n hx hb dJ7_fill_53178_6 rfl (lv_at hl 3 rfl) ?_
    refine lv_icmp_ge (tgt := 20) hx hb dJ7_fill_53178_7 (by decide) (fun c1 => absurd c1 (nI_ge (by omega) hn)) (fun c1 => ?_)
    refine lv_aload_n hx hb dJ7_fill_53178_10 rfl (lv_at hl 0 rfl) ?_
    refine lv_iload_n hx hb dJ7_fill_53178_11 rfl (lv_at hl 2 rfl) ?_
    refine lv_iload_n hx hb dJ7_fill_53178_12 rfl (lv_at hl 1 rfl) ?_
    have hcl : (nI i).toNatClampNeg = i := nI_clamp (by omega)
    have hin : inb (nI i) (alen ci k v) = true := by
      simp only [inb, Bool.and_eq_true, decide_eq_true_eq]
      exact ⟨nI_pos (by omega), by rw [hcl]; omega⟩
    refine b_iast (n := alen ci k v) hM hW ci k hc hk ht ha rfl rfl hin dJ7_fill_53178_13 (fun v1 ev hc1 H locs hW => ?_)
    rw [hcl, flA_next] at ev
    subst ev
    refine lv_iinc (v := nI (i + 1)) (lv' := [(2, .int (nI (i + 1))), (0, .ref (a + (ds ci k).2.1)), (1, .int x), (3, .int (nI (alen ci k v)))]) hx hb dJ7_fill_53178_14 hl (k := 2) rfl (nI_1 i) (by decide) rfl (fun ls hl => ?_)
    refine lv_goto (tgt := 5) hx hb dJ7_fill_53178_17 (by decide) ?_
    exact ih (i + 1) (by omega) H locs hW ls (lv_sub hl [1, 2, 0, 3] rfl)
set_option maxHeartbeats 4000000 in
theorem c_fill (l : Launch) (G : GG) (S : ST) (a : Nat) (v : GV) (x : Int32) (ci k : Nat) (hc : gC v = ci + 1) (hk : k < nf ci) (ht : (ds ci k).1 = 2) (ha : (ds ci k).2.2.1 = 1) (ha5 : (ds ci k).2.2.1 = 0 + 1) (hn : alen ci k v < 2 ^ 31) {o : Nat} (ho : (ds ci k).2.1 = o) : Ct l yJ7_fill_53178 w_fill RM_0 G (st S a v) [.ref (a + o), .int x] none (st S a (sAf v k (flA (gA v k) (alen ci k v) x))) 0 0 := by
  subst ho
  refine Met.ofW (cc := cJ7_fill_53178) (maxL := 4) (ret := none) (by decide) rfl ?_
  intro p e s m args below meth c s₁ B hml hv
  obtain ⟨rfl, hB, hK, hz⟩ := hv
  have hM : MC G p s m _ c cJ7_fill_53178 w_fill RJ7 := ⟨B.exec, B.bytes, findClass_of_methodNamed B.named, atoms_spec (ws := w_fill) B.pre, hK, hz⟩
  have hW : WB G (st S a v) s s.heap [] := ⟨hB, va_S.rf⟩
  have hl := lv_entry ([.ref (a + (ds ci k).2.1), .int x]) (n := 4) (Nat.le_of_ble_eq_true rfl)
  rw [lg_entry_eq]
  generalize (lg_sl ([.ref (a + (ds ci k).2.1), .int x]) ++ List.replicate (4 - (lg_sl ([.ref (a + (ds ci k).2.1), .int x])).length) Slot.unset).toArray = ls at hl ⊢
  have hl : lv_has ls 4 [(0, .ref (a + (ds ci k).2.1)), (1, .int x)] := hl
  have hx := hM.1
  have hb := hM.2.1
  refine lv_iconst (v := (0 : Int32)) hx hb dJ7_fill_53178_0 (by decide) ?_
  refine lv_istore_n (lv' := [(2, .int (0 : Int32)), (0, .ref (a + (ds ci k).2.1)), (1, .int x)]) hx hb dJ7_fill_53178_1 rfl hl (by decide) rfl (fun ls hl => ?_)
  refine lv_aload_n hx hb dJ7_fill_53178_2 rfl (lv_at hl 1 rfl) ?_
  refine b_alen hM hW ci k 0 hc hk ht ha5 (by decide) rfl rfl (x := nI (alen ci k v)) rfl dJ7_fill_53178_3 ?_
  refine lv_istore_n (lv' := [(3, .int (nI (alen ci k v))), (2, .int (0 : Int32)), (0, .ref (a + (ds ci k).2.1)), (1, .int x)]) hx hb dJ7_fill_53178_4 rfl hl (by decide) rfl (fun ls hl => ?_)
  exact t_fill hM B.returns B.notSynchronized hc hk ht ha hn (alen ci k v) 0 (by omega) _ _ (by rw [flA_0]; exact hW) _ (by rw [nI_0]; exact lv_sub hl [2, 3, 1, 0] rfl)
