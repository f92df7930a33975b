/-! ===== what stands at the law's entry: classes, constants ===== -/
def flL : List Cond := flatC (Jvm.Cond.and given_1 narrow_1)
abbrev dW : String := "LPanelCopies$Word;"
abbrev tW (j : Nat) : Term := .static RX10 (wnm.getD j "") dW
abbrev tAll : Term := .static RX10 "ALL" "[LPanelCopies$Word;"
abbrev tMap : Term := .static RX0 "$SwitchMap$PanelCopies$Word" "[I"
abbrev tUni : Term := .static RX7 "UNITS" "[I"
abbrev tSgn : Term := .string RX8 65
abbrev tVal : Term := .field tSgn "java/lang/String" "value" "[B"
theorem fl_of {f : Nat → Cond} {n j : Nat} {B : List Cond} (h : ((List.range n).all fun j => decide (f j ∈ B)) = true) (hj : j < n) : f j ∈ B := of_decide_eq_true (List.all_eq_true.mp h j (List.mem_range.mpr hj))
theorem fl_ex : ((List.range 30).all fun j => decide (Cond.exactly (tW j) RX10 ∈ flL)) = true := by decide +kernel
theorem fl_od : ((List.range 30).all fun j => decide (Cond.eq (.field (tW j) "java/lang/Enum" "ordinal" "I") (.int (nI j)) ∈ flL)) = true := by decide +kernel
theorem fl_pk : ((List.range 30).all fun j => decide (Cond.eq (.field (tW j) RX10 "packed" "J") (.long (wpk.getD j 0)) ∈ flL)) = true := by decide +kernel
theorem fl_rs : ((List.range 30).all fun j => decide (Cond.eq (.field (tW j) RX10 "reserved" "Z") (.int (wrs.getD j 0)) ∈ flL)) = true := by decide +kernel
theorem fl_all : ((List.range 30).all fun j => decide (Cond.eq (.elem tAll (.int (Int32.ofNat j))) (tW j) ∈ flL)) = true := by decide +kernel
theorem fl_map : ((List.range 30).all fun j => decide (Cond.eq (.elem tMap (.int (Int32.ofNat j))) (.int (smp.getD j 0)) ∈ flL)) = true := by decide +kernel
theorem fl_uni : ((List.range 5).all fun j => decide (Cond.eq (.elem tUni (.int (Int32.ofNat j))) (.int (uni.getD j 0)) ∈ flL)) = true := by decide +kernel
theorem fl_sgn : ((List.range 8).all fun j => decide (Cond.eq (.elem tVal (.int (Int32.ofNat j))) (.int (sgn.getD j 0)) ∈ flL)) = true := by decide +kernel
theorem fl_lay : ((List.range 30).all fun j => decide (Cond.laysStatic RX10 (wnm.getD j "") dW ∈ lw_tbl)) = true := by decide +kernel
/-- the classes' numbers and the arrays' -/
def pickC (c : Nat → ClassId) (ad : Nat → Nat) (k : Nat) : ClassId := if k < 100 then c k else ad (k - 100)
theorem arr_of {args : Array Value} {s : State} {ty : FieldType} (h : (Cond.arrayClass ty).before args s = true) : ∃ cA, ArrOfT s cA ty ∧ s.vm.findClass ("[" ++ ty.toString) = some cA := by
  obtain ⟨c, k, comp, h1, h2, h3⟩ := Cond.arrayClass_spec h
  exact ⟨c, fun n z => ⟨fun k h => (by cases h), k, h2, comp, h3⟩, h1⟩
theorem arr_ofO {args : Array Value} {s : State} {C : String} (h : (Cond.arrayOver (.object C)).before args s = true) : ∃ cA, ArrOfT s cA (.object C) ∧ va_RA s cA (.object C) := by
  obtain ⟨comp, c, k, h1, h2, h3, h4, h5⟩ := Cond.arrayOver_spec h
  exact ⟨c, fun n z => ⟨fun k h => (by cases h), k, h3, comp, h4⟩, k, comp, h3, h4, h1, h5⟩
theorem va_T_to {ty : FieldType} {t N : Nat} {f g : Nat → Value} {A : Nat → Prop} {U : State} {H : Heap} (h : va_T ty t N f A U H) (e : ∀ j, j < N → g j = f j) : va_T ty t N g A U H := by
  obtain ⟨cell, h1, h2, h3, h4, h5, h6, h7⟩ := h
  exact ⟨cell, h1, h2, h3, h4, h5, fun j hj => by rw [h6 j hj, e j hj], h7⟩
section START
variable {s : State} {args : Array Value}
theorem st_K (hts : ∀ w ∈ lw_tbl, w.before args s = true) (ad : Nat → Nat) : ∃ (D : va_G) (c : Nat → ClassId), va_K D vwCl (tysOf (pickC c ad)) s := by
  have hw : ∀ w ∈ cmL :: wsL_law0, w.before args s = true := fun w h => (List.mem_cons.mp h).elim (fun q => by rw [q]; exact hts _ (wsL_law_in0 _ it_RL)) (fun q => hts _ (wsL_law_in0 _ q))
  obtain ⟨c0, i0, k0⟩ := u_known (C := RX1) (T := TX1) (N := 13) hw wi_X1 (hw _ (wgm is_RX1))
  obtain ⟨c1, i1, k1⟩ := u_known (C := RX2) (T := TX2) (N := 2) hw wi_X2 (hw _ (wgm is_RX2))
  obtain ⟨c2, i2, k2⟩ := u_known (C := RX3) (T := TX3) (N := 13) hw wi_X3 (hw _ (wgm is_RX3))
  obtain ⟨c3, i3, k3⟩ := u_known (C := RX4) (T := TX4) (N := 2) hw wi_X4 (hw _ (wgm is_RX4))
  obtain ⟨c4, i4, k4⟩ := u_known (C := RX5) (T := TX5) (N := 4) hw wi_X5 (hw _ (wgm is_RX5))
  obtain ⟨c5, i5, k5⟩ := u_known (C := RX6) (T := TX6) (N := 5) hw wi_X6 (hw _ (wgm is_RX6))
  obtain ⟨c6, i6, k6⟩ := u_known (C := RX7) (T := TX7) (N := 3) hw wi_X7 (hw _ (wgm is_RX7))
  obtain ⟨c7, i7, k7⟩ := u_known (C := RX8) (T := TX8) (N := 8) hw wi_X8 (hw _ (wgm is_RX8))
  obtain ⟨c8, i8, k8⟩ := u_known (C := RX9) (T := TX9) (N := 6) hw wi_X9 (hw _ (wgm is_RX9))
  obtain ⟨c9, i9, k9⟩ := u_known (C := RX11) (T := TX11) (N := 3) hw wi_X11 (hw _ (wgm is_RX11))
  obtain ⟨c10, i10, k10⟩ := u_known (C := RX12) (T := TX12) (N := 19) hw wi_X12 (hw _ (wgm is_RX12))
  obtain ⟨c11, i11, k11⟩ := u_known (C := RX13) (T := TX13) (N := 41) hw wi_X13 (hw _ (wgm is_RX13))
  obtain ⟨a1, r1, q1⟩ := arr_of (hw _ (wgm wd_ai))
  obtain ⟨a2, r2, q2⟩ := arr_of (hw _ (wgm wd_al))
  obtain ⟨a3, r3, q3⟩ := arr_of (hw _ (wgm wd_ac))
  obtain ⟨a4, r4, q4⟩ := arr_of (hw _ (wgm wd_ab))
  obtain ⟨a5, r5, q5⟩ := arr_ofO (C := RX3) (hts _ (by decide +kernel))
  refine ⟨(fun k => [c0, c1, c2, c3, c4, c5, c6, c7, c8, c9, c10, c11].getD k 0, fun k => [i0, i1, i2, i3, i4, i5, i6, i7, i8, i9, i10, i11].getD k i0), fun k => [0, a1, a2, a3, a4, a5].getD k 0, fun k q h => ?_, fun k q h => ?_⟩
  · match k, h with
    | 0, h => cases h; exact k0
    | 1, h => cases h; exact k1
    | 2, h => cases h; exact k2
    | 3, h => cases h; exact k3
    | 4, h => cases h; exact k4
    | 5, h => cases h; exact k5
    | 6, h => cases h; exact k6
    | 7, h => cases h; exact k7
    | 8, h => cases h; exact k8
    | 9, h => cases h; exact k9
    | 10, h => cases h; exact k10
    | 11, h => cases h; exact k11
    | k + 12, h => cases h
  · match k, h with
    | 0, h => cases h; exact ⟨r1, q1⟩
    | 1, h => cases h; exact ⟨r2, q2⟩
    | 2, h => cases h; exact ⟨r3, q3⟩
    | 3, h => cases h; exact ⟨r4, q4⟩
    | 4, h => cases h; exact ⟨r5, q5⟩
    | k + 5, h => cases h
theorem st_A (hs : ∀ w ∈ flL, w.before args s = true) {t : Term} {C : String} (h : Cond.exactly t C ∈ flL) {A : Nat → Prop} (hA : ∀ a : Nat, a < s.heap.size → ¬ A a) : ∃ a, t.eval args s none [] s = some (.ref a) ∧ va_O C a A s s.heap := by
  obtain ⟨a, c, cell, k, q1, q2, q3, q4, q5, q6, -⟩ := Cond.exactly_spec (hs _ h)
  exact ⟨a, q1, cell, q3, q5, by rw [q6]; exact q2, hA a (Array.getElem?_eq_some_iff.mp q3).1⟩
/-- the constants' addresses -/
theorem st_ad (hs : ∀ w ∈ flL, w.before args s = true) {A : Nat → Prop} (hA : ∀ a : Nat, a < s.heap.size → ¬ A a) : ∃ ad : Nat → Nat, (∀ j, j < 30 → (tW j).eval args s none [] s = some (.ref (ad j)) ∧ va_O RX10 (ad j) A s s.heap) ∧ (tAll.eval args s none [] s = some (.ref (ad 30)) ∧ va_T (.object RX10) (ad 30) 30 (fun j => .ref (ad j)) A s s.heap) ∧ (tMap.eval args s none [] s = some (.ref (ad 31)) ∧ va_T .int (ad 31) 30 (fun j => .int (smp.getD j 0)) A s s.heap) ∧ (tUni.eval args s none [] s = some (.ref (ad 32)) ∧ va_T .int (ad 32) 5 (fun j => .int (uni.getD j 0)) A s s.heap) ∧ (tSgn.eval args s none [] s = some (.ref (ad 33)) ∧ va_O "java/lang/String" (ad 33) A s s.heap) ∧ (tVal.eval args s none [] s = some (.ref (ad 34)) ∧ va_T .byte (ad 34) 8 (fun j => .int (sgn.getD j 0)) A s s.heap) := by
  have h0 : ∀ j : Nat, ∃ t : Nat, j < 30 → (tW j).eval args s none [] s = some (.ref t) ∧ va_O RX10 t A s s.heap := by
    intro j
    by_cases hj : j < 30
    · obtain ⟨a, h1, h2⟩ := st_A hs (fl_of (f := fun j => Cond.exactly (tW j) RX10) fl_ex hj) hA
      exact ⟨a, fun _ => ⟨h1, h2⟩⟩
    · exact ⟨0, fun h => absurd h hj⟩
  obtain ⟨aw, haw⟩ := Classical.axiomOfChoice h0
  obtain ⟨a30, e30, t30⟩ := va_Tof (f := fun j => .ref (aw j)) (N := 30) (A := A) (by decide) (hs (Cond.arrayOf tAll (.object RX10)) (by decide +kernel)) (va_eqt (hs (Cond.eq (.length tAll) (.int (Int32.ofNat 30))) (by decide +kernel))) (fun j hj => by
    obtain ⟨y, y1, y2⟩ := Cond.eq_one (hs _ (fl_of (f := fun j => Cond.eq (.elem tAll (.int (Int32.ofNat j))) (tW j)) fl_all hj))
    have := (haw j hj).1
    rw [y2] at this
    rw [y1]; exact this) hA
  obtain ⟨a31, e31, t31⟩ := va_Tof (f := fun j => .int (smp.getD j 0)) (N := 30) (A := A) (by decide) (hs (Cond.arrayOf tMap .int) (by decide +kernel)) (va_eqt (hs (Cond.eq (.length tMap) (.int (Int32.ofNat 30))) (by decide +kernel))) (fun j hj => va_eqt (hs _ (fl_of (f := fun j => Cond.eq (.elem tMap (.int (Int32.ofNat j))) (.int (smp.getD j 0))) fl_map hj))) hA
  obtain ⟨a32, e32, t32⟩ := va_Tof (f := fun j => .int (uni.getD j 0)) (N := 5) (A := A) (by decide) (hs (Cond.arrayOf tUni .int) (by decide +kernel)) (va_eqt (hs (Cond.eq (.length tUni) (.int (Int32.ofNat 5))) (by decide +kernel))) (fun j hj => va_eqt (hs _ (fl_of (f := fun j => Cond.eq (.elem tUni (.int (Int32.ofNat j))) (.int (uni.getD j 0))) fl_uni hj))) hA
  obtain ⟨a33, e33, o33⟩ := st_A hs (t := tSgn) (C := "java/lang/String") (by decide +kernel) hA
  obtain ⟨a34, e34, t34⟩ := va_Tof (f := fun j => .int (sgn.getD j 0)) (N := 8) (A := A) (by decide) (hs (Cond.arrayOf tVal .byte) (by decide +kernel)) (va_eqt (hs (Cond.eq (.length tVal) (.int (Int32.ofNat 8))) (by decide +kernel))) (fun j hj => va_eqt (hs _ (fl_of (f := fun j => Cond.eq (.elem tVal (.int (Int32.ofNat j))) (.int (sgn.getD j 0))) fl_sgn hj))) hA
  refine ⟨fun j => if j < 30 then aw j else [a30, a31, a32, a33, a34].getD (j - 30) 0, fun j hj => ?_, ⟨e30, ?_⟩, ⟨e31, t31⟩, ⟨e32, t32⟩, ⟨e33, o33⟩, e34, t34⟩
  · simp only [if_pos hj]; exact haw j hj
  · refine va_T_to t30 (fun j hj => ?_)
    simp only [if_pos hj]
theorem st_CW (hts : ∀ w ∈ lw_tbl, w.before args s = true) (hs : ∀ w ∈ flL, w.before args s = true) : ∃ ad : Nat → Nat, ∀ (D : va_G) (c : Nat → ClassId), CW (Gz D (pickC c ad) s.heap.size) s s.heap ∧ vk_R RX8 65 "()<=+-*;" (kAd (Gz D (pickC c ad) s.heap.size) 33) s := by
  have hA : ∀ a : Nat, a < s.heap.size → ¬ (fun q : Nat => s.heap.size ≤ q) a := fun a h q => absurd q (Nat.not_le.mpr h)
  obtain ⟨ad, h0, h30, h31, h32, h33, h34⟩ := st_ad hs hA
  refine ⟨ad, fun D c => ?_⟩
  have hOU : ∀ q, OU (Gz D (pickC c ad) s.heap.size) q → s.heap.size ≤ q := fun q h => h.1
  have hA' : ∀ a : Nat, a < s.heap.size → ¬ OU (Gz D (pickC c ad) s.heap.size) a := fun a h q => absurd (hOU a q) (Nat.not_le.mpr h)
  have hk : ∀ j, kAd (Gz D (pickC c ad) s.heap.size) j = ad j := fun j => by
    show (if 100 + j < 100 then c (100 + j) else ad (100 + j - 100)) = ad j
    rw [if_neg (by omega), show 100 + j - 100 = j by omega]
  have i10 : (Cond.initialized RX10).before args s = true := hts _ (by decide +kernel)
  refine ⟨⟨fun j hj => ?_, ?_, ?_, ?_, ?_⟩, ?_⟩
  · unfold CW1
    rw [hk]
    obtain ⟨e1, e2⟩ := h0 j hj
    refine ⟨va_Zof (hts _ (fl_of (f := fun j => Cond.laysStatic RX10 (wnm.getD j "") dW) fl_lay hj)) i10 e1 hA', e2.narrow hOU, vk_OFof e1 (va_eqtl (hs _ (fl_of (f := fun j => Cond.eq (.field (tW j) RX10 "packed" "J") (.long (wpk.getD j 0))) fl_pk hj))) hA', vk_OFof e1 (va_eqt (hs _ (fl_of (f := fun j => Cond.eq (.field (tW j) RX10 "reserved" "Z") (.int (wrs.getD j 0))) fl_rs hj))) hA', vk_OFof e1 (va_eqt (hs _ (fl_of (f := fun j => Cond.eq (.field (tW j) "java/lang/Enum" "ordinal" "I") (.int (nI j))) fl_od hj))) hA'⟩
  · rw [hk]
    refine ⟨va_Zof (hts _ (by decide +kernel)) i10 h30.1 hA', va_T_to (h30.2.narrow hOU) (fun j hj => ?_)⟩
    rw [hk]
  · rw [hk]
    exact ⟨va_Zof (hts _ (by decide +kernel)) (hts _ (by decide +kernel)) h31.1 hA', h31.2.narrow hOU⟩
  · rw [hk]
    exact ⟨va_Zof (hts _ (by decide +kernel)) (hts _ (by decide +kernel)) h32.1 hA', h32.2.narrow hOU⟩
  · rw [hk, hk]
    exact ⟨va_Zof (hts _ (by decide +kernel)) (hts _ (by decide +kernel)) (va_eqt (hs _ (by decide +kernel))) hA', h33.2.narrow hOU, vk_OFof h33.1 (va_eqt (hs (Cond.eq (.field tSgn "java/lang/String" "coder" "B") (.int 0)) (by decide +kernel))) hA', vk_OFof h33.1 h34.1 hA', h34.2.narrow hOU⟩
  · rw [hk]
    exact vk_R.of (hts _ (by decide +kernel)) h33.1
theorem st_NW (hts : ∀ w ∈ lw_tbl, w.before args s = true) : NW s := by
  intro q hq
  simp only [NWl, List.mem_cons, List.not_mem_nil, or_false] at hq
  rcases hq with rfl | rfl | rfl | rfl | rfl | rfl <;> exact va_Nw.of rfl (hts _ (by decide +kernel))
theorem st_XZ (hts : ∀ w ∈ lw_tbl, w.before args s = true) (hs : ∀ w ∈ flL, w.before args s = true) : ∃ k1 k2 : Nat, ∀ (D : va_G) (cA : Nat → ClassId), XZ (Gz D cA s.heap.size) k1 k2 s := by
  have hA : ∀ a : Nat, a < s.heap.size → ¬ (fun q : Nat => s.heap.size ≤ q) a := fun a h q => absurd q (Nat.not_le.mpr h)
  obtain ⟨k1, e1, -⟩ := st_A hs (t := .string RX12 323) (C := "java/lang/String") (by decide +kernel) hA
  obtain ⟨k2, e2, -⟩ := st_A hs (t := .string RX12 332) (C := "java/lang/String") (by decide +kernel) hA
  refine ⟨k1, k2, fun D cA => ?_⟩
  have hA' : ∀ a : Nat, a < s.heap.size → ¬ OU (Gz D cA s.heap.size) a := fun a h q => absurd q.1 (Nat.not_le.mpr h)
  exact ⟨vk_R.of (hts _ (by decide +kernel)) e1, vk_R.of (hts _ (by decide +kernel)) e2, vx_Zqof (hts _ (by decide +kernel)) (hts _ (by decide +kernel)) (hs _ (by decide +kernel)) hA', vx_Zqof (hts _ (by decide +kernel)) (hts _ (by decide +kernel)) (hs _ (by decide +kernel)) hA', va_Nw.of rfl (hts _ (by decide +kernel)), va_Nw.of rfl (hts _ (by decide +kernel)), va_Nw.of rfl (hts _ (by decide +kernel)), va_Nw.of rfl (hts _ (by decide +kernel))⟩
end START
