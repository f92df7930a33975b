/-! THE CLAIM OUT OF ONE WALK OF THE LAW'S BODY (the kit's skeleton, with the launch's flag for traces carried along) -/
def R_law : String := "PanelCopiesLaw"
def lw_P (b : Addr) (xs : List Int32) (args : Array Value) (s : State) : Prop := args = #[.ref b] ∧ s.IntsAt b xs ∧ xs.length ≤ 3584 ∧ (Jvm.Cond.and given_1 narrow_1).before args s = true
def lw_Q (_ : Array Value) (s : State) (o : Outcome) (t : State) : Prop := o = .returned (some (.int 1)) ∧ Framed s o t [] 601024 7293034
def lw_Z (below : List Frame) (a : Array Value) (s : State) : State → Prop := fun t => ∃ o, t.status = .running ∧ Ended t below o ∧ lw_Q a s o t
/-- the law's own end, with 1 on the stack, nothing written that was there before, its room as the claim has it -/
theorem lw_ret {p : Program} {l : Launch} {e : Env} {s : State} {m : MethodId} {below : List Frame} {meth : Method} {c : Code} {b : Nat} (hx : p.tables.exec = Jvm.exec) (hb : c.code = code) (hr : meth.sig.returnType = ret) (hlocks : meth.locks = false) {pc : Nat} {H : Heap} {ls : Array Slot} (hdg : decode code pc = .ok (.ireturn, 1)) : W p l e room_1 s m #[Value.ref b] below meth c H [] 601024 7293034 (lw_Z below #[Value.ref b] s) (F0 m pc ls [.int 1]) := by
  intro T hT X
  obtain ⟨fs, hret, hrun, hended, hW, hframe⟩ := X.leave (v := some (.int 1)) (hlocks := hlocks) (fun h => by rw [hr] at h; cases h)
  have hmeth' : T.vm.method? m = some meth := X.method'
  refine ⟨T.setFrames fs, ?_, .returned (some (.int 1)), hrun, hended, rfl, ⟨_, rfl⟩, hW, hframe⟩
  jvm_step X.here [X.here.top, hx, hb, hdg, hmeth', hr, ret, narrow_b1]
  (try refine ⟨rfl, ?_⟩); (try refine ⟨rfl, ?_⟩)
  first | (intro acts; rw [hret _ acts rfl rfl rfl]) | rw [hret _ _ rfl rfl rfl]
  exact Steps.refl _
/-- what holds at the law's entry: the machine, the code, the tables' words (any of lw_tbl by 'hts w (by decide +kernel)'), the script of L ints xs at the cell b, what the Statement gives of the start (any of its parts by flat_of_before) -/
def lw_At (p : Program) (s : State) (m : MethodId) (meth : Method) (c : Code) (b L : Nat) (xs : Nat → Int32) : Prop :=
  p.tables.exec = Jvm.exec ∧ c.code = code ∧ meth.sig.returnType = ret ∧ c.maxLocals = 7 ∧ s.vm.findClass R_law = some m.cls ∧ (∀ w ∈ lw_tbl, w.before #[Value.ref b] s = true) ∧ va_X b L xs s s.heap ∧ b < s.heap.size ∧ meth.locks = false ∧ (Jvm.Cond.and given_1 narrow_1).before #[Value.ref b] s = true
/-! ===== the loop ===== -/
theorem lp_in {j L : Nat} (hL : L ≤ 3584) (h : ¬ (Int32.ofNat L - (7 : Int32)) < nI (7 * j)) (hj : 7 * j ≤ L) : 7 * j + 7 ≤ L := by
  rcases Nat.lt_or_ge L 7 with q | q
  · exfalso
    apply h
    have h7 : (List.range 7).all (fun L => decide ((Int32.ofNat L - (7 : Int32)) < (0 : Int32))) = true := by decide +kernel
    have h8 : (Int32.ofNat L - (7 : Int32)) < (0 : Int32) := of_decide_eq_true (List.all_eq_true.mp h7 L (List.mem_range.mpr q))
    have h9 : ¬ nI (7 * j) < 0 := nI_pos (by omega)
    rw [Int32.lt_iff_toInt_lt] at h8 h9 ⊢
    omega
  · have e : Int32.ofNat L - (7 : Int32) = nI (L - 7) := by
      have : Int32.ofNat L = nI (L - 7) + nI 7 := by
        rw [nI_add, show L - 7 + 7 = L by omega]; rfl
      rw [this, show (7 : Int32) = nI 7 from rfl, Int32.add_sub_cancel]
    rw [e, nI_ltI (by omega) (by omega)] at h
    omega
section LOOP
variable {D : va_G} {cA : Nat → ClassId} {p : Program} {l : Launch} {e : Env} {s : State} {m : MethodId} {below : List Frame} {meth : Method} {c : Code} {b L : Nat} {xs : Nat → Int32} {k1 k2 : Nat}
set_option maxHeartbeats 4000000 in
set_option maxRecDepth 100000 in
theorem law_loop (hst : l.stackTraces = false) (hL : L ≤ 3584) (C0 : lw_At p s m meth c b L xs) (hM : MC (Gz D cA s.heap.size) p s m #[Value.ref b] c cL_law (cmL :: wsL_law0) RL) (hXZ : XZ (Gz D cA s.heap.size) k1 k2 s) (hWX : ∀ w ∈ WX, w.before #[Value.ref b] s = true) (n : Nat) : ∀ j, j + n = 513 → 7 * j ≤ L → ∀ (Sc : ST) (v w : GV) (H : Heap) (locs : List Loc) (ls : Array Slot), IV D cA s Sc v w H locs → RR s.heap.size Sc v → lv_has ls 7 [(0, .ref b), (1, .ref s.heap.size), (2, .ref (s.heap.size + 230)), (3, .ref (s.heap.size + 257)), (4, .int (nI (7 * j)))] → W p l e room_1 s m #[Value.ref b] below meth c H locs (258 + 9 * j) (18876 + 3102 * j) (lw_Z below #[Value.ref b] s) (F0 m 23 ls []) := by
  obtain ⟨hx, hb, hr, hml, hown, hts, hXs, hbl, hlocks, hgv⟩ := id C0
  have hb : c.code = cL_law := hb
  have hbA : ¬ OU (Gz D cA s.heap.size) b := fun q => absurd q.1 (Nat.not_le.mpr hbl)
  induction n with
  | zero => intro j h1 h2; omega
  | succ n ih =>
    intro j hn hj0 Sc v w H locs ls hI hR hl
    refine lv_iload hx hb dL_law_23 (lv_at hl 4 rfl) ?_
    refine lv_aload_n hx hb dL_law_25 rfl (lv_at hl 0 rfl) ?_
    refine va_slen hx hb hXs hbl hbA hI.2.2.2.1 dL_law_26 ?_
    refine lv_bipush (v := (7 : Int32)) hx hb dL_law_27 (by decide) ?_
    refine lv_isub hx hb dL_law_29 ?_
    refine lv_icmp_gt (tgt := 1392) hx hb dL_law_30 (by decide) (fun _ => ?_) (fun c1 => ?_)
    · refine lv_iconst (v := (1 : Int32)) hx hb dL_law_1392 (by decide) ?_
      refine W.widen (k := 601024) (n := 7293034) (by omega) (by omega) ?_
      refine va_forget (fun q hq => OU_z.mp (hI.2.2.2.1.2.2 q hq)) ?_
      exact lw_ret hx hb hr hlocks dL_law_1393
    · have hj := lp_in hL c1 hj0
      have hcr : (258 + 9 * j) + 9 ≤ 601024 ∧ (18876 + 3102 * j) + 3102 ≤ 7293034 := by omega
      have kk : ∀ (Sc : ST) (v w : GV) (H : Heap) (locs : List Loc) (ls : Array Slot), IV D cA s Sc v w H locs → RR s.heap.size Sc v → lv_has ls 7 [(0, .ref b), (1, .ref s.heap.size), (2, .ref (s.heap.size + 230)), (3, .ref (s.heap.size + 257)), (4, .int (nI (7 * j)))] → W p l e room_1 s m #[Value.ref b] below meth c H locs (258 + 9 * j + 9) (18876 + 3102 * j + 3102) (lw_Z below #[Value.ref b] s) (F0 m 1386 ls []) := by
        intro Sc v w H locs ls hI hR hl
        refine lv_iinc (v := nI (7 * (j + 1))) (lv' := [(4, .int (nI (7 * (j + 1)))), (0, .ref b), (1, .ref s.heap.size), (2, .ref (s.heap.size + 230)), (3, .ref (s.heap.size + 257))]) hx hb dL_law_1386 hl (k := 4) rfl (by show nI (7 * j) + nI 7 = _; rw [nI_add]; rfl) (by decide) rfl (fun ls hl => ?_)
        refine lv_goto (tgt := 23) hx hb dL_law_1389 (by decide) ?_
        exact ih (j + 1) (by omega) (by omega) Sc v w H locs ls hI hR (lv_sub hl [1, 2, 3, 4, 0] rfl)
      refine lv_aload_n hx hb dL_law_33 rfl (lv_at hl 0 rfl) ?_
      refine lv_iload hx hb dL_law_34 (lv_at hl 4 rfl) ?_
      refine va_sld hx hb hXs hbl hbA hI.2.2.2.1 (sin0 hL hj) dL_law_36 ?_
      refine lv_bipush (v := (63 : Int32)) hx hb dL_law_37 (by decide) ?_
      refine lv_iand hx hb dL_law_39 ?_
      generalize (xs (nI (7 * j)).toNatClampNeg) &&& (63 : Int32) = y
      by_cases y0 : y = nI 0
      · refine lv_tableIn (off := 148) (tgt := 188) hx hb dL_law_40 (by rw [y0]; decide) (by rw [y0]; decide) (by rw [y0]; rfl) (by decide) ?_
        exact lc_feed hM hml hXs hbl hL hj hcr kk Sc v w H locs ls hI hR hl
      by_cases y1 : y = nI 1
      · refine lv_tableIn (off := 295) (tgt := 335) hx hb dL_law_40 (by rw [y1]; decide) (by rw [y1]; decide) (by rw [y1]; rfl) (by decide) ?_
        exact lc_gallery hM hml hXs hbl hL hj hcr kk Sc v w H locs ls hI hR hl
      by_cases y2 : y = nI 2
      · refine lv_tableIn (off := 308) (tgt := 348) hx hb dL_law_40 (by rw [y2]; decide) (by rw [y2]; decide) (by rw [y2]; rfl) (by decide) ?_
        exact lc_nights hM hml hXs hbl hL hj hcr kk Sc v w H locs ls hI hR hl
      by_cases y3 : y = nI 3
      · refine lv_tableIn (off := 321) (tgt := 361) hx hb dL_law_40 (by rw [y3]; decide) (by rw [y3]; decide) (by rw [y3]; rfl) (by decide) ?_
        exact lc_piece hM hml hXs hbl hL hj hcr kk Sc v w H locs ls hI hR hl
      by_cases y4 : y = nI 4
      · refine lv_tableIn (off := 358) (tgt := 398) hx hb dL_law_40 (by rw [y4]; decide) (by rw [y4]; decide) (by rw [y4]; rfl) (by decide) ?_
        exact lc_distance hM hml hXs hbl hL hj hcr kk Sc v w H locs ls hI hR hl
      by_cases y5 : y = nI 5
      · refine lv_tableIn (off := 395) (tgt := 435) hx hb dL_law_40 (by rw [y5]; decide) (by rw [y5]; decide) (by rw [y5]; rfl) (by decide) ?_
        exact lc_thief hM hml hXs hbl hL hj hcr kk Sc v w H locs ls hI hR hl
      by_cases y6 : y = nI 6
      · refine lv_tableIn (off := 432) (tgt := 472) hx hb dL_law_40 (by rw [y6]; decide) (by rw [y6]; decide) (by rw [y6]; rfl) (by decide) ?_
        exact lc_steal hM hml hXs hbl hL hj hcr kk Sc v w H locs ls hI hR hl
      by_cases y7 : y = nI 7
      · refine lv_tableIn (off := 469) (tgt := 509) hx hb dL_law_40 (by rw [y7]; decide) (by rw [y7]; decide) (by rw [y7]; rfl) (by decide) ?_
        exact lc_paint hM hml hXs hbl hL hj hcr kk Sc v w H locs ls hI hR hl
      by_cases y8 : y = nI 8
      · refine lv_tableIn (off := 518) (tgt := 558) hx hb dL_law_40 (by rw [y8]; decide) (by rw [y8]; decide) (by rw [y8]; rfl) (by decide) ?_
        exact lc_sell hM hml hXs hbl hL hj hcr kk Sc v w H locs ls hI hR hl
      by_cases y9 : y = nI 9
      · refine lv_tableIn (off := 555) (tgt := 595) hx hb dL_law_40 (by rw [y9]; decide) (by rw [y9]; decide) (by rw [y9]; rfl) (by decide) ?_
        exact lc_guard hM hml hXs hbl hL hj hcr kk Sc v w H locs ls hI hR hl
      by_cases y10 : y = nI 10
      · refine lv_tableIn (off := 580) (tgt := 620) hx hb dL_law_40 (by rw [y10]; decide) (by rw [y10]; decide) (by rw [y10]; rfl) (by decide) ?_
        exact lc_night hM hml hXs hbl hL hj hcr kk Sc v w H locs ls hI hR hl
      by_cases y11 : y = nI 11
      · refine lv_tableIn (off := 593) (tgt := 633) hx hb dL_law_40 (by rw [y11]; decide) (by rw [y11]; decide) (by rw [y11]; rfl) (by decide) ?_
        exact lc_undo hM hml hXs hbl hL hj hcr kk Sc v w H locs ls hI hR hl
      by_cases y12 : y = nI 12
      · refine lv_tableIn (off := 606) (tgt := 646) hx hb dL_law_40 (by rw [y12]; decide) (by rw [y12]; decide) (by rw [y12]; rfl) (by decide) ?_
        exact lc_judged hM hml hXs hbl hL hj hcr kk Sc v w H locs ls hI hR hl
      by_cases y13 : y = nI 13
      · refine lv_tableIn (off := 631) (tgt := 671) hx hb dL_law_40 (by rw [y13]; decide) (by rw [y13]; decide) (by rw [y13]; rfl) (by decide) ?_
        exact lc_tree hM hml hXs hbl hL hj hcr kk Sc v w H locs ls hI hR hl
      by_cases y14 : y = nI 14
      · refine lv_tableIn (off := 668) (tgt := 708) hx hb dL_law_40 (by rw [y14]; decide) (by rw [y14]; decide) (by rw [y14]; rfl) (by decide) ?_
        exact lc_kin hM hml hXs hbl hL hj hcr kk Sc v w H locs ls hI hR hl
      by_cases y15 : y = nI 15
      · refine lv_tableIn (off := 693) (tgt := 733) hx hb dL_law_40 (by rw [y15]; decide) (by rw [y15]; decide) (by rw [y15]; rfl) (by decide) ?_
        exact lc_nearest hM hml hXs hbl hL hj hcr kk Sc v w H locs ls hI hR hl
      by_cases y16 : y = nI 16
      · refine lv_tableIn (off := 718) (tgt := 758) hx hb dL_law_40 (by rw [y16]; decide) (by rw [y16]; decide) (by rw [y16]; rfl) (by decide) ?_
        exact lc_meet hM hml hXs hbl hL hj hcr kk Sc v w H locs ls hI hR hl
      by_cases y17 : y = nI 17
      · refine lv_tableIn (off := 743) (tgt := 783) hx hb dL_law_40 (by rw [y17]; decide) (by rw [y17]; decide) (by rw [y17]; rfl) (by decide) ?_
        exact lc_joined hM hml hXs hbl hL hj hcr kk Sc v w H locs ls hI hR hl
      by_cases y18 : y = nI 18
      · refine lv_tableIn (off := 780) (tgt := 820) hx hb dL_law_40 (by rw [y18]; decide) (by rw [y18]; decide) (by rw [y18]; rfl) (by decide) ?_
        exact lc_look hM hml hXs hbl hL hj hcr kk Sc v w H locs ls hI hR hl
      by_cases y19 : y = nI 19
      · refine lv_tableIn (off := 833) (tgt := 873) hx hb dL_law_40 (by rw [y19]; decide) (by rw [y19]; decide) (by rw [y19]; rfl) (by decide) ?_
        exact lc_fits hM hml hXs hbl hL hj hcr kk Sc v w H locs ls hI hR hl
      by_cases y20 : y = nI 20
      · refine lv_tableIn (off := 846) (tgt := 886) hx hb dL_law_40 (by rw [y20]; decide) (by rw [y20]; decide) (by rw [y20]; rfl) (by decide) ?_
        exact lc_ask hM hml hXs hbl hL hj hcr kk Sc v w H locs ls hI hR hl
      by_cases y21 : y = nI 21
      · refine lv_tableIn (off := 859) (tgt := 899) hx hb dL_law_40 (by rw [y21]; decide) (by rw [y21]; decide) (by rw [y21]; rfl) (by decide) ?_
        exact lc_price hM hml hXs hbl hL hj hcr kk Sc v w H locs ls hI hR hl
      by_cases y22 : y = nI 22
      · refine lv_tableIn (off := 872) (tgt := 912) hx hb dL_law_40 (by rw [y22]; decide) (by rw [y22]; decide) (by rw [y22]; rfl) (by decide) ?_
        exact lc_painters hM hml hXs hbl hL hj hcr kk Sc v w H locs ls hI hR hl
      by_cases y23 : y = nI 23
      · refine lv_tableIn (off := 885) (tgt := 925) hx hb dL_law_40 (by rw [y23]; decide) (by rw [y23]; decide) (by rw [y23]; rfl) (by decide) ?_
        exact lc_painter hM hml hXs hbl hL hj hcr kk Sc v w H locs ls hI hR hl
      by_cases y24 : y = nI 24
      · refine lv_tableIn (off := 938) (tgt := 978) hx hb dL_law_40 (by rw [y24]; decide) (by rw [y24]; decide) (by rw [y24]; rfl) (by decide) ?_
        exact lc_knows hM hml hXs hbl hL hj hcr kk Sc v w H locs ls hI hR hl
      by_cases y25 : y = nI 25
      · refine lv_tableIn (off := 975) (tgt := 1015) hx hb dL_law_40 (by rw [y25]; decide) (by rw [y25]; decide) (by rw [y25]; rfl) (by decide) ?_
        exact lc_depth hM hml hXs hbl hL hj hcr kk Sc v w H locs ls hI hR hl
      by_cases y26 : y = nI 26
      · refine lv_tableIn (off := 1012) (tgt := 1052) hx hb dL_law_40 (by rw [y26]; decide) (by rw [y26]; decide) (by rw [y26]; rfl) (by decide) ?_
        exact lc_common hM hml hXs hbl hL hj hcr kk Sc v w H locs ls hI hR hl
      by_cases y27 : y = nI 27
      · refine lv_tableIn (off := 1037) (tgt := 1077) hx hb dL_law_40 (by rw [y27]; decide) (by rw [y27]; decide) (by rw [y27]; rfl) (by decide) ?_
        exact lc_rests hst hXZ hWX hM hml hXs hbl hL hj hcr kk Sc v w H locs ls hI hR hl
      by_cases y28 : y = nI 28
      · refine lv_tableIn (off := 1145) (tgt := 1185) hx hb dL_law_40 (by rw [y28]; decide) (by rw [y28]; decide) (by rw [y28]; rfl) (by decide) ?_
        exact lc_watch hM hml hXs hbl hL hj hcr kk Sc v w H locs ls hI hR hl
      by_cases y29 : y = nI 29
      · refine lv_tableIn (off := 1170) (tgt := 1210) hx hb dL_law_40 (by rw [y29]; decide) (by rw [y29]; decide) (by rw [y29]; rfl) (by decide) ?_
        exact lc_slips hM hml hXs hbl hL hj hcr kk Sc v w H locs ls hI hR hl
      by_cases y30 : y = nI 30
      · refine lv_tableIn (off := 1219) (tgt := 1259) hx hb dL_law_40 (by rw [y30]; decide) (by rw [y30]; decide) (by rw [y30]; rfl) (by decide) ?_
        exact lc_years hM hml hXs hbl hL hj hcr kk Sc v w H locs ls hI hR hl
      by_cases y31 : y = nI 31
      · refine lv_tableIn (off := 1268) (tgt := 1308) hx hb dL_law_40 (by rw [y31]; decide) (by rw [y31]; decide) (by rw [y31]; rfl) (by decide) ?_
        exact lc_mark hM hml hXs hbl hL hj hcr kk Sc v w H locs ls hI hR hl
      by_cases y32 : y = nI 32
      · refine lv_tableIn (off := 1321) (tgt := 1361) hx hb dL_law_40 (by rw [y32]; decide) (by rw [y32]; decide) (by rw [y32]; rfl) (by decide) ?_
        exact lc_count hM hml hXs hbl hL hj hcr kk Sc v w H locs ls hI hR hl
      refine lv_tableOut (tgt := 1386) hx hb dL_law_40 (sw_out (fun k h1 h2 hk => ?_)) (by decide) ?_
      · have hk0 : ∀ i : Nat, k = (i : Int) → i < 2147483648 → y = nI i := fun i hi hlt => by
          apply Int32.toInt_inj.mp
          rw [nI_toInt (by omega), hk, hi]
        obtain ⟨i, rfl⟩ : ∃ i : Nat, k = (i : Int) := ⟨k.toNat, by omega⟩
        have hy := hk0 i rfl (by omega)
        rcases (show i = 0 ∨ i = 1 ∨ i = 2 ∨ i = 3 ∨ i = 4 ∨ i = 5 ∨ i = 6 ∨ i = 7 ∨ i = 8 ∨ i = 9 ∨ i = 10 ∨ i = 11 ∨ i = 12 ∨ i = 13 ∨ i = 14 ∨ i = 15 ∨ i = 16 ∨ i = 17 ∨ i = 18 ∨ i = 19 ∨ i = 20 ∨ i = 21 ∨ i = 22 ∨ i = 23 ∨ i = 24 ∨ i = 25 ∨ i = 26 ∨ i = 27 ∨ i = 28 ∨ i = 29 ∨ i = 30 ∨ i = 31 ∨ i = 32 by omega) with rfl | rfl | rfl | rfl | rfl | rfl | rfl | rfl | rfl | rfl | rfl | rfl | rfl | rfl | rfl | rfl | rfl | rfl | rfl | rfl | rfl | rfl | rfl | rfl | rfl | rfl | rfl | rfl | rfl | rfl | rfl | rfl | rfl
        · exact absurd hy y0
        · exact absurd hy y1
        · exact absurd hy y2
        · exact absurd hy y3
        · exact absurd hy y4
        · exact absurd hy y5
        · exact absurd hy y6
        · exact absurd hy y7
        · exact absurd hy y8
        · exact absurd hy y9
        · exact absurd hy y10
        · exact absurd hy y11
        · exact absurd hy y12
        · exact absurd hy y13
        · exact absurd hy y14
        · exact absurd hy y15
        · exact absurd hy y16
        · exact absurd hy y17
        · exact absurd hy y18
        · exact absurd hy y19
        · exact absurd hy y20
        · exact absurd hy y21
        · exact absurd hy y22
        · exact absurd hy y23
        · exact absurd hy y24
        · exact absurd hy y25
        · exact absurd hy y26
        · exact absurd hy y27
        · exact absurd hy y28
        · exact absurd hy y29
        · exact absurd hy y30
        · exact absurd hy y31
        · exact absurd hy y32
      · exact W.widen (Nat.le_add_right _ _) (Nat.le_add_right _ _) (kk Sc v w H locs ls hI hR hl)
end LOOP
