/-! ===== the law's begin ===== -/
theorem BW.drop {G : GG} {S S' : ST} {H : Heap} (h : BW G S H) (hs : ∀ x, gC (S' x) ≠ 0 → S' x = S x) : BW G S' H := by
  have hx : ∀ a d, gC (S' a) = d + 1 → S' a = S a := fun a d ha => hs a (by omega)
  refine ⟨fun a d ha => ?_, fun a b d d' ha hb => h.2 a b d d' (by rw [← hx a d ha]; exact ha) (by rw [← hx b d' hb]; exact hb)⟩
  have e := hx a d ha
  rw [e] at ha ⊢
  exact h.1 a d ha
theorem RC_ext {p : Nat} {S S' : ST} {A : AP} (h : RC p S A) (e : ∀ x, p ≤ x → x < p + 230 → S' x = S x) (hin : ∀ x, gC (S x) ≠ 0 → p ≤ x ∧ x < p + 230) : RC p S' A := by
  obtain ⟨t, d, ln, dl, f, ⟨⟨a1, a2, a3, a4, a5, a6, a7, a8⟩, ⟨b1, b2, b3, b4, b5, b6⟩, c, m, ⟨r1, r2, r3, r4⟩, td, ll, g1, g2, g3, g4⟩, K1, ⟨q1, q2, q3, q4, q5, q6, q7, q8⟩, K3, K4, ⟨K5, K6, K7, K8⟩, ⟨K9, K10⟩, K11, K12⟩ := h
  have e0 := e p (by omega) (by omega)
  have e1 := e (p + 1) (by omega) (by omega)
  have e6 := e (p + 6) (by omega) (by omega)
  have e7 := e (p + 7) (by omega) (by omega)
  have e9 := e (p + 9) (by omega) (by omega)
  have et := e t (by omega) (by omega)
  have ed := e d (by omega) (by omega)
  have et8 := e (t + 8) (by omega) (by omega)
  have ed8 := e (d + 8) (by omega) (by omega)
  have el := e ln (by omega) (by omega)
  have edl := e dl (by omega) (by omega)
  have ep : ∀ i, i < 17 → S' (p + 83 + 7 * i) = S (p + 83 + 7 * i) := fun i hi => e _ (by omega) (by omega)
  have em : ∀ i, i < 4 → S' (p + 202 + 7 * i) = S (p + 202 + 7 * i) := fun i hi => e _ (by omega) (by omega)
  have hL : ∀ {r : Option Nat} {th : Nat} {f d : Int32 → Int32 → Int32 → Int32}, CL S r th f d → CL S' r th f d := by
    intro r th f d h
    rcases h with h | ⟨x, op, arg, fr, len, h1, h2, h3, h4⟩
    · exact Or.inl h
    · have hx := hin x (by rw [h2.1]; decide)
      exact Or.inr ⟨x, op, arg, fr, len, h1, by rw [e x hx.1 hx.2]; exact h2, h3, h4⟩
  refine ⟨t, d, ln, dl, f, ⟨⟨by rw [e0]; exact a1, by rw [e1]; exact a2, by rw [e9]; exact a3, by rw [e _ (by omega) (by omega)]; exact a4, by rw [e _ (by omega) (by omega)]; exact a5, by rw [e _ (by omega) (by omega)]; exact a6, by rw [e _ (by omega) (by omega)]; exact a7, by rw [e _ (by omega) (by omega)]; exact a8⟩, ⟨by rw [et]; exact b1, by rw [ed]; exact b2, by rw [et8]; exact b3, by rw [ed8]; exact b4, by rw [el]; exact b5, by rw [edl]; exact b6⟩, fun i hi => ⟨by rw [ep i hi]; exact (c i hi).1, by rw [e0]; exact (c i hi).2⟩, fun i hi => ⟨by rw [em i hi]; exact (m i hi).1, by rw [e0]; exact (m i hi).2⟩, ⟨by rw [e0]; exact r1, by rw [e0]; exact r2, by rw [e0]; exact r3, by rw [e0]; exact r4⟩, td, ll, by rw [e6]; exact g1, by rw [e6]; exact g2, by rw [e7]; exact g3, by rw [e7]; exact g4⟩, by rw [e9]; exact K1, ?_, by rw [et]; exact K3, by rw [et8]; exact K4, ⟨by rw [e0]; exact K5, K6, by rw [e0]; exact K7, fun i hi => by rw [ep _ (Nat.mod_lt _ (by decide))]; exact K8 i hi⟩, ⟨by rw [e0]; exact K9, fun i hi h1 => by rw [em i hi]; exact K10 i hi h1⟩, by rw [el]; exact K11, by rw [e1]; exact K12⟩
  rw [CG, et]
  exact ⟨q1, q2, q3, q4, q5, q6, hL q7, hL q8⟩
set_option maxHeartbeats 4000000 in
set_option maxRecDepth 100000 in
/-- from the entry, for every script of at most 3584 ints, the law comes to its end with true -/
theorem whole_start {p : Program} {e : Env} {s : State} {m : MethodId} {below : List Frame} {meth : Method} {c : Code} (l : Launch) (hst : l.stackTraces = false) {b L : Nat} {xs : Nat → Int32} (hL : L ≤ 3584) (C0 : lw_At p s m meth c b L xs) : W p l e room_1 s m #[Value.ref b] below meth c s.heap [] 0 0 (lw_Z below #[Value.ref b] s) (entryFrame m ([Value.ref b] : List Value).toArray 7) := by
  obtain ⟨hx, hb, hr, hml, hown, hts, hXs, hbl, hlocks, hgv⟩ := id C0
  have hb : c.code = cL_law := hb
  have hs : ∀ w ∈ flL, w.before #[Value.ref b] s = true := flat_of_before _ hgv
  obtain ⟨ad, hcw⟩ := st_CW hts hs
  obtain ⟨D, c9, hK⟩ := st_K hts ad
  obtain ⟨k1, k2, hXZ⟩ := st_XZ hts hs
  have hZ : ZW (Gz D (pickC c9 ad) s.heap.size) s := ⟨⟨⟨Nat.le_refl _, Nat.zero_le _⟩, (hcw D c9).2, va_AO.of (hts _ (by decide +kernel)), st_NW hts⟩, (hcw D c9).1⟩
  generalize pickC c9 ad = cA at hK hZ
  have hw : ∀ w ∈ cmL :: wsL_law0, w.before #[Value.ref b] s = true := fun w h => (List.mem_cons.mp h).elim (fun q => by rw [q]; exact hts _ (wsL_law_in0 _ it_RL)) (fun q => hts _ (wsL_law_in0 _ q))
  have hWX : ∀ w ∈ WX, w.before #[Value.ref b] s = true := fun w h => (List.mem_append.mp h).elim (fun q => hts _ (wsL_law_in0 _ q)) (fun q => hts _ (xw_in w q))
  have hM : MC (Gz D cA s.heap.size) p s m #[Value.ref b] c cL_law (cmL :: wsL_law0) RL := ⟨hx, hb, hown, hw, hK, hZ⟩
  have hl := lv_entry ([.ref b]) (n := 7) (Nat.le_of_ble_eq_true rfl)
  rw [lg_entry_eq]
  generalize (lg_sl ([.ref b]) ++ List.replicate (7 - (lg_sl ([.ref b])).length) Slot.unset).toArray = ls at hl ⊢
  have hl : lv_has ls 7 [(0, .ref b)] := hl
  have hW : WB (Gz D cA s.heap.size) (fun _ => blk 0) s s.heap [] := ⟨⟨fun a d h => absurd h (by show ¬ (0 : Nat) = d + 1; omega), fun a b d d' h => absurd h (by show ¬ (0 : Nat) = d + 1; omega)⟩, va_S.rf⟩
  refine m_new hM hW rfl 10 (by decide) rfl rfl wi_X12 tyX12 tyX12_ok (by decide +kernel) (wgm kc_RL_8) (wgm is_RX12) (wgm it_RX12) (Nat.le_of_ble_eq_true rfl) (Nat.le_of_ble_eq_true rfl) dL_law_0 (fun S1 e1 hk1 hg1 H hz hW => ?_)
  refine lv_dup hx hb dL_law_3 rfl ?_
  obtain ⟨z1, f1, hRC⟩ := i_X12 (fu := 1101) (G := Gz D cA s.heap.size) (S := S1) (a := s.heap.size) hg1
  refine n_init (np := 0) [] [.ref s.heap.size] hM hml hl.1 hW hz (c_X12_init l (Gz D cA s.heap.size) 1101 S1 s.heap.size f1) rfl cd_X12_init it_RX12 mk_RL_15 im_X12_init rfl rfl rfl (by decide +kernel) ⟨Nat.le_of_ble_eq_true rfl, Nat.le_of_ble_eq_true rfl⟩ rfl rfl (Nat.le_of_ble_eq_true rfl) ⟨Nat.le_of_ble_eq_true rfl, Nat.le_of_ble_eq_true rfl⟩ dL_law_4 (fun H locs hz hW => ?_)
  have hin : ∀ x, gC (z1 x) ≠ 0 → s.heap.size ≤ x ∧ x < s.heap.size + 230 := fun x hx => by
    have h1 := (hW.1.1 x (gC (z1 x) - 1) (by omega)).1 0 (Or.inl rfl)
    have h2 := hW.1.lt (b := x) (d := gC (z1 x) - 1) (by omega) (Or.inl rfl)
    exact ⟨h1.1, by omega⟩
  refine lv_astore_n (lv' := [(1, .ref s.heap.size), (0, .ref b)]) hx hb dL_law_7 rfl hl (by decide) rfl (fun ls hl => ?_)
  refine m_new hM hW hz 11 (by decide) rfl rfl wi_X13 tyX13 tyX13_ok (by decide +kernel) (wgm kc_RL_16) (wgm is_RX13) (wgm it_RX13) (Nat.le_of_ble_eq_true rfl) (Nat.le_of_ble_eq_true rfl) dL_law_8 (fun S2 e2 hk2 hg2 H hz hW => ?_)
  refine lv_dup hx hb dL_law_11 rfl ?_
  obtain ⟨z2, f2, hRM, hfr⟩ := i_X13 (fu := 1101) (G := Gz D cA s.heap.size) (S := S2) (a := s.heap.size + 230) (Nat.le_refl _) (by rw [e2, st_same])
  refine n_init (np := 0) [] [.ref (s.heap.size + 230)] hM hml hl.1 hW hz (c_X13_init l (Gz D cA s.heap.size) 1101 S2 (s.heap.size + 230) f2) rfl cd_X13_init it_RX13 mk_RL_18 im_X13_init rfl rfl rfl (by decide +kernel) ⟨Nat.le_of_ble_eq_true rfl, Nat.le_of_ble_eq_true rfl⟩ rfl rfl (Nat.le_of_ble_eq_true rfl) ⟨Nat.le_of_ble_eq_true rfl, Nat.le_of_ble_eq_true rfl⟩ dL_law_12 (fun H locs hz hW => ?_)
  refine lv_astore_n (lv' := [(2, .ref (s.heap.size + 230)), (1, .ref s.heap.size), (0, .ref b)]) hx hb dL_law_15 rfl hl (by decide) rfl (fun ls hl => ?_)
  refine lv_iconst (v := (1 : Int32)) hx hb dL_law_16 (by decide) ?_
  refine m_newa hM hW hz 2 (by decide) rfl (wgm wd_al) 1 (by decide) (by decide) (by decide) (Nat.le_of_ble_eq_true rfl) (Nat.le_of_ble_eq_true rfl) dL_law_17 (fun S3 e3 hk3 hg3 H hz hW => ?_)
  refine lv_astore_n (lv' := [(3, .ref (s.heap.size + 257)), (2, .ref (s.heap.size + 230)), (1, .ref s.heap.size), (0, .ref b)]) hx hb dL_law_19 rfl hl (by decide) rfl (fun ls hl => ?_)
  refine lv_iconst (v := (0 : Int32)) hx hb dL_law_20 (by decide) ?_
  refine lv_istore (lv' := [(4, .int (0 : Int32)), (3, .ref (s.heap.size + 257)), (2, .ref (s.heap.size + 230)), (1, .ref s.heap.size), (0, .ref b)]) hx hb dL_law_21 hl (by decide) rfl (fun ls hl => ?_)
  obtain ⟨Sc, eSc⟩ : ∃ y : ST, y = fun x => if s.heap.size ≤ x ∧ x < s.heap.size + 230 then z1 x else blk 0 := ⟨_, rfl⟩
  have s3 : ∀ x, s.heap.size ≤ x → x < s.heap.size + 230 → S3 x = z1 x := fun x h1 h2 => by
    rw [e3, st_ne _ _ (by omega), hfr x (Or.inl (by omega)), e2, st_ne _ _ (by omega)]
  have s3q : S3 (s.heap.size + 230) = z2 (s.heap.size + 230) := by rw [e3, st_ne _ _ (by omega)]
  have s3o : S3 (s.heap.size + 257) = barr 2 1 := by rw [e3]; exact st_same _ _ _
  have sc1 : ∀ x, s.heap.size ≤ x → x < s.heap.size + 230 → Sc x = z1 x := fun x h1 h2 => by rw [eSc]; exact if_pos ⟨h1, h2⟩
  have sc0 : ∀ x, s.heap.size + 230 ≤ x → gC (Sc x) = 0 := fun x h1 => by
    rw [eSc]
    show gC (if _ then _ else _) = 0
    rw [if_neg (by omega)]; rfl
  have hW' : WB (Gz D cA s.heap.size) (fullS s.heap.size Sc (z2 (s.heap.size + 230)) (barr 2 1)) s H locs := by
    refine ⟨hW.1.drop (fun x hx => ?_), hW.2⟩
    by_cases q1 : x = s.heap.size + 230
    · subst q1; rw [full_q, s3q]
    · by_cases q2 : x = s.heap.size + 257
      · subst q2; rw [full_o, s3o]
      · rw [full_n q1 q2] at hx ⊢
        by_cases q3 : s.heap.size ≤ x ∧ x < s.heap.size + 230
        · rw [sc1 x q3.1 q3.2, s3 x q3.1 q3.2]
        · exfalso
          apply hx
          rw [eSc]
          show gC (if _ then _ else _) = 0
          rw [if_neg q3]; rfl
  have hI : IV D cA s Sc (z2 (s.heap.size + 230)) (barr 2 1) H locs := IV.of hW' hRM.1 rfl rfl (fun x h1 _ => sc0 x h1)
  have hR : RR s.heap.size Sc (z2 (s.heap.size + 230)) := ⟨A00, okA_00, RC_ext hRC sc1 hin, hRM⟩
  refine W.widen (k := 258) (n := 18876) (by decide) (by decide) ?_
  exact law_loop hst hL C0 hM (hXZ D cA) hWX 513 0 rfl (Nat.zero_le _) Sc _ _ H locs ls hI hR (lv_sub hl [4, 3, 2, 1, 0] rfl)
set_option maxHeartbeats 4000000 in
theorem lw_walk (l : Launch) (hst : l.stackTraces = false) (b : Addr) (xs : List Int32) : MetFree l x (headSpec (Jvm.Cond.code x code maxLocals ret :: tables_1) room_1) (lw_P b xs) (fun _ _ _ _ _ => True) lw_Q := by
  refine MetFree.of_bodyS (code := code) (maxLocals := maxLocals) (ret := ret) (by decide) ?_ ?_
  · intro args s m h hn
    obtain ⟨meth, c, h1, h2, h3, h4, h5, h6, -, -⟩ := Cond.code_spec hn (atoms_spec (ws := Jvm.Cond.code x code maxLocals ret :: tables_1) h _ List.mem_cons_self)
    exact ⟨meth, c, h1, h2, h3, h4, h5, h6⟩
  · intro p e s m args below meth c s₁ B hml0 hP _
    obtain ⟨rfl, hx, hbd, hgv⟩ := hP
    obtain ⟨scr, harrAt, hlist, hof, hsmall⟩ := hx
    obtain ⟨hcb, hkn, -, -⟩ := State.arrayAt?_spec harrAt
    have hown : s.vm.findClass R_law = some m.cls := findClass_of_methodNamed B.named
    have hts0 : ∀ c ∈ (Jvm.Cond.code x code maxLocals ret :: tables_1), c.before #[Value.ref b] s = true := atoms_spec (ws := Jvm.Cond.code x code maxLocals ret :: tables_1) B.pre
    have hts : ∀ w ∈ lw_tbl, w.before #[Value.ref b] s = true := k2_hts_sels lw_privs (fun w hw => hts0 w (List.mem_cons_of_mem _ hw)) lw_privs_ok
    have hml : c.maxLocals = 7 := B.maxLocals_eq (hts0 _ List.mem_cons_self)
    have X₀ : Stand p l e room_1 s m #[Value.ref b] below meth c s₁ [] 0 0 := Stand.of_body B
    have hh0 : s₁.heap = s.heap := by rw [B.state]; rfl
    have hsz : scr.slots.size = xs.length := by rw [← Array.length_toList, hlist, List.length_map]
    have hval : ∀ j : Nat, j < xs.length → scr.slots[j]? = some (.int (xs.getD j 0)) := fun j hj => by
      rw [← Array.getElem?_toList, hlist]
      simp [hj]
    have hbl : b < s.heap.size := (Array.getElem?_eq_some_iff.mp hcb).1
    have hX : va_X b xs.length (fun j => xs.getD j 0) s s.heap := ⟨scr, hcb, hof, hkn, hsz, hval⟩
    have K : W p l e room_1 s m #[Value.ref b] below meth c s₁.heap [] 0 0 (lw_Z below #[Value.ref b] s) (entryFrame m ([Value.ref b] : List Value).toArray 7) := by
      rw [hh0]
      exact whole_start l hst hbd ⟨B.exec, B.bytes, B.returns, hml, hown, hts, hX, hbl, B.notSynchronized, hgv⟩
    obtain ⟨t, a1, o, b1, b2, b3⟩ := K s₁ rfl X₀
    exact ⟨t, o, a1, b1, b2, b3⟩
theorem lw_pre_spec {args : Array Value} {s : State} (h : (Jvm.Cond.and given_1 narrow_1).before args s = true) (hr : rest_1_c.before args s = true) : ∃ (b : Addr) (xs : List Int32), lw_P b xs args s := by
  have hs := flat_of_before _ h
  have hq := flat_of_before _ hr
  have hc : (Cond.count 1).before args s = true := hs _ (by decide +kernel)
  have harr : (Cond.arrayOf (.arg 0) .int).before args s = true := hs _ (by decide +kernel)
  have hle : (Cond.le (.length (.arg 0)) (.int 3584)).before args s = true := hs _ (by decide +kernel)
  have hlen : (Cond.isInt (.length (.arg 0))).before args s = true := hq _ (by decide +kernel)
  have hall : (Cond.all (.arg 0) (.isInt (.elem (.arg 0) (.index 0)))).before args s = true := hq _ (by decide +kernel)
  obtain ⟨b, xs, hb, hx⟩ := State.ints_of_pre rfl harr hlen hall
  have hsm : xs.length < 2 ^ 31 := hx.choose_spec.2.2.2
  have hev : (Term.length (.arg 0)).eval args s none [] s = some (.int xs.length.toInt32) := hx.length_eval hb
  have hv := Cond.le_ints hev (show (Term.int 3584).eval args s none [] s = some (.int 3584) from rfl)
  have hd : xs.length.toInt32 ≤ 3584 := by
    simpa [Cond.before, Cond.holds, hv] using hle
  have hN : xs.length ≤ 3584 := (Int32.ofNat_le_ofNat hsm (by decide)).mp (show Int32.ofNat xs.length ≤ Int32.ofNat 3584 from hd)
  exact ⟨b, xs, Cond.one_arg hc (show args[0]? = some (.ref b) from hb), hx, hN, h⟩
theorem lw_comes (l : Launch) (hst : l.stackTraces = false) : Comes l x (Jvm.Cond.code x code maxLocals ret :: tables_1) room_1 (fun tb e args s => Calls_1 tb e args s ∧ rest_1 tb e args s ∧ Pre_1 tb e args s)
    (fun _ _ args s o t => lw_Q args s o t) := by
  intro p e ha hc hk s m args below hf hfit hheap happ hpre
  obtain ⟨b, xs, hP⟩ := lw_pre_spec hpre.2.2 hpre.2.1
  obtain ⟨k, o, h1, h2, h3, hQ⟩ := lw_walk l hst b xs p e ha hc hk s m args below hf ((Spec.applies_iff_loose hf).mp happ).1 hP trivial
  exact ⟨k, o, h1, h2, h3, hQ⟩
theorem lw_frame {s t : State} {o : Outcome} {args : Array Value} (h : Framed s o t [] 601024 7293034) :
    Framed s o t (fieldLocs frame_1_writes args s ++ arrayLocs frame_1_arrays args s ++ staticLocs frame_1_statics s) 601024 7293034 := h
theorem lw_limb (L : Cond) (hL : ∀ (args : Array Value) (s t : State), L.after args s (.returned (some (.int 1))) t = true) :
    ArmFor flags0 classFile x code maxLocals ret World_1 tables_1 room_1 Calls_1 rest_1 Pre_1
      (fun tb e a s o t => postC L tb e a s o t ∧ Framed s o t (fieldLocs frame_1_writes a s ++ arrayLocs frame_1_arrays a s ++ staticLocs frame_1_statics s) 601024 7293034) := by
  intro l hfl _ _ p e ha hc hk s m args below hf hfit hheap happ hpre
  have hst : l.stackTraces = false := by unfold Launch.stackTraces; rw [hfl]; decide
  obtain ⟨k, o, h1, h2, h3, rfl, hF⟩ := lw_comes l hst p e ha hc hk s m args below hf hfit hheap happ hpre
  exact ⟨k, _, h1, h2, h3, hL args s _, lw_frame hF⟩
