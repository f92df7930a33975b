/-! ===== PanelCopies.gallery ===== -/
/-- an end that says nothing of the heap's size -/
def Qg (G : GG) (o : Option Value) (S' : ST) : Array Value → State → Outcome → State → Prop := fun _ st oc t => oc = .returned o ∧ BW G S' t.heap ∧ va_F (OU G) st t
abbrev RM_X12_gallery : Room := { frames := 50, cells := 9, slots := 3102, locals := 1123 }
abbrev w_X12_gallery : List Cond := Cond.code yX12_gallery cX12_gallery 3 (some .int) :: wsL_law0
noncomputable def f_X12_gallery (fu : Nat) (G : GG) (S : ST) (a n : Nat) : Option (Int32 × ST) :=
  ck (decide (gC (S (a + 6)) = 2)) <|
  bd (gR (S a) 13) fun dr =>
  ck (decide (gC (S dr) = 1)) <|
  bd2 (f_X2_read fu G S (a + 6) dr n) fun r q =>
  nm q.1 fun S1 =>
  if r = 0 then
    (ck (decide (gC (S1 a) = 11)) <|
    bd (gR (S1 a) 12) fun tl =>
    bd (gR (S1 a) 13) fun d2 =>
    nm (st S1 a (sR (S1 a) 12 (some d2))) fun S2 =>
    nm (st S2 a (sR (S2 a) 13 (some tl))) fun S3 =>
    bd (f_X12_startAnew fu S3 a) fun S4 =>
    some (r, S4))
  else some (r, S1)
set_option maxHeartbeats 4000000 in
set_option maxRecDepth 100000 in
theorem c_X12_gallery (l : Launch) (G : GG) (fu : Nat) (S : ST) (a n : Nat) {z : Int32} {S' : ST} (ha : gC (S a) = 11) (hf : f_X12_gallery fu G S a n = some (z, S')) : Met l yX12_gallery w_X12_gallery RM_X12_gallery (Pn G S n [.ref a]) (Qg G (some (.int z)) S') 9 3102 (OU G) := by
  refine Met.ofW (cc := cX12_gallery) (maxL := 3) (ret := (some .int)) (by decide) rfl ?_
  intro p e s m args below meth c s₁ B hml hv
  obtain ⟨rfl, hB, hK, hzw, hz0⟩ := hv
  have hM : MC G p s m _ c cX12_gallery w_X12_gallery RX12 := ⟨B.exec, B.bytes, findClass_of_methodNamed B.named, atoms_spec (ws := w_X12_gallery) B.pre, hK, hzw⟩
  have hW : WB G S s s.heap [] := ⟨hB, va_S.rf⟩
  have hl := lv_entry ([.ref a]) (n := 3) (Nat.le_of_ble_eq_true rfl)
  rw [lg_entry_eq]
  generalize (lg_sl ([.ref a]) ++ List.replicate (3 - (lg_sl ([.ref a])).length) Slot.unset).toArray = ls at hl ⊢
  have hl : lv_has ls 3 [(0, .ref a)] := hl
  have hx := hM.1
  have hb := hM.2.1
  unfold f_X12_gallery at hf
  obtain ⟨h1, hf⟩ := ck_elim hf
  have h1 := of_decide_eq_true h1
  obtain ⟨dr, hdr, hf⟩ := bd_elim hf
  obtain ⟨h2, hf⟩ := ck_elim hf
  have h2 := of_decide_eq_true h2
  obtain ⟨r, q, hr1, hf⟩ := bd2_elim hf
  refine lv_aload_n hx hb dX12_gallery_0 rfl (lv_at hl 0 rfl) ?_
  refine b_get hM (hW.at_ a) 10 1 ha rfl rfl (by decide) wi_X12 (wgm fk_RX12_21) (x := .ref (a + 6)) rfl dX12_gallery_1 ?_
  refine lv_aload_n hx hb dX12_gallery_4 rfl (lv_at hl 0 rfl) ?_
  refine b_get hM (hW.at_ a) 10 13 ha rfl rfl (by decide) wi_X12 (wgm fk_RX12_80) (x := .ref dr) (by show va_rf _ = _; rw [hdr]; rfl) dX12_gallery_5 ?_
  refine n_callV (np := 1) [.ref dr] [] hM hml hl.1 hW hz0 h1 rfl (by decide) (c_X2_read l G fu _ (a + 6) dr n (S' := q.1) (j' := q.2) h1 h2 hr1) (cwV 1 hM.2.2.2.1 (gV mk_RX12_110 im_X2_read se_X2_read it_RX2 cd_X2_read) rfl rfl rfl (by decide +kernel) ⟨Nat.le_of_ble_eq_true rfl, Nat.le_of_ble_eq_true rfl⟩) rfl rfl (Nat.le_of_ble_eq_true rfl) ⟨Nat.le_of_ble_eq_true rfl, Nat.le_of_ble_eq_true rfl⟩ dX12_gallery_8 (fun H locs hz hW => ?_)
  refine W.eq (g2 := F0 m 11 ls [.int r]) rfl ?_
  obtain ⟨S1, e1⟩ : ∃ y : ST, y = q.1 := ⟨_, rfl⟩
  rw [← e1] at hW
  have hf := nm_at e1 hf
  refine lv_istore_n (lv' := [(1, .int r), (0, .ref a)]) hx hb dX12_gallery_11 rfl hl (by decide) rfl (fun ls hl => ?_)
  refine lv_iload_n hx hb dX12_gallery_12 rfl (lv_at hl 0 rfl) ?_
  refine lv_if_ne (tgt := 38) hx hb dX12_gallery_13 (by decide) (fun c1 => ?_) (fun c1 => ?_)
  · have hf := if_f c1 hf
    refine lv_iload_n hx hb dX12_gallery_38 rfl (lv_at hl 0 rfl) ?_
    cases hf
    exact W.iret hx hb B.returns (fun t ht _ => ⟨rfl, by rw [ht]; exact hW.1, hW.2.F ht⟩) hW.2.2.2 dX12_gallery_39 B.notSynchronized
  · have hf := if_t c1 hf
    obtain ⟨h3, hf⟩ := ck_elim hf
    have ha := of_decide_eq_true h3
    obtain ⟨tl, htl, hf⟩ := bd_elim hf
    obtain ⟨d2, hd2, hf⟩ := bd_elim hf
    refine lv_aload_n hx hb dX12_gallery_16 rfl (lv_at hl 1 rfl) ?_
    refine b_get hM (hW.at_ a) 10 12 ha rfl rfl (by decide) wi_X12 (wgm fk_RX12_76) (x := .ref tl) (by show va_rf _ = _; rw [htl]; rfl) dX12_gallery_17 ?_
    refine lv_astore_n (lv' := [(2, .ref tl), (1, .int r), (0, .ref a)]) hx hb dX12_gallery_20 rfl hl (by decide) rfl (fun ls hl => ?_)
    refine lv_aload_n hx hb dX12_gallery_21 rfl (lv_at hl 2 rfl) ?_
    refine lv_aload_n hx hb dX12_gallery_22 rfl (lv_at hl 2 rfl) ?_
    refine b_get hM (hW.at_ a) 10 13 ha rfl rfl (by decide) wi_X12 (wgm fk_RX12_80) (x := .ref d2) (by show va_rf _ = _; rw [hd2]; rfl) dX12_gallery_23 ?_
    refine s_putR hM hW 10 12 ha rfl rfl (by decide) wi_X12 tyX12 tyX12_ok nmX12 (wgm fk_RX12_76) rfl rfl _ rfl (some d2) rfl dX12_gallery_26 (fun S2 e2 hk H locs hW => ?_)
    have hf := nm_at e2 hf
    have ha := keep1 hk ha
    refine lv_aload_n hx hb dX12_gallery_29 rfl (lv_at hl 2 rfl) ?_
    refine lv_aload_n hx hb dX12_gallery_30 rfl (lv_at hl 0 rfl) ?_
    refine s_putR hM hW 10 13 ha rfl rfl (by decide) wi_X12 tyX12 tyX12_ok nmX12 (wgm fk_RX12_80) rfl rfl _ rfl (some tl) rfl dX12_gallery_31 (fun S3 e3 hk H locs hW => ?_)
    have hf := nm_at e3 hf
    have ha := keep1 hk ha
    obtain ⟨S4, hr4, hf⟩ := bd_elim hf
    refine lv_aload_n hx hb dX12_gallery_34 rfl (lv_at hl 2 rfl) ?_
    refine s_callVv [] [] hM hml hl.1 hW ha rfl (by decide) (c_X12_startAnew l G fu _ a ha hr4) (cwV 0 hM.2.2.2.1 (gV mk_RX12_114 im_X12_startAnew se_X12_startAnew it_RX12 cd_X12_startAnew) rfl rfl rfl (by decide +kernel) ⟨Nat.le_of_ble_eq_true rfl, Nat.le_of_ble_eq_true rfl⟩) rfl rfl (Nat.le_of_ble_eq_true rfl) ⟨Nat.le_of_ble_eq_true rfl, Nat.le_of_ble_eq_true rfl⟩ dX12_gallery_35 (fun H locs hW hk => ?_)
    refine lv_iload_n hx hb dX12_gallery_38 rfl (lv_at hl 1 rfl) ?_
    cases hf
    exact W.iret hx hb B.returns (fun t ht _ => ⟨rfl, by rw [ht]; exact hW.1, hW.2.F ht⟩) hW.2.2.2 dX12_gallery_39 B.notSynchronized
