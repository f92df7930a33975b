section LCASE2
variable {D : va_G} {cA : Nat → ClassId} {p : Program} {l : Launch} {e : Env} {s : State} {m : MethodId} {args : Array Value} {below : List Frame} {meth : Method} {c : Code} {cells slots b L j : Nat} {xs : Nat → Int32} {Q : State → Prop}
set_option maxHeartbeats 4000000 in
set_option maxRecDepth 100000 in
theorem lc_meet (hM : MC (Gz D cA s.heap.size) p s m args c cL_law (cmL :: wsL_law0) RL) (hml : c.maxLocals = 7) (hXs : va_X b L xs s s.heap) (hbl : b < s.heap.size) (hL : L ≤ 3584) (hj : 7 * j + 7 ≤ L) (hcr : cells + 9 ≤ 601024 ∧ slots + 3102 ≤ 7293034) (kk : ∀ (Sc : ST) (v w : GV) (H : Heap) (locs : List Loc) (ls : Array Slot), IV D cA s Sc v w H locs → RR s.heap.size Sc v → lv_has ls 7 [(0, .ref b), (1, .ref s.heap.size), (2, .ref (s.heap.size + 230)), (3, .ref (s.heap.size + 257)), (4, .int (nI (7 * j)))] → W p l e room_1 s m args below meth c H locs (cells + 9) (slots + 3102) Q (F0 m 1386 ls [])) : ∀ (Sc : ST) (v w : GV) (H : Heap) (locs : List Loc) (ls : Array Slot), IV D cA s Sc v w H locs → RR s.heap.size Sc v → lv_has ls 7 [(0, .ref b), (1, .ref s.heap.size), (2, .ref (s.heap.size + 230)), (3, .ref (s.heap.size + 257)), (4, .int (nI (7 * j)))] → W p l e room_1 s m args below meth c H locs cells slots Q (F0 m 758 ls []) := by
  intro Sc v w H locs ls hI hR hl
  have hx := hM.1
  have hb := hM.2.1
  have hbA : ¬ OU (Gz D cA s.heap.size) b := fun q => absurd q.1 (Nat.not_le.mpr hbl)
  have hcv := RR_m hR
  have hcc := RR_c hR
  refine lv_aload_n hx hb dL_law_758 rfl (lv_at hl 1 rfl) ?_
  refine lv_aload_n hx hb dL_law_759 rfl (lv_at hl 0 rfl) ?_
  refine lv_iload hx hb dL_law_760 (lv_at hl 4 rfl) ?_
  refine lv_iconst (v := (1 : Int32)) hx hb dL_law_762 (by decide) ?_
  refine lv_iadd hx hb dL_law_763 ?_
  refine va_sld hx hb hXs hbl hbA hI.2.2.2.1 (sin (k := 1) hL hj rfl (by decide)) dL_law_764 ?_
  obtain ⟨z, v', r1, r2, hR'⟩ := r_meet (fu := 1101) (Nat.le_refl _) hR (xs (nI (7 * j) + (1 : Int32)).toNatClampNeg)
  refine L_cls [.int (xs (nI (7 * j) + (1 : Int32)).toNatClampNeg)] [] hM hml hl.1 hI hcc (c_X12_meet l _ 1101 Sc s.heap.size _ hcc r1) (cwV 1 hM.2.2.2.1 (gV mk_RL_92 im_X12_meet se_X12_meet it_RX12 cd_X12_meet) rfl rfl rfl (by decide +kernel) ⟨Nat.le_of_ble_eq_true rfl, Nat.le_of_ble_eq_true rfl⟩) rfl rfl (Nat.zero_le _) ⟨by show cells ≤ 601024; omega, by show slots ≤ 7293034; omega⟩ dL_law_765 (fun H locs hI => ?_)
  refine lv_aload_n hx hb dL_law_768 rfl (lv_at hl 2 rfl) ?_
  refine lv_aload_n hx hb dL_law_769 rfl (lv_at hl 0 rfl) ?_
  refine lv_iload hx hb dL_law_770 (lv_at hl 4 rfl) ?_
  refine lv_iconst (v := (1 : Int32)) hx hb dL_law_772 (by decide) ?_
  refine lv_iadd hx hb dL_law_773 ?_
  refine va_sld hx hb hXs hbl hbA hI.2.2.2.1 (sin (k := 1) hL hj rfl (by decide)) dL_law_774 ?_
  refine L_mod [.int (xs (nI (7 * j) + (1 : Int32)).toNatClampNeg)] [.int z] hM hml hl.1 hI (c_X13_meet l _ 1101 _ _ v _ hcv r2) (RR_m hR') (cwV 1 hM.2.2.2.1 (gV mk_RL_95 im_X13_meet se_X13_meet it_RX13 cd_X13_meet) rfl rfl rfl (by decide +kernel) ⟨Nat.le_of_ble_eq_true rfl, Nat.le_of_ble_eq_true rfl⟩) rfl rfl (Nat.le_of_ble_eq_true rfl) ⟨by show cells ≤ 601024; omega, by show slots ≤ 7293034; omega⟩ dL_law_775 (fun H locs hI => ?_)
  refine lv_icmp_eq (tgt := 1386) hx hb dL_law_778 (by decide) (fun _ => ?_) (fun c9 => absurd rfl c9)
  exact W.widen (Nat.le_add_right _ _) (Nat.le_add_right _ _) (kk _ _ _ _ _ _ hI hR' hl)
set_option maxHeartbeats 4000000 in
set_option maxRecDepth 100000 in
theorem lc_joined (hM : MC (Gz D cA s.heap.size) p s m args c cL_law (cmL :: wsL_law0) RL) (hml : c.maxLocals = 7) (hXs : va_X b L xs s s.heap) (hbl : b < s.heap.size) (hL : L ≤ 3584) (hj : 7 * j + 7 ≤ L) (hcr : cells + 9 ≤ 601024 ∧ slots + 3102 ≤ 7293034) (kk : ∀ (Sc : ST) (v w : GV) (H : Heap) (locs : List Loc) (ls : Array Slot), IV D cA s Sc v w H locs → RR s.heap.size Sc v → lv_has ls 7 [(0, .ref b), (1, .ref s.heap.size), (2, .ref (s.heap.size + 230)), (3, .ref (s.heap.size + 257)), (4, .int (nI (7 * j)))] → W p l e room_1 s m args below meth c H locs (cells + 9) (slots + 3102) Q (F0 m 1386 ls [])) : ∀ (Sc : ST) (v w : GV) (H : Heap) (locs : List Loc) (ls : Array Slot), IV D cA s Sc v w H locs → RR s.heap.size Sc v → lv_has ls 7 [(0, .ref b), (1, .ref s.heap.size), (2, .ref (s.heap.size + 230)), (3, .ref (s.heap.size + 257)), (4, .int (nI (7 * j)))] → W p l e room_1 s m args below meth c H locs cells slots Q (F0 m 783 ls []) := by
  intro Sc v w H locs ls hI hR hl
  have hx := hM.1
  have hb := hM.2.1
  have hbA : ¬ OU (Gz D cA s.heap.size) b := fun q => absurd q.1 (Nat.not_le.mpr hbl)
  have hcv := RR_m hR
  have hcc := RR_c hR
  refine lv_aload_n hx hb dL_law_783 rfl (lv_at hl 1 rfl) ?_
  refine lv_aload_n hx hb dL_law_784 rfl (lv_at hl 0 rfl) ?_
  refine lv_iload hx hb dL_law_785 (lv_at hl 4 rfl) ?_
  refine lv_iconst (v := (1 : Int32)) hx hb dL_law_787 (by decide) ?_
  refine lv_iadd hx hb dL_law_788 ?_
  refine va_sld hx hb hXs hbl hbA hI.2.2.2.1 (sin (k := 1) hL hj rfl (by decide)) dL_law_789 ?_
  refine lv_aload_n hx hb dL_law_790 rfl (lv_at hl 0 rfl) ?_
  refine lv_iload hx hb dL_law_791 (lv_at hl 4 rfl) ?_
  refine lv_iconst (v := (2 : Int32)) hx hb dL_law_793 (by decide) ?_
  refine lv_iadd hx hb dL_law_794 ?_
  refine va_sld hx hb hXs hbl hbA hI.2.2.2.1 (sin (k := 2) hL hj rfl (by decide)) dL_law_795 ?_
  obtain ⟨z, v', r1, r2, hR'⟩ := r_joined (fu := 1101) (Nat.le_refl _) hR (xs (nI (7 * j) + (1 : Int32)).toNatClampNeg) (xs (nI (7 * j) + (2 : Int32)).toNatClampNeg)
  refine L_cls [.int (xs (nI (7 * j) + (1 : Int32)).toNatClampNeg), .int (xs (nI (7 * j) + (2 : Int32)).toNatClampNeg)] [] hM hml hl.1 hI hcc (c_X12_joined l _ 1101 Sc s.heap.size _ _ hcc r1) (cwV 2 hM.2.2.2.1 (gV mk_RL_96 im_X12_joined se_X12_joined it_RX12 cd_X12_joined) rfl rfl rfl (by decide +kernel) ⟨Nat.le_of_ble_eq_true rfl, Nat.le_of_ble_eq_true rfl⟩) rfl rfl (Nat.zero_le _) ⟨by show cells ≤ 601024; omega, by show slots ≤ 7293034; omega⟩ dL_law_796 (fun H locs hI => ?_)
  refine lv_aload_n hx hb dL_law_799 rfl (lv_at hl 2 rfl) ?_
  refine lv_aload_n hx hb dL_law_800 rfl (lv_at hl 0 rfl) ?_
  refine lv_iload hx hb dL_law_801 (lv_at hl 4 rfl) ?_
  refine lv_iconst (v := (1 : Int32)) hx hb dL_law_803 (by decide) ?_
  refine lv_iadd hx hb dL_law_804 ?_
  refine va_sld hx hb hXs hbl hbA hI.2.2.2.1 (sin (k := 1) hL hj rfl (by decide)) dL_law_805 ?_
  refine lv_aload_n hx hb dL_law_806 rfl (lv_at hl 0 rfl) ?_
  refine lv_iload hx hb dL_law_807 (lv_at hl 4 rfl) ?_
  refine lv_iconst (v := (2 : Int32)) hx hb dL_law_809 (by decide) ?_
  refine lv_iadd hx hb dL_law_810 ?_
  refine va_sld hx hb hXs hbl hbA hI.2.2.2.1 (sin (k := 2) hL hj rfl (by decide)) dL_law_811 ?_
  refine L_mod [.int (xs (nI (7 * j) + (1 : Int32)).toNatClampNeg), .int (xs (nI (7 * j) + (2 : Int32)).toNatClampNeg)] [.int z] hM hml hl.1 hI (c_X13_joined l _ 1101 _ _ v _ _ hcv r2) (RR_m hR') (cwV 2 hM.2.2.2.1 (gV mk_RL_99 im_X13_joined se_X13_joined it_RX13 cd_X13_joined) rfl rfl rfl (by decide +kernel) ⟨Nat.le_of_ble_eq_true rfl, Nat.le_of_ble_eq_true rfl⟩) rfl rfl (Nat.le_of_ble_eq_true rfl) ⟨by show cells ≤ 601024; omega, by show slots ≤ 7293034; omega⟩ dL_law_812 (fun H locs hI => ?_)
  refine lv_icmp_eq (tgt := 1386) hx hb dL_law_815 (by decide) (fun _ => ?_) (fun c9 => absurd rfl c9)
  exact W.widen (Nat.le_add_right _ _) (Nat.le_add_right _ _) (kk _ _ _ _ _ _ hI hR' hl)
set_option maxHeartbeats 4000000 in
set_option maxRecDepth 100000 in
theorem lc_look (hM : MC (Gz D cA s.heap.size) p s m args c cL_law (cmL :: wsL_law0) RL) (hml : c.maxLocals = 7) (hXs : va_X b L xs s s.heap) (hbl : b < s.heap.size) (hL : L ≤ 3584) (hj : 7 * j + 7 ≤ L) (hcr : cells + 9 ≤ 601024 ∧ slots + 3102 ≤ 7293034) (kk : ∀ (Sc : ST) (v w : GV) (H : Heap) (locs : List Loc) (ls : Array Slot), IV D cA s Sc v w H locs → RR s.heap.size Sc v → lv_has ls 7 [(0, .ref b), (1, .ref s.heap.size), (2, .ref (s.heap.size + 230)), (3, .ref (s.heap.size + 257)), (4, .int (nI (7 * j)))] → W p l e room_1 s m args below meth c H locs (cells + 9) (slots + 3102) Q (F0 m 1386 ls [])) : ∀ (Sc : ST) (v w : GV) (H : Heap) (locs : List Loc) (ls : Array Slot), IV D cA s Sc v w H locs → RR s.heap.size Sc v → lv_has ls 7 [(0, .ref b), (1, .ref s.heap.size), (2, .ref (s.heap.size + 230)), (3, .ref (s.heap.size + 257)), (4, .int (nI (7 * j)))] → W p l e room_1 s m args below meth c H locs cells slots Q (F0 m 820 ls []) := by
  intro Sc v w H locs ls hI hR hl
  have hx := hM.1
  have hb := hM.2.1
  have hbA : ¬ OU (Gz D cA s.heap.size) b := fun q => absurd q.1 (Nat.not_le.mpr hbl)
  have hcv := RR_m hR
  have hcc := RR_c hR
  refine lv_aload_n hx hb dL_law_820 rfl (lv_at hl 1 rfl) ?_
  refine lv_aload_n hx hb dL_law_821 rfl (lv_at hl 0 rfl) ?_
  refine lv_iload hx hb dL_law_822 (lv_at hl 4 rfl) ?_
  refine lv_iconst (v := (1 : Int32)) hx hb dL_law_824 (by decide) ?_
  refine lv_iadd hx hb dL_law_825 ?_
  refine va_sld hx hb hXs hbl hbA hI.2.2.2.1 (sin (k := 1) hL hj rfl (by decide)) dL_law_826 ?_
  refine lv_aload_n hx hb dL_law_827 rfl (lv_at hl 0 rfl) ?_
  refine lv_iload hx hb dL_law_828 (lv_at hl 4 rfl) ?_
  refine lv_iconst (v := (2 : Int32)) hx hb dL_law_830 (by decide) ?_
  refine lv_iadd hx hb dL_law_831 ?_
  refine va_sld hx hb hXs hbl hbA hI.2.2.2.1 (sin (k := 2) hL hj rfl (by decide)) dL_law_832 ?_
  refine lv_if_eq (tgt := 840) hx hb dL_law_833 (by decide) (fun c0 => ?_) (fun c0 => ?_)
  · refine lv_iconst (v := (0 : Int32)) hx hb dL_law_840 (by decide) ?_
    obtain ⟨z, Sc', v', r1, r2, hR'⟩ := r_look (fu := 1101) (Nat.le_refl _) hR (xs (nI (7 * j) + (1 : Int32)).toNatClampNeg) (0 : Int32)
    refine L_cls [.int (xs (nI (7 * j) + (1 : Int32)).toNatClampNeg), .int (0 : Int32)] [] hM hml hl.1 hI hcc (c_X12_look l _ 1101 Sc s.heap.size _ _ hcc r1) (cwV 2 hM.2.2.2.1 (gV mk_RL_100 im_X12_look se_X12_look it_RX12 cd_X12_look) rfl rfl rfl (by decide +kernel) ⟨Nat.le_of_ble_eq_true rfl, Nat.le_of_ble_eq_true rfl⟩) rfl rfl (Nat.zero_le _) ⟨by show cells ≤ 601024; omega, by show slots ≤ 7293034; omega⟩ dL_law_841 (fun H locs hI => ?_)
    refine lv_aload_n hx hb dL_law_844 rfl (lv_at hl 2 rfl) ?_
    refine lv_aload_n hx hb dL_law_845 rfl (lv_at hl 0 rfl) ?_
    refine lv_iload hx hb dL_law_846 (lv_at hl 4 rfl) ?_
    refine lv_iconst (v := (1 : Int32)) hx hb dL_law_848 (by decide) ?_
    refine lv_iadd hx hb dL_law_849 ?_
    refine va_sld hx hb hXs hbl hbA hI.2.2.2.1 (sin (k := 1) hL hj rfl (by decide)) dL_law_850 ?_
    refine lv_aload_n hx hb dL_law_851 rfl (lv_at hl 0 rfl) ?_
    refine lv_iload hx hb dL_law_852 (lv_at hl 4 rfl) ?_
    refine lv_iconst (v := (2 : Int32)) hx hb dL_law_854 (by decide) ?_
    refine lv_iadd hx hb dL_law_855 ?_
    refine va_sld hx hb hXs hbl hbA hI.2.2.2.1 (sin (k := 2) hL hj rfl (by decide)) dL_law_856 ?_
    refine lv_if_eq (tgt := 864) hx hb dL_law_857 (by decide) (fun c1 => ?_) (fun c1 => ?_)
    rotate_left
    · exact absurd c0 c1
    refine lv_iconst (v := (0 : Int32)) hx hb dL_law_864 (by decide) ?_
    refine L_mod [.int (xs (nI (7 * j) + (1 : Int32)).toNatClampNeg), .int (0 : Int32)] [.int z] hM hml hl.1 hI (c_X13_look l _ 1101 _ _ v _ _ hcv r2) (RR_m hR') (cwV 2 hM.2.2.2.1 (gV mk_RL_104 im_X13_look se_X13_look it_RX13 cd_X13_look) rfl rfl rfl (by decide +kernel) ⟨Nat.le_of_ble_eq_true rfl, Nat.le_of_ble_eq_true rfl⟩) rfl rfl (Nat.le_of_ble_eq_true rfl) ⟨by show cells ≤ 601024; omega, by show slots ≤ 7293034; omega⟩ dL_law_865 (fun H locs hI => ?_)
    refine lv_icmp_eq (tgt := 1386) hx hb dL_law_868 (by decide) (fun _ => ?_) (fun c9 => absurd rfl c9)
    exact W.widen (Nat.le_add_right _ _) (Nat.le_add_right _ _) (kk _ _ _ _ _ _ hI hR' hl)
  · refine lv_iconst (v := (1 : Int32)) hx hb dL_law_836 (by decide) ?_
    refine lv_goto (tgt := 841) hx hb dL_law_837 (by decide) ?_
    obtain ⟨z, Sc', v', r1, r2, hR'⟩ := r_look (fu := 1101) (Nat.le_refl _) hR (xs (nI (7 * j) + (1 : Int32)).toNatClampNeg) (1 : Int32)
    refine L_cls [.int (xs (nI (7 * j) + (1 : Int32)).toNatClampNeg), .int (1 : Int32)] [] hM hml hl.1 hI hcc (c_X12_look l _ 1101 Sc s.heap.size _ _ hcc r1) (cwV 2 hM.2.2.2.1 (gV mk_RL_100 im_X12_look se_X12_look it_RX12 cd_X12_look) rfl rfl rfl (by decide +kernel) ⟨Nat.le_of_ble_eq_true rfl, Nat.le_of_ble_eq_true rfl⟩) rfl rfl (Nat.zero_le _) ⟨by show cells ≤ 601024; omega, by show slots ≤ 7293034; omega⟩ dL_law_841 (fun H locs hI => ?_)
    refine lv_aload_n hx hb dL_law_844 rfl (lv_at hl 2 rfl) ?_
    refine lv_aload_n hx hb dL_law_845 rfl (lv_at hl 0 rfl) ?_
    refine lv_iload hx hb dL_law_846 (lv_at hl 4 rfl) ?_
    refine lv_iconst (v := (1 : Int32)) hx hb dL_law_848 (by decide) ?_
    refine lv_iadd hx hb dL_law_849 ?_
    refine va_sld hx hb hXs hbl hbA hI.2.2.2.1 (sin (k := 1) hL hj rfl (by decide)) dL_law_850 ?_
    refine lv_aload_n hx hb dL_law_851 rfl (lv_at hl 0 rfl) ?_
    refine lv_iload hx hb dL_law_852 (lv_at hl 4 rfl) ?_
    refine lv_iconst (v := (2 : Int32)) hx hb dL_law_854 (by decide) ?_
    refine lv_iadd hx hb dL_law_855 ?_
    refine va_sld hx hb hXs hbl hbA hI.2.2.2.1 (sin (k := 2) hL hj rfl (by decide)) dL_law_856 ?_
    refine lv_if_eq (tgt := 864) hx hb dL_law_857 (by decide) (fun c1 => ?_) (fun c1 => ?_)
    · exact absurd c1 c0
    refine lv_iconst (v := (1 : Int32)) hx hb dL_law_860 (by decide) ?_
    refine lv_goto (tgt := 865) hx hb dL_law_861 (by decide) ?_
    refine L_mod [.int (xs (nI (7 * j) + (1 : Int32)).toNatClampNeg), .int (1 : Int32)] [.int z] hM hml hl.1 hI (c_X13_look l _ 1101 _ _ v _ _ hcv r2) (RR_m hR') (cwV 2 hM.2.2.2.1 (gV mk_RL_104 im_X13_look se_X13_look it_RX13 cd_X13_look) rfl rfl rfl (by decide +kernel) ⟨Nat.le_of_ble_eq_true rfl, Nat.le_of_ble_eq_true rfl⟩) rfl rfl (Nat.le_of_ble_eq_true rfl) ⟨by show cells ≤ 601024; omega, by show slots ≤ 7293034; omega⟩ dL_law_865 (fun H locs hI => ?_)
    refine lv_icmp_eq (tgt := 1386) hx hb dL_law_868 (by decide) (fun _ => ?_) (fun c9 => absurd rfl c9)
    exact W.widen (Nat.le_add_right _ _) (Nat.le_add_right _ _) (kk _ _ _ _ _ _ hI hR' hl)
set_option maxHeartbeats 4000000 in
set_option maxRecDepth 100000 in
theorem lc_fits (hM : MC (Gz D cA s.heap.size) p s m args c cL_law (cmL :: wsL_law0) RL) (hml : c.maxLocals = 7) (hXs : va_X b L xs s s.heap) (hbl : b < s.heap.size) (hL : L ≤ 3584) (hj : 7 * j + 7 ≤ L) (hcr : cells + 9 ≤ 601024 ∧ slots + 3102 ≤ 7293034) (kk : ∀ (Sc : ST) (v w : GV) (H : Heap) (locs : List Loc) (ls : Array Slot), IV D cA s Sc v w H locs → RR s.heap.size Sc v → lv_has ls 7 [(0, .ref b), (1, .ref s.heap.size), (2, .ref (s.heap.size + 230)), (3, .ref (s.heap.size + 257)), (4, .int (nI (7 * j)))] → W p l e room_1 s m args below meth c H locs (cells + 9) (slots + 3102) Q (F0 m 1386 ls [])) : ∀ (Sc : ST) (v w : GV) (H : Heap) (locs : List Loc) (ls : Array Slot), IV D cA s Sc v w H locs → RR s.heap.size Sc v → lv_has ls 7 [(0, .ref b), (1, .ref s.heap.size), (2, .ref (s.heap.size + 230)), (3, .ref (s.heap.size + 257)), (4, .int (nI (7 * j)))] → W p l e room_1 s m args below meth c H locs cells slots Q (F0 m 873 ls []) := by
  intro Sc v w H locs ls hI hR hl
  have hx := hM.1
  have hb := hM.2.1
  have hbA : ¬ OU (Gz D cA s.heap.size) b := fun q => absurd q.1 (Nat.not_le.mpr hbl)
  have hcv := RR_m hR
  have hcc := RR_c hR
  refine lv_aload_n hx hb dL_law_873 rfl (lv_at hl 1 rfl) ?_
  obtain ⟨z, v', r1, r2, hR'⟩ := r_fits (fu := 1101) (Nat.le_refl _) hR
  refine L_cls [] [] hM hml hl.1 hI hcc (c_X12_fits l _ 1101 Sc s.heap.size hcc r1) (cwV 0 hM.2.2.2.1 (gV mk_RL_105 im_X12_fits se_X12_fits it_RX12 cd_X12_fits) rfl rfl rfl (by decide +kernel) ⟨Nat.le_of_ble_eq_true rfl, Nat.le_of_ble_eq_true rfl⟩) rfl rfl (Nat.zero_le _) ⟨by show cells ≤ 601024; omega, by show slots ≤ 7293034; omega⟩ dL_law_874 (fun H locs hI => ?_)
  refine lv_aload_n hx hb dL_law_877 rfl (lv_at hl 2 rfl) ?_
  refine L_mod [] [.int z] hM hml hl.1 hI (c_X13_fits l _ 1101 _ _ v hcv r2) (RR_m hR') (cwV 0 hM.2.2.2.1 (gV mk_RL_108 im_X13_fits se_X13_fits it_RX13 cd_X13_fits) rfl rfl rfl (by decide +kernel) ⟨Nat.le_of_ble_eq_true rfl, Nat.le_of_ble_eq_true rfl⟩) rfl rfl (Nat.le_of_ble_eq_true rfl) ⟨by show cells ≤ 601024; omega, by show slots ≤ 7293034; omega⟩ dL_law_878 (fun H locs hI => ?_)
  refine lv_icmp_eq (tgt := 1386) hx hb dL_law_881 (by decide) (fun _ => ?_) (fun c9 => absurd rfl c9)
  exact W.widen (Nat.le_add_right _ _) (Nat.le_add_right _ _) (kk _ _ _ _ _ _ hI hR' hl)
set_option maxHeartbeats 4000000 in
set_option maxRecDepth 100000 in
theorem lc_ask (hM : MC (Gz D cA s.heap.size) p s m args c cL_law (cmL :: wsL_law0) RL) (hml : c.maxLocals = 7) (hXs : va_X b L xs s s.heap) (hbl : b < s.heap.size) (hL : L ≤ 3584) (hj : 7 * j + 7 ≤ L) (hcr : cells + 9 ≤ 601024 ∧ slots + 3102 ≤ 7293034) (kk : ∀ (Sc : ST) (v w : GV) (H : Heap) (locs : List Loc) (ls : Array Slot), IV D cA s Sc v w H locs → RR s.heap.size Sc v → lv_has ls 7 [(0, .ref b), (1, .ref s.heap.size), (2, .ref (s.heap.size + 230)), (3, .ref (s.heap.size + 257)), (4, .int (nI (7 * j)))] → W p l e room_1 s m args below meth c H locs (cells + 9) (slots + 3102) Q (F0 m 1386 ls [])) : ∀ (Sc : ST) (v w : GV) (H : Heap) (locs : List Loc) (ls : Array Slot), IV D cA s Sc v w H locs → RR s.heap.size Sc v → lv_has ls 7 [(0, .ref b), (1, .ref s.heap.size), (2, .ref (s.heap.size + 230)), (3, .ref (s.heap.size + 257)), (4, .int (nI (7 * j)))] → W p l e room_1 s m args below meth c H locs cells slots Q (F0 m 886 ls []) := by
  intro Sc v w H locs ls hI hR hl
  have hx := hM.1
  have hb := hM.2.1
  have hbA : ¬ OU (Gz D cA s.heap.size) b := fun q => absurd q.1 (Nat.not_le.mpr hbl)
  have hcv := RR_m hR
  have hcc := RR_c hR
  refine lv_aload_n hx hb dL_law_886 rfl (lv_at hl 1 rfl) ?_
  obtain ⟨z, v', r1, r2, hR'⟩ := r_ask (fu := 1101) (Nat.le_refl _) hR
  refine L_cls [] [] hM hml hl.1 hI hcc (c_X12_ask l _ 1101 Sc s.heap.size hcc r1) (cwV 0 hM.2.2.2.1 (gV mk_RL_109 im_X12_ask se_X12_ask it_RX12 cd_X12_ask) rfl rfl rfl (by decide +kernel) ⟨Nat.le_of_ble_eq_true rfl, Nat.le_of_ble_eq_true rfl⟩) rfl rfl (Nat.zero_le _) ⟨by show cells ≤ 601024; omega, by show slots ≤ 7293034; omega⟩ dL_law_887 (fun H locs hI => ?_)
  refine lv_aload_n hx hb dL_law_890 rfl (lv_at hl 2 rfl) ?_
  refine L_mod [] [.int z] hM hml hl.1 hI (c_X13_ask l _ 1101 _ _ v hcv r2) (RR_m hR') (cwV 0 hM.2.2.2.1 (gV mk_RL_112 im_X13_ask se_X13_ask it_RX13 cd_X13_ask) rfl rfl rfl (by decide +kernel) ⟨Nat.le_of_ble_eq_true rfl, Nat.le_of_ble_eq_true rfl⟩) rfl rfl (Nat.le_of_ble_eq_true rfl) ⟨by show cells ≤ 601024; omega, by show slots ≤ 7293034; omega⟩ dL_law_891 (fun H locs hI => ?_)
  refine lv_icmp_eq (tgt := 1386) hx hb dL_law_894 (by decide) (fun _ => ?_) (fun c9 => absurd rfl c9)
  exact W.widen (Nat.le_add_right _ _) (Nat.le_add_right _ _) (kk _ _ _ _ _ _ hI hR' hl)
set_option maxHeartbeats 4000000 in
set_option maxRecDepth 100000 in
theorem lc_price (hM : MC (Gz D cA s.heap.size) p s m args c cL_law (cmL :: wsL_law0) RL) (hml : c.maxLocals = 7) (hXs : va_X b L xs s s.heap) (hbl : b < s.heap.size) (hL : L ≤ 3584) (hj : 7 * j + 7 ≤ L) (hcr : cells + 9 ≤ 601024 ∧ slots + 3102 ≤ 7293034) (kk : ∀ (Sc : ST) (v w : GV) (H : Heap) (locs : List Loc) (ls : Array Slot), IV D cA s Sc v w H locs → RR s.heap.size Sc v → lv_has ls 7 [(0, .ref b), (1, .ref s.heap.size), (2, .ref (s.heap.size + 230)), (3, .ref (s.heap.size + 257)), (4, .int (nI (7 * j)))] → W p l e room_1 s m args below meth c H locs (cells + 9) (slots + 3102) Q (F0 m 1386 ls [])) : ∀ (Sc : ST) (v w : GV) (H : Heap) (locs : List Loc) (ls : Array Slot), IV D cA s Sc v w H locs → RR s.heap.size Sc v → lv_has ls 7 [(0, .ref b), (1, .ref s.heap.size), (2, .ref (s.heap.size + 230)), (3, .ref (s.heap.size + 257)), (4, .int (nI (7 * j)))] → W p l e room_1 s m args below meth c H locs cells slots Q (F0 m 899 ls []) := by
  intro Sc v w H locs ls hI hR hl
  have hx := hM.1
  have hb := hM.2.1
  have hbA : ¬ OU (Gz D cA s.heap.size) b := fun q => absurd q.1 (Nat.not_le.mpr hbl)
  have hcv := RR_m hR
  have hcc := RR_c hR
  refine lv_aload_n hx hb dL_law_899 rfl (lv_at hl 1 rfl) ?_
  obtain ⟨z, Sc', v', r1, r2, hR'⟩ := r_price (fu := 1101) (Nat.le_refl _) hR
  refine L_cls [] [] hM hml hl.1 hI hcc (c_X12_price l _ 1101 Sc s.heap.size hcc r1) (cwV 0 hM.2.2.2.1 (gV mk_RL_113 im_X12_price se_X12_price it_RX12 cd_X12_price) rfl rfl rfl (by decide +kernel) ⟨Nat.le_of_ble_eq_true rfl, Nat.le_of_ble_eq_true rfl⟩) rfl rfl (Nat.zero_le _) ⟨by show cells ≤ 601024; omega, by show slots ≤ 7293034; omega⟩ dL_law_900 (fun H locs hI => ?_)
  refine lv_aload_n hx hb dL_law_903 rfl (lv_at hl 2 rfl) ?_
  refine L_mod [] [.int z] hM hml hl.1 hI (c_X13_price l _ 1101 _ _ v hcv r2) (RR_m hR') (cwV 0 hM.2.2.2.1 (gV mk_RL_116 im_X13_price se_X13_price it_RX13 cd_X13_price) rfl rfl rfl (by decide +kernel) ⟨Nat.le_of_ble_eq_true rfl, Nat.le_of_ble_eq_true rfl⟩) rfl rfl (Nat.le_of_ble_eq_true rfl) ⟨by show cells ≤ 601024; omega, by show slots ≤ 7293034; omega⟩ dL_law_904 (fun H locs hI => ?_)
  refine lv_icmp_eq (tgt := 1386) hx hb dL_law_907 (by decide) (fun _ => ?_) (fun c9 => absurd rfl c9)
  exact W.widen (Nat.le_add_right _ _) (Nat.le_add_right _ _) (kk _ _ _ _ _ _ hI hR' hl)
set_option maxHeartbeats 4000000 in
set_option maxRecDepth 100000 in
theorem lc_painters (hM : MC (Gz D cA s.heap.size) p s m args c cL_law (cmL :: wsL_law0) RL) (hml : c.maxLocals = 7) (hXs : va_X b L xs s s.heap) (hbl : b < s.heap.size) (hL : L ≤ 3584) (hj : 7 * j + 7 ≤ L) (hcr : cells + 9 ≤ 601024 ∧ slots + 3102 ≤ 7293034) (kk : ∀ (Sc : ST) (v w : GV) (H : Heap) (locs : List Loc) (ls : Array Slot), IV D cA s Sc v w H locs → RR s.heap.size Sc v → lv_has ls 7 [(0, .ref b), (1, .ref s.heap.size), (2, .ref (s.heap.size + 230)), (3, .ref (s.heap.size + 257)), (4, .int (nI (7 * j)))] → W p l e room_1 s m args below meth c H locs (cells + 9) (slots + 3102) Q (F0 m 1386 ls [])) : ∀ (Sc : ST) (v w : GV) (H : Heap) (locs : List Loc) (ls : Array Slot), IV D cA s Sc v w H locs → RR s.heap.size Sc v → lv_has ls 7 [(0, .ref b), (1, .ref s.heap.size), (2, .ref (s.heap.size + 230)), (3, .ref (s.heap.size + 257)), (4, .int (nI (7 * j)))] → W p l e room_1 s m args below meth c H locs cells slots Q (F0 m 912 ls []) := by
  intro Sc v w H locs ls hI hR hl
  have hx := hM.1
  have hb := hM.2.1
  have hbA : ¬ OU (Gz D cA s.heap.size) b := fun q => absurd q.1 (Nat.not_le.mpr hbl)
  have hcv := RR_m hR
  have hcc := RR_c hR
  refine lv_aload_n hx hb dL_law_912 rfl (lv_at hl 1 rfl) ?_
  obtain ⟨z, Sc', v', r1, r2, hR'⟩ := r_painters (fu := 1101) (Nat.le_refl _) hR
  refine L_cls [] [] hM hml hl.1 hI hcc (c_X12_painters l _ 1101 Sc s.heap.size hcc r1) (cwV 0 hM.2.2.2.1 (gV mk_RL_117 im_X12_painters se_X12_painters it_RX12 cd_X12_painters) rfl rfl rfl (by decide +kernel) ⟨Nat.le_of_ble_eq_true rfl, Nat.le_of_ble_eq_true rfl⟩) rfl rfl (Nat.zero_le _) ⟨by show cells ≤ 601024; omega, by show slots ≤ 7293034; omega⟩ dL_law_913 (fun H locs hI => ?_)
  refine lv_aload_n hx hb dL_law_916 rfl (lv_at hl 2 rfl) ?_
  refine L_mod [] [.int z] hM hml hl.1 hI (c_X13_painters l _ 1101 _ _ v hcv r2) (RR_m hR') (cwV 0 hM.2.2.2.1 (gV mk_RL_120 im_X13_painters se_X13_painters it_RX13 cd_X13_painters) rfl rfl rfl (by decide +kernel) ⟨Nat.le_of_ble_eq_true rfl, Nat.le_of_ble_eq_true rfl⟩) rfl rfl (Nat.le_of_ble_eq_true rfl) ⟨by show cells ≤ 601024; omega, by show slots ≤ 7293034; omega⟩ dL_law_917 (fun H locs hI => ?_)
  refine lv_icmp_eq (tgt := 1386) hx hb dL_law_920 (by decide) (fun _ => ?_) (fun c9 => absurd rfl c9)
  exact W.widen (Nat.le_add_right _ _) (Nat.le_add_right _ _) (kk _ _ _ _ _ _ hI hR' hl)
set_option maxHeartbeats 4000000 in
set_option maxRecDepth 100000 in
theorem lc_painter (hM : MC (Gz D cA s.heap.size) p s m args c cL_law (cmL :: wsL_law0) RL) (hml : c.maxLocals = 7) (hXs : va_X b L xs s s.heap) (hbl : b < s.heap.size) (hL : L ≤ 3584) (hj : 7 * j + 7 ≤ L) (hcr : cells + 9 ≤ 601024 ∧ slots + 3102 ≤ 7293034) (kk : ∀ (Sc : ST) (v w : GV) (H : Heap) (locs : List Loc) (ls : Array Slot), IV D cA s Sc v w H locs → RR s.heap.size Sc v → lv_has ls 7 [(0, .ref b), (1, .ref s.heap.size), (2, .ref (s.heap.size + 230)), (3, .ref (s.heap.size + 257)), (4, .int (nI (7 * j)))] → W p l e room_1 s m args below meth c H locs (cells + 9) (slots + 3102) Q (F0 m 1386 ls [])) : ∀ (Sc : ST) (v w : GV) (H : Heap) (locs : List Loc) (ls : Array Slot), IV D cA s Sc v w H locs → RR s.heap.size Sc v → lv_has ls 7 [(0, .ref b), (1, .ref s.heap.size), (2, .ref (s.heap.size + 230)), (3, .ref (s.heap.size + 257)), (4, .int (nI (7 * j)))] → W p l e room_1 s m args below meth c H locs cells slots Q (F0 m 925 ls []) := by
  intro Sc v w H locs ls hI hR hl
  have hx := hM.1
  have hb := hM.2.1
  have hbA : ¬ OU (Gz D cA s.heap.size) b := fun q => absurd q.1 (Nat.not_le.mpr hbl)
  have hcv := RR_m hR
  have hcc := RR_c hR
  refine lv_aload_n hx hb dL_law_925 rfl (lv_at hl 1 rfl) ?_
  refine lv_aload_n hx hb dL_law_926 rfl (lv_at hl 0 rfl) ?_
  refine lv_iload hx hb dL_law_927 (lv_at hl 4 rfl) ?_
  refine lv_iconst (v := (1 : Int32)) hx hb dL_law_929 (by decide) ?_
  refine lv_iadd hx hb dL_law_930 ?_
  refine va_sld hx hb hXs hbl hbA hI.2.2.2.1 (sin (k := 1) hL hj rfl (by decide)) dL_law_931 ?_
  refine lv_aload_n hx hb dL_law_932 rfl (lv_at hl 0 rfl) ?_
  refine lv_iload hx hb dL_law_933 (lv_at hl 4 rfl) ?_
  refine lv_iconst (v := (2 : Int32)) hx hb dL_law_935 (by decide) ?_
  refine lv_iadd hx hb dL_law_936 ?_
  refine va_sld hx hb hXs hbl hbA hI.2.2.2.1 (sin (k := 2) hL hj rfl (by decide)) dL_law_937 ?_
  refine lv_if_eq (tgt := 945) hx hb dL_law_938 (by decide) (fun c0 => ?_) (fun c0 => ?_)
  · refine lv_iconst (v := (0 : Int32)) hx hb dL_law_945 (by decide) ?_
    obtain ⟨z, Sc', v', r1, r2, hR'⟩ := r_painter (fu := 1101) (Nat.le_refl _) hR (xs (nI (7 * j) + (1 : Int32)).toNatClampNeg) (0 : Int32)
    refine L_cls [.int (xs (nI (7 * j) + (1 : Int32)).toNatClampNeg), .int (0 : Int32)] [] hM hml hl.1 hI hcc (c_X12_painter l _ 1101 Sc s.heap.size _ _ hcc r1) (cwV 2 hM.2.2.2.1 (gV mk_RL_121 im_X12_painter se_X12_painter it_RX12 cd_X12_painter) rfl rfl rfl (by decide +kernel) ⟨Nat.le_of_ble_eq_true rfl, Nat.le_of_ble_eq_true rfl⟩) rfl rfl (Nat.zero_le _) ⟨by show cells ≤ 601024; omega, by show slots ≤ 7293034; omega⟩ dL_law_946 (fun H locs hI => ?_)
    refine lv_aload_n hx hb dL_law_949 rfl (lv_at hl 2 rfl) ?_
    refine lv_aload_n hx hb dL_law_950 rfl (lv_at hl 0 rfl) ?_
    refine lv_iload hx hb dL_law_951 (lv_at hl 4 rfl) ?_
    refine lv_iconst (v := (1 : Int32)) hx hb dL_law_953 (by decide) ?_
    refine lv_iadd hx hb dL_law_954 ?_
    refine va_sld hx hb hXs hbl hbA hI.2.2.2.1 (sin (k := 1) hL hj rfl (by decide)) dL_law_955 ?_
    refine lv_aload_n hx hb dL_law_956 rfl (lv_at hl 0 rfl) ?_
    refine lv_iload hx hb dL_law_957 (lv_at hl 4 rfl) ?_
    refine lv_iconst (v := (2 : Int32)) hx hb dL_law_959 (by decide) ?_
    refine lv_iadd hx hb dL_law_960 ?_
    refine va_sld hx hb hXs hbl hbA hI.2.2.2.1 (sin (k := 2) hL hj rfl (by decide)) dL_law_961 ?_
    refine lv_if_eq (tgt := 969) hx hb dL_law_962 (by decide) (fun c1 => ?_) (fun c1 => ?_)
    rotate_left
    · exact absurd c0 c1
    refine lv_iconst (v := (0 : Int32)) hx hb dL_law_969 (by decide) ?_
    refine L_mod [.int (xs (nI (7 * j) + (1 : Int32)).toNatClampNeg), .int (0 : Int32)] [.int z] hM hml hl.1 hI (c_X13_painter l _ 1101 _ _ v _ _ hcv r2) (RR_m hR') (cwV 2 hM.2.2.2.1 (gV mk_RL_125 im_X13_painter se_X13_painter it_RX13 cd_X13_painter) rfl rfl rfl (by decide +kernel) ⟨Nat.le_of_ble_eq_true rfl, Nat.le_of_ble_eq_true rfl⟩) rfl rfl (Nat.le_of_ble_eq_true rfl) ⟨by show cells ≤ 601024; omega, by show slots ≤ 7293034; omega⟩ dL_law_970 (fun H locs hI => ?_)
    refine lv_icmp_eq (tgt := 1386) hx hb dL_law_973 (by decide) (fun _ => ?_) (fun c9 => absurd rfl c9)
    exact W.widen (Nat.le_add_right _ _) (Nat.le_add_right _ _) (kk _ _ _ _ _ _ hI hR' hl)
  · refine lv_iconst (v := (1 : Int32)) hx hb dL_law_941 (by decide) ?_
    refine lv_goto (tgt := 946) hx hb dL_law_942 (by decide) ?_
    obtain ⟨z, Sc', v', r1, r2, hR'⟩ := r_painter (fu := 1101) (Nat.le_refl _) hR (xs (nI (7 * j) + (1 : Int32)).toNatClampNeg) (1 : Int32)
    refine L_cls [.int (xs (nI (7 * j) + (1 : Int32)).toNatClampNeg), .int (1 : Int32)] [] hM hml hl.1 hI hcc (c_X12_painter l _ 1101 Sc s.heap.size _ _ hcc r1) (cwV 2 hM.2.2.2.1 (gV mk_RL_121 im_X12_painter se_X12_painter it_RX12 cd_X12_painter) rfl rfl rfl (by decide +kernel) ⟨Nat.le_of_ble_eq_true rfl, Nat.le_of_ble_eq_true rfl⟩) rfl rfl (Nat.zero_le _) ⟨by show cells ≤ 601024; omega, by show slots ≤ 7293034; omega⟩ dL_law_946 (fun H locs hI => ?_)
    refine lv_aload_n hx hb dL_law_949 rfl (lv_at hl 2 rfl) ?_
    refine lv_aload_n hx hb dL_law_950 rfl (lv_at hl 0 rfl) ?_
    refine lv_iload hx hb dL_law_951 (lv_at hl 4 rfl) ?_
    refine lv_iconst (v := (1 : Int32)) hx hb dL_law_953 (by decide) ?_
    refine lv_iadd hx hb dL_law_954 ?_
    refine va_sld hx hb hXs hbl hbA hI.2.2.2.1 (sin (k := 1) hL hj rfl (by decide)) dL_law_955 ?_
    refine lv_aload_n hx hb dL_law_956 rfl (lv_at hl 0 rfl) ?_
    refine lv_iload hx hb dL_law_957 (lv_at hl 4 rfl) ?_
    refine lv_iconst (v := (2 : Int32)) hx hb dL_law_959 (by decide) ?_
    refine lv_iadd hx hb dL_law_960 ?_
    refine va_sld hx hb hXs hbl hbA hI.2.2.2.1 (sin (k := 2) hL hj rfl (by decide)) dL_law_961 ?_
    refine lv_if_eq (tgt := 969) hx hb dL_law_962 (by decide) (fun c1 => ?_) (fun c1 => ?_)
    · exact absurd c1 c0
    refine lv_iconst (v := (1 : Int32)) hx hb dL_law_965 (by decide) ?_
    refine lv_goto (tgt := 970) hx hb dL_law_966 (by decide) ?_
    refine L_mod [.int (xs (nI (7 * j) + (1 : Int32)).toNatClampNeg), .int (1 : Int32)] [.int z] hM hml hl.1 hI (c_X13_painter l _ 1101 _ _ v _ _ hcv r2) (RR_m hR') (cwV 2 hM.2.2.2.1 (gV mk_RL_125 im_X13_painter se_X13_painter it_RX13 cd_X13_painter) rfl rfl rfl (by decide +kernel) ⟨Nat.le_of_ble_eq_true rfl, Nat.le_of_ble_eq_true rfl⟩) rfl rfl (Nat.le_of_ble_eq_true rfl) ⟨by show cells ≤ 601024; omega, by show slots ≤ 7293034; omega⟩ dL_law_970 (fun H locs hI => ?_)
    refine lv_icmp_eq (tgt := 1386) hx hb dL_law_973 (by decide) (fun _ => ?_) (fun c9 => absurd rfl c9)
    exact W.widen (Nat.le_add_right _ _) (Nat.le_add_right _ _) (kk _ _ _ _ _ _ hI hR' hl)
set_option maxHeartbeats 4000000 in
set_option maxRecDepth 100000 in
theorem lc_knows (hM : MC (Gz D cA s.heap.size) p s m args c cL_law (cmL :: wsL_law0) RL) (hml : c.maxLocals = 7) (hXs : va_X b L xs s s.heap) (hbl : b < s.heap.size) (hL : L ≤ 3584) (hj : 7 * j + 7 ≤ L) (hcr : cells + 9 ≤ 601024 ∧ slots + 3102 ≤ 7293034) (kk : ∀ (Sc : ST) (v w : GV) (H : Heap) (locs : List Loc) (ls : Array Slot), IV D cA s Sc v w H locs → RR s.heap.size Sc v → lv_has ls 7 [(0, .ref b), (1, .ref s.heap.size), (2, .ref (s.heap.size + 230)), (3, .ref (s.heap.size + 257)), (4, .int (nI (7 * j)))] → W p l e room_1 s m args below meth c H locs (cells + 9) (slots + 3102) Q (F0 m 1386 ls [])) : ∀ (Sc : ST) (v w : GV) (H : Heap) (locs : List Loc) (ls : Array Slot), IV D cA s Sc v w H locs → RR s.heap.size Sc v → lv_has ls 7 [(0, .ref b), (1, .ref s.heap.size), (2, .ref (s.heap.size + 230)), (3, .ref (s.heap.size + 257)), (4, .int (nI (7 * j)))] → W p l e room_1 s m args below meth c H locs cells slots Q (F0 m 978 ls []) := by
  intro Sc v w H locs ls hI hR hl
  have hx := hM.1
  have hb := hM.2.1
  have hbA : ¬ OU (Gz D cA s.heap.size) b := fun q => absurd q.1 (Nat.not_le.mpr hbl)
  have hcv := RR_m hR
  have hcc := RR_c hR
  refine lv_aload_n hx hb dL_law_978 rfl (lv_at hl 1 rfl) ?_
  refine lv_aload_n hx hb dL_law_979 rfl (lv_at hl 0 rfl) ?_
  refine lv_iload hx hb dL_law_980 (lv_at hl 4 rfl) ?_
  refine lv_iconst (v := (1 : Int32)) hx hb dL_law_982 (by decide) ?_
  refine lv_iadd hx hb dL_law_983 ?_
  refine va_sld hx hb hXs hbl hbA hI.2.2.2.1 (sin (k := 1) hL hj rfl (by decide)) dL_law_984 ?_
  refine lv_aload_n hx hb dL_law_985 rfl (lv_at hl 0 rfl) ?_
  refine lv_iload hx hb dL_law_986 (lv_at hl 4 rfl) ?_
  refine lv_iconst (v := (2 : Int32)) hx hb dL_law_988 (by decide) ?_
  refine lv_iadd hx hb dL_law_989 ?_
  refine va_sld hx hb hXs hbl hbA hI.2.2.2.1 (sin (k := 2) hL hj rfl (by decide)) dL_law_990 ?_
  obtain ⟨z, v', r1, r2, hR'⟩ := r_knows (fu := 1101) (Nat.le_refl _) hR (xs (nI (7 * j) + (1 : Int32)).toNatClampNeg) (xs (nI (7 * j) + (2 : Int32)).toNatClampNeg)
  refine L_cls [.int (xs (nI (7 * j) + (1 : Int32)).toNatClampNeg), .int (xs (nI (7 * j) + (2 : Int32)).toNatClampNeg)] [] hM hml hl.1 hI hcc (c_X12_knows l _ 1101 Sc s.heap.size _ _ hcc r1) (cwV 2 hM.2.2.2.1 (gV mk_RL_126 im_X12_knows se_X12_knows it_RX12 cd_X12_knows) rfl rfl rfl (by decide +kernel) ⟨Nat.le_of_ble_eq_true rfl, Nat.le_of_ble_eq_true rfl⟩) rfl rfl (Nat.zero_le _) ⟨by show cells ≤ 601024; omega, by show slots ≤ 7293034; omega⟩ dL_law_991 (fun H locs hI => ?_)
  refine lv_aload_n hx hb dL_law_994 rfl (lv_at hl 2 rfl) ?_
  refine lv_aload_n hx hb dL_law_995 rfl (lv_at hl 0 rfl) ?_
  refine lv_iload hx hb dL_law_996 (lv_at hl 4 rfl) ?_
  refine lv_iconst (v := (1 : Int32)) hx hb dL_law_998 (by decide) ?_
  refine lv_iadd hx hb dL_law_999 ?_
  refine va_sld hx hb hXs hbl hbA hI.2.2.2.1 (sin (k := 1) hL hj rfl (by decide)) dL_law_1000 ?_
  refine lv_aload_n hx hb dL_law_1001 rfl (lv_at hl 0 rfl) ?_
  refine lv_iload hx hb dL_law_1002 (lv_at hl 4 rfl) ?_
  refine lv_iconst (v := (2 : Int32)) hx hb dL_law_1004 (by decide) ?_
  refine lv_iadd hx hb dL_law_1005 ?_
  refine va_sld hx hb hXs hbl hbA hI.2.2.2.1 (sin (k := 2) hL hj rfl (by decide)) dL_law_1006 ?_
  refine L_mod [.int (xs (nI (7 * j) + (1 : Int32)).toNatClampNeg), .int (xs (nI (7 * j) + (2 : Int32)).toNatClampNeg)] [.int z] hM hml hl.1 hI (c_X13_knows l _ 1101 _ _ v _ _ hcv r2) (RR_m hR') (cwV 2 hM.2.2.2.1 (gV mk_RL_129 im_X13_knows se_X13_knows it_RX13 cd_X13_knows) rfl rfl rfl (by decide +kernel) ⟨Nat.le_of_ble_eq_true rfl, Nat.le_of_ble_eq_true rfl⟩) rfl rfl (Nat.le_of_ble_eq_true rfl) ⟨by show cells ≤ 601024; omega, by show slots ≤ 7293034; omega⟩ dL_law_1007 (fun H locs hI => ?_)
  refine lv_icmp_eq (tgt := 1386) hx hb dL_law_1010 (by decide) (fun _ => ?_) (fun c9 => absurd rfl c9)
  exact W.widen (Nat.le_add_right _ _) (Nat.le_add_right _ _) (kk _ _ _ _ _ _ hI hR' hl)
set_option maxHeartbeats 4000000 in
set_option maxRecDepth 100000 in
theorem lc_depth (hM : MC (Gz D cA s.heap.size) p s m args c cL_law (cmL :: wsL_law0) RL) (hml : c.maxLocals = 7) (hXs : va_X b L xs s s.heap) (hbl : b < s.heap.size) (hL : L ≤ 3584) (hj : 7 * j + 7 ≤ L) (hcr : cells + 9 ≤ 601024 ∧ slots + 3102 ≤ 7293034) (kk : ∀ (Sc : ST) (v w : GV) (H : Heap) (locs : List Loc) (ls : Array Slot), IV D cA s Sc v w H locs → RR s.heap.size Sc v → lv_has ls 7 [(0, .ref b), (1, .ref s.heap.size), (2, .ref (s.heap.size + 230)), (3, .ref (s.heap.size + 257)), (4, .int (nI (7 * j)))] → W p l e room_1 s m args below meth c H locs (cells + 9) (slots + 3102) Q (F0 m 1386 ls [])) : ∀ (Sc : ST) (v w : GV) (H : Heap) (locs : List Loc) (ls : Array Slot), IV D cA s Sc v w H locs → RR s.heap.size Sc v → lv_has ls 7 [(0, .ref b), (1, .ref s.heap.size), (2, .ref (s.heap.size + 230)), (3, .ref (s.heap.size + 257)), (4, .int (nI (7 * j)))] → W p l e room_1 s m args below meth c H locs cells slots Q (F0 m 1015 ls []) := by
  intro Sc v w H locs ls hI hR hl
  have hx := hM.1
  have hb := hM.2.1
  have hbA : ¬ OU (Gz D cA s.heap.size) b := fun q => absurd q.1 (Nat.not_le.mpr hbl)
  have hcv := RR_m hR
  have hcc := RR_c hR
  refine lv_aload_n hx hb dL_law_1015 rfl (lv_at hl 1 rfl) ?_
  refine lv_aload_n hx hb dL_law_1016 rfl (lv_at hl 0 rfl) ?_
  refine lv_iload hx hb dL_law_1017 (lv_at hl 4 rfl) ?_
  refine lv_iconst (v := (1 : Int32)) hx hb dL_law_1019 (by decide) ?_
  refine lv_iadd hx hb dL_law_1020 ?_
  refine va_sld hx hb hXs hbl hbA hI.2.2.2.1 (sin (k := 1) hL hj rfl (by decide)) dL_law_1021 ?_
  refine lv_aload_n hx hb dL_law_1022 rfl (lv_at hl 0 rfl) ?_
  refine lv_iload hx hb dL_law_1023 (lv_at hl 4 rfl) ?_
  refine lv_iconst (v := (2 : Int32)) hx hb dL_law_1025 (by decide) ?_
  refine lv_iadd hx hb dL_law_1026 ?_
  refine va_sld hx hb hXs hbl hbA hI.2.2.2.1 (sin (k := 2) hL hj rfl (by decide)) dL_law_1027 ?_
  obtain ⟨z, v', r1, r2, hR'⟩ := r_depth (fu := 1101) (Nat.le_refl _) hR (xs (nI (7 * j) + (1 : Int32)).toNatClampNeg) (xs (nI (7 * j) + (2 : Int32)).toNatClampNeg)
  refine L_cls [.int (xs (nI (7 * j) + (1 : Int32)).toNatClampNeg), .int (xs (nI (7 * j) + (2 : Int32)).toNatClampNeg)] [] hM hml hl.1 hI hcc (c_X12_depth l _ 1101 Sc s.heap.size _ _ hcc r1) (cwV 2 hM.2.2.2.1 (gV mk_RL_130 im_X12_depth se_X12_depth it_RX12 cd_X12_depth) rfl rfl rfl (by decide +kernel) ⟨Nat.le_of_ble_eq_true rfl, Nat.le_of_ble_eq_true rfl⟩) rfl rfl (Nat.zero_le _) ⟨by show cells ≤ 601024; omega, by show slots ≤ 7293034; omega⟩ dL_law_1028 (fun H locs hI => ?_)
  refine lv_aload_n hx hb dL_law_1031 rfl (lv_at hl 2 rfl) ?_
  refine lv_aload_n hx hb dL_law_1032 rfl (lv_at hl 0 rfl) ?_
  refine lv_iload hx hb dL_law_1033 (lv_at hl 4 rfl) ?_
  refine lv_iconst (v := (1 : Int32)) hx hb dL_law_1035 (by decide) ?_
  refine lv_iadd hx hb dL_law_1036 ?_
  refine va_sld hx hb hXs hbl hbA hI.2.2.2.1 (sin (k := 1) hL hj rfl (by decide)) dL_law_1037 ?_
  refine lv_aload_n hx hb dL_law_1038 rfl (lv_at hl 0 rfl) ?_
  refine lv_iload hx hb dL_law_1039 (lv_at hl 4 rfl) ?_
  refine lv_iconst (v := (2 : Int32)) hx hb dL_law_1041 (by decide) ?_
  refine lv_iadd hx hb dL_law_1042 ?_
  refine va_sld hx hb hXs hbl hbA hI.2.2.2.1 (sin (k := 2) hL hj rfl (by decide)) dL_law_1043 ?_
  refine L_mod [.int (xs (nI (7 * j) + (1 : Int32)).toNatClampNeg), .int (xs (nI (7 * j) + (2 : Int32)).toNatClampNeg)] [.int z] hM hml hl.1 hI (c_X13_depth l _ 1101 _ _ v _ _ hcv r2) (RR_m hR') (cwV 2 hM.2.2.2.1 (gV mk_RL_133 im_X13_depth se_X13_depth it_RX13 cd_X13_depth) rfl rfl rfl (by decide +kernel) ⟨Nat.le_of_ble_eq_true rfl, Nat.le_of_ble_eq_true rfl⟩) rfl rfl (Nat.le_of_ble_eq_true rfl) ⟨by show cells ≤ 601024; omega, by show slots ≤ 7293034; omega⟩ dL_law_1044 (fun H locs hI => ?_)
  refine lv_icmp_eq (tgt := 1386) hx hb dL_law_1047 (by decide) (fun _ => ?_) (fun c9 => absurd rfl c9)
  exact W.widen (Nat.le_add_right _ _) (Nat.le_add_right _ _) (kk _ _ _ _ _ _ hI hR' hl)
set_option maxHeartbeats 4000000 in
set_option maxRecDepth 100000 in
theorem lc_common (hM : MC (Gz D cA s.heap.size) p s m args c cL_law (cmL :: wsL_law0) RL) (hml : c.maxLocals = 7) (hXs : va_X b L xs s s.heap) (hbl : b < s.heap.size) (hL : L ≤ 3584) (hj : 7 * j + 7 ≤ L) (hcr : cells + 9 ≤ 601024 ∧ slots + 3102 ≤ 7293034) (kk : ∀ (Sc : ST) (v w : GV) (H : Heap) (locs : List Loc) (ls : Array Slot), IV D cA s Sc v w H locs → RR s.heap.size Sc v → lv_has ls 7 [(0, .ref b), (1, .ref s.heap.size), (2, .ref (s.heap.size + 230)), (3, .ref (s.heap.size + 257)), (4, .int (nI (7 * j)))] → W p l e room_1 s m args below meth c H locs (cells + 9) (slots + 3102) Q (F0 m 1386 ls [])) : ∀ (Sc : ST) (v w : GV) (H : Heap) (locs : List Loc) (ls : Array Slot), IV D cA s Sc v w H locs → RR s.heap.size Sc v → lv_has ls 7 [(0, .ref b), (1, .ref s.heap.size), (2, .ref (s.heap.size + 230)), (3, .ref (s.heap.size + 257)), (4, .int (nI (7 * j)))] → W p l e room_1 s m args below meth c H locs cells slots Q (F0 m 1052 ls []) := by
  intro Sc v w H locs ls hI hR hl
  have hx := hM.1
  have hb := hM.2.1
  have hbA : ¬ OU (Gz D cA s.heap.size) b := fun q => absurd q.1 (Nat.not_le.mpr hbl)
  have hcv := RR_m hR
  have hcc := RR_c hR
  refine lv_aload_n hx hb dL_law_1052 rfl (lv_at hl 1 rfl) ?_
  refine lv_aload_n hx hb dL_law_1053 rfl (lv_at hl 0 rfl) ?_
  refine lv_iload hx hb dL_law_1054 (lv_at hl 4 rfl) ?_
  refine lv_iconst (v := (1 : Int32)) hx hb dL_law_1056 (by decide) ?_
  refine lv_iadd hx hb dL_law_1057 ?_
  refine va_sld hx hb hXs hbl hbA hI.2.2.2.1 (sin (k := 1) hL hj rfl (by decide)) dL_law_1058 ?_
  obtain ⟨z, v', r1, r2, hR'⟩ := r_common (fu := 1101) (Nat.le_refl _) hR (xs (nI (7 * j) + (1 : Int32)).toNatClampNeg)
  refine L_cls [.int (xs (nI (7 * j) + (1 : Int32)).toNatClampNeg)] [] hM hml hl.1 hI hcc (c_X12_common l _ 1101 Sc s.heap.size _ hcc r1) (cwV 1 hM.2.2.2.1 (gV mk_RL_134 im_X12_common se_X12_common it_RX12 cd_X12_common) rfl rfl rfl (by decide +kernel) ⟨Nat.le_of_ble_eq_true rfl, Nat.le_of_ble_eq_true rfl⟩) rfl rfl (Nat.zero_le _) ⟨by show cells ≤ 601024; omega, by show slots ≤ 7293034; omega⟩ dL_law_1059 (fun H locs hI => ?_)
  refine lv_aload_n hx hb dL_law_1062 rfl (lv_at hl 2 rfl) ?_
  refine lv_aload_n hx hb dL_law_1063 rfl (lv_at hl 0 rfl) ?_
  refine lv_iload hx hb dL_law_1064 (lv_at hl 4 rfl) ?_
  refine lv_iconst (v := (1 : Int32)) hx hb dL_law_1066 (by decide) ?_
  refine lv_iadd hx hb dL_law_1067 ?_
  refine va_sld hx hb hXs hbl hbA hI.2.2.2.1 (sin (k := 1) hL hj rfl (by decide)) dL_law_1068 ?_
  refine L_mod [.int (xs (nI (7 * j) + (1 : Int32)).toNatClampNeg)] [.int z] hM hml hl.1 hI (c_X13_common l _ 1101 _ _ v _ hcv r2) (RR_m hR') (cwV 1 hM.2.2.2.1 (gV mk_RL_137 im_X13_common se_X13_common it_RX13 cd_X13_common) rfl rfl rfl (by decide +kernel) ⟨Nat.le_of_ble_eq_true rfl, Nat.le_of_ble_eq_true rfl⟩) rfl rfl (Nat.le_of_ble_eq_true rfl) ⟨by show cells ≤ 601024; omega, by show slots ≤ 7293034; omega⟩ dL_law_1069 (fun H locs hI => ?_)
  refine lv_icmp_eq (tgt := 1386) hx hb dL_law_1072 (by decide) (fun _ => ?_) (fun c9 => absurd rfl c9)
  exact W.widen (Nat.le_add_right _ _) (Nat.le_add_right _ _) (kk _ _ _ _ _ _ hI hR' hl)
set_option maxHeartbeats 4000000 in
set_option maxRecDepth 100000 in
theorem lc_watch (hM : MC (Gz D cA s.heap.size) p s m args c cL_law (cmL :: wsL_law0) RL) (hml : c.maxLocals = 7) (hXs : va_X b L xs s s.heap) (hbl : b < s.heap.size) (hL : L ≤ 3584) (hj : 7 * j + 7 ≤ L) (hcr : cells + 9 ≤ 601024 ∧ slots + 3102 ≤ 7293034) (kk : ∀ (Sc : ST) (v w : GV) (H : Heap) (locs : List Loc) (ls : Array Slot), IV D cA s Sc v w H locs → RR s.heap.size Sc v → lv_has ls 7 [(0, .ref b), (1, .ref s.heap.size), (2, .ref (s.heap.size + 230)), (3, .ref (s.heap.size + 257)), (4, .int (nI (7 * j)))] → W p l e room_1 s m args below meth c H locs (cells + 9) (slots + 3102) Q (F0 m 1386 ls [])) : ∀ (Sc : ST) (v w : GV) (H : Heap) (locs : List Loc) (ls : Array Slot), IV D cA s Sc v w H locs → RR s.heap.size Sc v → lv_has ls 7 [(0, .ref b), (1, .ref s.heap.size), (2, .ref (s.heap.size + 230)), (3, .ref (s.heap.size + 257)), (4, .int (nI (7 * j)))] → W p l e room_1 s m args below meth c H locs cells slots Q (F0 m 1185 ls []) := by
  intro Sc v w H locs ls hI hR hl
  have hx := hM.1
  have hb := hM.2.1
  have hbA : ¬ OU (Gz D cA s.heap.size) b := fun q => absurd q.1 (Nat.not_le.mpr hbl)
  have hcv := RR_m hR
  have hcc := RR_c hR
  refine lv_aload_n hx hb dL_law_1185 rfl (lv_at hl 1 rfl) ?_
  refine lv_aload_n hx hb dL_law_1186 rfl (lv_at hl 0 rfl) ?_
  refine lv_iload hx hb dL_law_1187 (lv_at hl 4 rfl) ?_
  refine lv_iconst (v := (1 : Int32)) hx hb dL_law_1189 (by decide) ?_
  refine lv_iadd hx hb dL_law_1190 ?_
  refine va_sld hx hb hXs hbl hbA hI.2.2.2.1 (sin (k := 1) hL hj rfl (by decide)) dL_law_1191 ?_
  obtain ⟨z, Sc', v', r1, r2, hR'⟩ := r_watch (fu := 1101) (Nat.le_refl _) hR (xs (nI (7 * j) + (1 : Int32)).toNatClampNeg)
  refine L_cls [.int (xs (nI (7 * j) + (1 : Int32)).toNatClampNeg)] [] hM hml hl.1 hI hcc (c_X12_watch l _ 1101 Sc s.heap.size _ hcc r1) (cwV 1 hM.2.2.2.1 (gV mk_RL_147 im_X12_watch se_X12_watch it_RX12 cd_X12_watch) rfl rfl rfl (by decide +kernel) ⟨Nat.le_of_ble_eq_true rfl, Nat.le_of_ble_eq_true rfl⟩) rfl rfl (Nat.zero_le _) ⟨by show cells ≤ 601024; omega, by show slots ≤ 7293034; omega⟩ dL_law_1192 (fun H locs hI => ?_)
  refine lv_aload_n hx hb dL_law_1195 rfl (lv_at hl 2 rfl) ?_
  refine lv_aload_n hx hb dL_law_1196 rfl (lv_at hl 0 rfl) ?_
  refine lv_iload hx hb dL_law_1197 (lv_at hl 4 rfl) ?_
  refine lv_iconst (v := (1 : Int32)) hx hb dL_law_1199 (by decide) ?_
  refine lv_iadd hx hb dL_law_1200 ?_
  refine va_sld hx hb hXs hbl hbA hI.2.2.2.1 (sin (k := 1) hL hj rfl (by decide)) dL_law_1201 ?_
  refine L_mod [.int (xs (nI (7 * j) + (1 : Int32)).toNatClampNeg)] [.int z] hM hml hl.1 hI (c_X13_watch l _ 1101 _ _ v _ hcv r2) (RR_m hR') (cwV 1 hM.2.2.2.1 (gV mk_RL_150 im_X13_watch se_X13_watch it_RX13 cd_X13_watch) rfl rfl rfl (by decide +kernel) ⟨Nat.le_of_ble_eq_true rfl, Nat.le_of_ble_eq_true rfl⟩) rfl rfl (Nat.le_of_ble_eq_true rfl) ⟨by show cells ≤ 601024; omega, by show slots ≤ 7293034; omega⟩ dL_law_1202 (fun H locs hI => ?_)
  refine lv_icmp_eq (tgt := 1386) hx hb dL_law_1205 (by decide) (fun _ => ?_) (fun c9 => absurd rfl c9)
  exact W.widen (Nat.le_add_right _ _) (Nat.le_add_right _ _) (kk _ _ _ _ _ _ hI hR' hl)
set_option maxHeartbeats 4000000 in
set_option maxRecDepth 100000 in
theorem lc_slips (hM : MC (Gz D cA s.heap.size) p s m args c cL_law (cmL :: wsL_law0) RL) (hml : c.maxLocals = 7) (hXs : va_X b L xs s s.heap) (hbl : b < s.heap.size) (hL : L ≤ 3584) (hj : 7 * j + 7 ≤ L) (hcr : cells + 9 ≤ 601024 ∧ slots + 3102 ≤ 7293034) (kk : ∀ (Sc : ST) (v w : GV) (H : Heap) (locs : List Loc) (ls : Array Slot), IV D cA s Sc v w H locs → RR s.heap.size Sc v → lv_has ls 7 [(0, .ref b), (1, .ref s.heap.size), (2, .ref (s.heap.size + 230)), (3, .ref (s.heap.size + 257)), (4, .int (nI (7 * j)))] → W p l e room_1 s m args below meth c H locs (cells + 9) (slots + 3102) Q (F0 m 1386 ls [])) : ∀ (Sc : ST) (v w : GV) (H : Heap) (locs : List Loc) (ls : Array Slot), IV D cA s Sc v w H locs → RR s.heap.size Sc v → lv_has ls 7 [(0, .ref b), (1, .ref s.heap.size), (2, .ref (s.heap.size + 230)), (3, .ref (s.heap.size + 257)), (4, .int (nI (7 * j)))] → W p l e room_1 s m args below meth c H locs cells slots Q (F0 m 1210 ls []) := by
  intro Sc v w H locs ls hI hR hl
  have hx := hM.1
  have hb := hM.2.1
  have hbA : ¬ OU (Gz D cA s.heap.size) b := fun q => absurd q.1 (Nat.not_le.mpr hbl)
  have hcv := RR_m hR
  have hcc := RR_c hR
  refine lv_aload_n hx hb dL_law_1210 rfl (lv_at hl 1 rfl) ?_
  refine lv_aload_n hx hb dL_law_1211 rfl (lv_at hl 0 rfl) ?_
  refine lv_iload hx hb dL_law_1212 (lv_at hl 4 rfl) ?_
  refine lv_iconst (v := (1 : Int32)) hx hb dL_law_1214 (by decide) ?_
  refine lv_iadd hx hb dL_law_1215 ?_
  refine va_sld hx hb hXs hbl hbA hI.2.2.2.1 (sin (k := 1) hL hj rfl (by decide)) dL_law_1216 ?_
  refine lv_aload_n hx hb dL_law_1217 rfl (lv_at hl 0 rfl) ?_
  refine lv_iload hx hb dL_law_1218 (lv_at hl 4 rfl) ?_
  refine lv_iconst (v := (2 : Int32)) hx hb dL_law_1220 (by decide) ?_
  refine lv_iadd hx hb dL_law_1221 ?_
  refine va_sld hx hb hXs hbl hbA hI.2.2.2.1 (sin (k := 2) hL hj rfl (by decide)) dL_law_1222 ?_
  refine lv_aload_n hx hb dL_law_1223 rfl (lv_at hl 0 rfl) ?_
  refine lv_iload hx hb dL_law_1224 (lv_at hl 4 rfl) ?_
  refine lv_iconst (v := (3 : Int32)) hx hb dL_law_1226 (by decide) ?_
  refine lv_iadd hx hb dL_law_1227 ?_
  refine va_sld hx hb hXs hbl hbA hI.2.2.2.1 (sin (k := 3) hL hj rfl (by decide)) dL_law_1228 ?_
  obtain ⟨z, Sc', v', r1, r2, hR'⟩ := r_slips (fu := 1101) (Nat.le_refl _) hR (xs (nI (7 * j) + (1 : Int32)).toNatClampNeg) (xs (nI (7 * j) + (2 : Int32)).toNatClampNeg) (xs (nI (7 * j) + (3 : Int32)).toNatClampNeg)
  refine L_cls [.int (xs (nI (7 * j) + (1 : Int32)).toNatClampNeg), .int (xs (nI (7 * j) + (2 : Int32)).toNatClampNeg), .int (xs (nI (7 * j) + (3 : Int32)).toNatClampNeg)] [] hM hml hl.1 hI hcc (c_X12_slips l _ 1101 Sc s.heap.size _ _ _ hcc r1) (cwV 3 hM.2.2.2.1 (gV mk_RL_151 im_X12_slips se_X12_slips it_RX12 cd_X12_slips) rfl rfl rfl (by decide +kernel) ⟨Nat.le_of_ble_eq_true rfl, Nat.le_of_ble_eq_true rfl⟩) rfl rfl (Nat.zero_le _) ⟨by show cells ≤ 601024; omega, by show slots ≤ 7293034; omega⟩ dL_law_1229 (fun H locs hI => ?_)
  refine lv_aload_n hx hb dL_law_1232 rfl (lv_at hl 2 rfl) ?_
  refine lv_aload_n hx hb dL_law_1233 rfl (lv_at hl 0 rfl) ?_
  refine lv_iload hx hb dL_law_1234 (lv_at hl 4 rfl) ?_
  refine lv_iconst (v := (1 : Int32)) hx hb dL_law_1236 (by decide) ?_
  refine lv_iadd hx hb dL_law_1237 ?_
  refine va_sld hx hb hXs hbl hbA hI.2.2.2.1 (sin (k := 1) hL hj rfl (by decide)) dL_law_1238 ?_
  refine lv_aload_n hx hb dL_law_1239 rfl (lv_at hl 0 rfl) ?_
  refine lv_iload hx hb dL_law_1240 (lv_at hl 4 rfl) ?_
  refine lv_iconst (v := (2 : Int32)) hx hb dL_law_1242 (by decide) ?_
  refine lv_iadd hx hb dL_law_1243 ?_
  refine va_sld hx hb hXs hbl hbA hI.2.2.2.1 (sin (k := 2) hL hj rfl (by decide)) dL_law_1244 ?_
  refine lv_aload_n hx hb dL_law_1245 rfl (lv_at hl 0 rfl) ?_
  refine lv_iload hx hb dL_law_1246 (lv_at hl 4 rfl) ?_
  refine lv_iconst (v := (3 : Int32)) hx hb dL_law_1248 (by decide) ?_
  refine lv_iadd hx hb dL_law_1249 ?_
  refine va_sld hx hb hXs hbl hbA hI.2.2.2.1 (sin (k := 3) hL hj rfl (by decide)) dL_law_1250 ?_
  refine L_mod [.int (xs (nI (7 * j) + (1 : Int32)).toNatClampNeg), .int (xs (nI (7 * j) + (2 : Int32)).toNatClampNeg), .int (xs (nI (7 * j) + (3 : Int32)).toNatClampNeg)] [.int z] hM hml hl.1 hI (c_X13_slips l _ 1101 _ _ v _ _ _ hcv r2) (RR_m hR') (cwV 3 hM.2.2.2.1 (gV mk_RL_154 im_X13_slips se_X13_slips it_RX13 cd_X13_slips) rfl rfl rfl (by decide +kernel) ⟨Nat.le_of_ble_eq_true rfl, Nat.le_of_ble_eq_true rfl⟩) rfl rfl (Nat.le_of_ble_eq_true rfl) ⟨by show cells ≤ 601024; omega, by show slots ≤ 7293034; omega⟩ dL_law_1251 (fun H locs hI => ?_)
  refine lv_icmp_eq (tgt := 1386) hx hb dL_law_1254 (by decide) (fun _ => ?_) (fun c9 => absurd rfl c9)
  exact W.widen (Nat.le_add_right _ _) (Nat.le_add_right _ _) (kk _ _ _ _ _ _ hI hR' hl)
set_option maxHeartbeats 4000000 in
set_option maxRecDepth 100000 in
theorem lc_years (hM : MC (Gz D cA s.heap.size) p s m args c cL_law (cmL :: wsL_law0) RL) (hml : c.maxLocals = 7) (hXs : va_X b L xs s s.heap) (hbl : b < s.heap.size) (hL : L ≤ 3584) (hj : 7 * j + 7 ≤ L) (hcr : cells + 9 ≤ 601024 ∧ slots + 3102 ≤ 7293034) (kk : ∀ (Sc : ST) (v w : GV) (H : Heap) (locs : List Loc) (ls : Array Slot), IV D cA s Sc v w H locs → RR s.heap.size Sc v → lv_has ls 7 [(0, .ref b), (1, .ref s.heap.size), (2, .ref (s.heap.size + 230)), (3, .ref (s.heap.size + 257)), (4, .int (nI (7 * j)))] → W p l e room_1 s m args below meth c H locs (cells + 9) (slots + 3102) Q (F0 m 1386 ls [])) : ∀ (Sc : ST) (v w : GV) (H : Heap) (locs : List Loc) (ls : Array Slot), IV D cA s Sc v w H locs → RR s.heap.size Sc v → lv_has ls 7 [(0, .ref b), (1, .ref s.heap.size), (2, .ref (s.heap.size + 230)), (3, .ref (s.heap.size + 257)), (4, .int (nI (7 * j)))] → W p l e room_1 s m args below meth c H locs cells slots Q (F0 m 1259 ls []) := by
  intro Sc v w H locs ls hI hR hl
  have hx := hM.1
  have hb := hM.2.1
  have hbA : ¬ OU (Gz D cA s.heap.size) b := fun q => absurd q.1 (Nat.not_le.mpr hbl)
  have hcv := RR_m hR
  have hcc := RR_c hR
  refine lv_aload_n hx hb dL_law_1259 rfl (lv_at hl 1 rfl) ?_
  refine lv_aload_n hx hb dL_law_1260 rfl (lv_at hl 0 rfl) ?_
  refine lv_iload hx hb dL_law_1261 (lv_at hl 4 rfl) ?_
  refine lv_iconst (v := (1 : Int32)) hx hb dL_law_1263 (by decide) ?_
  refine lv_iadd hx hb dL_law_1264 ?_
  refine va_sld hx hb hXs hbl hbA hI.2.2.2.1 (sin (k := 1) hL hj rfl (by decide)) dL_law_1265 ?_
  refine lv_aload_n hx hb dL_law_1266 rfl (lv_at hl 0 rfl) ?_
  refine lv_iload hx hb dL_law_1267 (lv_at hl 4 rfl) ?_
  refine lv_iconst (v := (2 : Int32)) hx hb dL_law_1269 (by decide) ?_
  refine lv_iadd hx hb dL_law_1270 ?_
  refine va_sld hx hb hXs hbl hbA hI.2.2.2.1 (sin (k := 2) hL hj rfl (by decide)) dL_law_1271 ?_
  refine lv_aload_n hx hb dL_law_1272 rfl (lv_at hl 0 rfl) ?_
  refine lv_iload hx hb dL_law_1273 (lv_at hl 4 rfl) ?_
  refine lv_iconst (v := (3 : Int32)) hx hb dL_law_1275 (by decide) ?_
  refine lv_iadd hx hb dL_law_1276 ?_
  refine va_sld hx hb hXs hbl hbA hI.2.2.2.1 (sin (k := 3) hL hj rfl (by decide)) dL_law_1277 ?_
  obtain ⟨z, Sc', v', r1, r2, hR'⟩ := r_years (fu := 1101) (Nat.le_refl _) hR (xs (nI (7 * j) + (1 : Int32)).toNatClampNeg) (xs (nI (7 * j) + (2 : Int32)).toNatClampNeg) (xs (nI (7 * j) + (3 : Int32)).toNatClampNeg)
  refine L_cls [.int (xs (nI (7 * j) + (1 : Int32)).toNatClampNeg), .int (xs (nI (7 * j) + (2 : Int32)).toNatClampNeg), .int (xs (nI (7 * j) + (3 : Int32)).toNatClampNeg)] [] hM hml hl.1 hI hcc (c_X12_years l _ 1101 Sc s.heap.size _ _ _ hcc r1) (cwV 3 hM.2.2.2.1 (gV mk_RL_155 im_X12_years se_X12_years it_RX12 cd_X12_years) rfl rfl rfl (by decide +kernel) ⟨Nat.le_of_ble_eq_true rfl, Nat.le_of_ble_eq_true rfl⟩) rfl rfl (Nat.zero_le _) ⟨by show cells ≤ 601024; omega, by show slots ≤ 7293034; omega⟩ dL_law_1278 (fun H locs hI => ?_)
  refine lv_aload_n hx hb dL_law_1281 rfl (lv_at hl 2 rfl) ?_
  refine lv_aload_n hx hb dL_law_1282 rfl (lv_at hl 0 rfl) ?_
  refine lv_iload hx hb dL_law_1283 (lv_at hl 4 rfl) ?_
  refine lv_iconst (v := (1 : Int32)) hx hb dL_law_1285 (by decide) ?_
  refine lv_iadd hx hb dL_law_1286 ?_
  refine va_sld hx hb hXs hbl hbA hI.2.2.2.1 (sin (k := 1) hL hj rfl (by decide)) dL_law_1287 ?_
  refine lv_aload_n hx hb dL_law_1288 rfl (lv_at hl 0 rfl) ?_
  refine lv_iload hx hb dL_law_1289 (lv_at hl 4 rfl) ?_
  refine lv_iconst (v := (2 : Int32)) hx hb dL_law_1291 (by decide) ?_
  refine lv_iadd hx hb dL_law_1292 ?_
  refine va_sld hx hb hXs hbl hbA hI.2.2.2.1 (sin (k := 2) hL hj rfl (by decide)) dL_law_1293 ?_
  refine lv_aload_n hx hb dL_law_1294 rfl (lv_at hl 0 rfl) ?_
  refine lv_iload hx hb dL_law_1295 (lv_at hl 4 rfl) ?_
  refine lv_iconst (v := (3 : Int32)) hx hb dL_law_1297 (by decide) ?_
  refine lv_iadd hx hb dL_law_1298 ?_
  refine va_sld hx hb hXs hbl hbA hI.2.2.2.1 (sin (k := 3) hL hj rfl (by decide)) dL_law_1299 ?_
  refine L_mod [.int (xs (nI (7 * j) + (1 : Int32)).toNatClampNeg), .int (xs (nI (7 * j) + (2 : Int32)).toNatClampNeg), .int (xs (nI (7 * j) + (3 : Int32)).toNatClampNeg)] [.int z] hM hml hl.1 hI (c_X13_years l _ 1101 _ _ v _ _ _ hcv r2) (RR_m hR') (cwV 3 hM.2.2.2.1 (gV mk_RL_158 im_X13_years se_X13_years it_RX13 cd_X13_years) rfl rfl rfl (by decide +kernel) ⟨Nat.le_of_ble_eq_true rfl, Nat.le_of_ble_eq_true rfl⟩) rfl rfl (Nat.le_of_ble_eq_true rfl) ⟨by show cells ≤ 601024; omega, by show slots ≤ 7293034; omega⟩ dL_law_1300 (fun H locs hI => ?_)
  refine lv_icmp_eq (tgt := 1386) hx hb dL_law_1303 (by decide) (fun _ => ?_) (fun c9 => absurd rfl c9)
  exact W.widen (Nat.le_add_right _ _) (Nat.le_add_right _ _) (kk _ _ _ _ _ _ hI hR' hl)
set_option maxHeartbeats 4000000 in
set_option maxRecDepth 100000 in
theorem lc_mark (hM : MC (Gz D cA s.heap.size) p s m args c cL_law (cmL :: wsL_law0) RL) (hml : c.maxLocals = 7) (hXs : va_X b L xs s s.heap) (hbl : b < s.heap.size) (hL : L ≤ 3584) (hj : 7 * j + 7 ≤ L) (hcr : cells + 9 ≤ 601024 ∧ slots + 3102 ≤ 7293034) (kk : ∀ (Sc : ST) (v w : GV) (H : Heap) (locs : List Loc) (ls : Array Slot), IV D cA s Sc v w H locs → RR s.heap.size Sc v → lv_has ls 7 [(0, .ref b), (1, .ref s.heap.size), (2, .ref (s.heap.size + 230)), (3, .ref (s.heap.size + 257)), (4, .int (nI (7 * j)))] → W p l e room_1 s m args below meth c H locs (cells + 9) (slots + 3102) Q (F0 m 1386 ls [])) : ∀ (Sc : ST) (v w : GV) (H : Heap) (locs : List Loc) (ls : Array Slot), IV D cA s Sc v w H locs → RR s.heap.size Sc v → lv_has ls 7 [(0, .ref b), (1, .ref s.heap.size), (2, .ref (s.heap.size + 230)), (3, .ref (s.heap.size + 257)), (4, .int (nI (7 * j)))] → W p l e room_1 s m args below meth c H locs cells slots Q (F0 m 1308 ls []) := by
  intro Sc v w H locs ls hI hR hl
  have hx := hM.1
  have hb := hM.2.1
  have hbA : ¬ OU (Gz D cA s.heap.size) b := fun q => absurd q.1 (Nat.not_le.mpr hbl)
  have hcv := RR_m hR
  have hcc := RR_c hR
  refine lv_aload_n hx hb dL_law_1308 rfl (lv_at hl 1 rfl) ?_
  refine lv_aload_n hx hb dL_law_1309 rfl (lv_at hl 0 rfl) ?_
  refine lv_iload hx hb dL_law_1310 (lv_at hl 4 rfl) ?_
  refine lv_iconst (v := (1 : Int32)) hx hb dL_law_1312 (by decide) ?_
  refine lv_iadd hx hb dL_law_1313 ?_
  refine va_sld hx hb hXs hbl hbA hI.2.2.2.1 (sin (k := 1) hL hj rfl (by decide)) dL_law_1314 ?_
  refine lv_aload_n hx hb dL_law_1315 rfl (lv_at hl 0 rfl) ?_
  refine lv_iload hx hb dL_law_1316 (lv_at hl 4 rfl) ?_
  refine lv_iconst (v := (2 : Int32)) hx hb dL_law_1318 (by decide) ?_
  refine lv_iadd hx hb dL_law_1319 ?_
  refine va_sld hx hb hXs hbl hbA hI.2.2.2.1 (sin (k := 2) hL hj rfl (by decide)) dL_law_1320 ?_
  refine lv_if_eq (tgt := 1328) hx hb dL_law_1321 (by decide) (fun c0 => ?_) (fun c0 => ?_)
  · refine lv_iconst (v := (0 : Int32)) hx hb dL_law_1328 (by decide) ?_
    obtain ⟨z, Sc', v', r1, r2, hR'⟩ := r_mark (fu := 1101) (Nat.le_refl _) hR (xs (nI (7 * j) + (1 : Int32)).toNatClampNeg) (0 : Int32)
    refine L_cls [.int (xs (nI (7 * j) + (1 : Int32)).toNatClampNeg), .int (0 : Int32)] [] hM hml hl.1 hI hcc (c_X12_mark l _ 1101 Sc s.heap.size _ _ hcc r1) (cwV 2 hM.2.2.2.1 (gV mk_RL_159 im_X12_mark se_X12_mark it_RX12 cd_X12_mark) rfl rfl rfl (by decide +kernel) ⟨Nat.le_of_ble_eq_true rfl, Nat.le_of_ble_eq_true rfl⟩) rfl rfl (Nat.zero_le _) ⟨by show cells ≤ 601024; omega, by show slots ≤ 7293034; omega⟩ dL_law_1329 (fun H locs hI => ?_)
    refine lv_aload_n hx hb dL_law_1332 rfl (lv_at hl 2 rfl) ?_
    refine lv_aload_n hx hb dL_law_1333 rfl (lv_at hl 0 rfl) ?_
    refine lv_iload hx hb dL_law_1334 (lv_at hl 4 rfl) ?_
    refine lv_iconst (v := (1 : Int32)) hx hb dL_law_1336 (by decide) ?_
    refine lv_iadd hx hb dL_law_1337 ?_
    refine va_sld hx hb hXs hbl hbA hI.2.2.2.1 (sin (k := 1) hL hj rfl (by decide)) dL_law_1338 ?_
    refine lv_aload_n hx hb dL_law_1339 rfl (lv_at hl 0 rfl) ?_
    refine lv_iload hx hb dL_law_1340 (lv_at hl 4 rfl) ?_
    refine lv_iconst (v := (2 : Int32)) hx hb dL_law_1342 (by decide) ?_
    refine lv_iadd hx hb dL_law_1343 ?_
    refine va_sld hx hb hXs hbl hbA hI.2.2.2.1 (sin (k := 2) hL hj rfl (by decide)) dL_law_1344 ?_
    refine lv_if_eq (tgt := 1352) hx hb dL_law_1345 (by decide) (fun c1 => ?_) (fun c1 => ?_)
    rotate_left
    · exact absurd c0 c1
    refine lv_iconst (v := (0 : Int32)) hx hb dL_law_1352 (by decide) ?_
    refine L_mod [.int (xs (nI (7 * j) + (1 : Int32)).toNatClampNeg), .int (0 : Int32)] [.int z] hM hml hl.1 hI (c_X13_mark l _ 1101 _ _ v _ _ hcv r2) (RR_m hR') (cwV 2 hM.2.2.2.1 (gV mk_RL_162 im_X13_mark se_X13_mark it_RX13 cd_X13_mark) rfl rfl rfl (by decide +kernel) ⟨Nat.le_of_ble_eq_true rfl, Nat.le_of_ble_eq_true rfl⟩) rfl rfl (Nat.le_of_ble_eq_true rfl) ⟨by show cells ≤ 601024; omega, by show slots ≤ 7293034; omega⟩ dL_law_1353 (fun H locs hI => ?_)
    refine lv_icmp_eq (tgt := 1386) hx hb dL_law_1356 (by decide) (fun _ => ?_) (fun c9 => absurd rfl c9)
    exact W.widen (Nat.le_add_right _ _) (Nat.le_add_right _ _) (kk _ _ _ _ _ _ hI hR' hl)
  · refine lv_iconst (v := (1 : Int32)) hx hb dL_law_1324 (by decide) ?_
    refine lv_goto (tgt := 1329) hx hb dL_law_1325 (by decide) ?_
    obtain ⟨z, Sc', v', r1, r2, hR'⟩ := r_mark (fu := 1101) (Nat.le_refl _) hR (xs (nI (7 * j) + (1 : Int32)).toNatClampNeg) (1 : Int32)
    refine L_cls [.int (xs (nI (7 * j) + (1 : Int32)).toNatClampNeg), .int (1 : Int32)] [] hM hml hl.1 hI hcc (c_X12_mark l _ 1101 Sc s.heap.size _ _ hcc r1) (cwV 2 hM.2.2.2.1 (gV mk_RL_159 im_X12_mark se_X12_mark it_RX12 cd_X12_mark) rfl rfl rfl (by decide +kernel) ⟨Nat.le_of_ble_eq_true rfl, Nat.le_of_ble_eq_true rfl⟩) rfl rfl (Nat.zero_le _) ⟨by show cells ≤ 601024; omega, by show slots ≤ 7293034; omega⟩ dL_law_1329 (fun H locs hI => ?_)
    refine lv_aload_n hx hb dL_law_1332 rfl (lv_at hl 2 rfl) ?_
    refine lv_aload_n hx hb dL_law_1333 rfl (lv_at hl 0 rfl) ?_
    refine lv_iload hx hb dL_law_1334 (lv_at hl 4 rfl) ?_
    refine lv_iconst (v := (1 : Int32)) hx hb dL_law_1336 (by decide) ?_
    refine lv_iadd hx hb dL_law_1337 ?_
    refine va_sld hx hb hXs hbl hbA hI.2.2.2.1 (sin (k := 1) hL hj rfl (by decide)) dL_law_1338 ?_
    refine lv_aload_n hx hb dL_law_1339 rfl (lv_at hl 0 rfl) ?_
    refine lv_iload hx hb dL_law_1340 (lv_at hl 4 rfl) ?_
    refine lv_iconst (v := (2 : Int32)) hx hb dL_law_1342 (by decide) ?_
    refine lv_iadd hx hb dL_law_1343 ?_
    refine va_sld hx hb hXs hbl hbA hI.2.2.2.1 (sin (k := 2) hL hj rfl (by decide)) dL_law_1344 ?_
    refine lv_if_eq (tgt := 1352) hx hb dL_law_1345 (by decide) (fun c1 => ?_) (fun c1 => ?_)
    · exact absurd c1 c0
    refine lv_iconst (v := (1 : Int32)) hx hb dL_law_1348 (by decide) ?_
    refine lv_goto (tgt := 1353) hx hb dL_law_1349 (by decide) ?_
    refine L_mod [.int (xs (nI (7 * j) + (1 : Int32)).toNatClampNeg), .int (1 : Int32)] [.int z] hM hml hl.1 hI (c_X13_mark l _ 1101 _ _ v _ _ hcv r2) (RR_m hR') (cwV 2 hM.2.2.2.1 (gV mk_RL_162 im_X13_mark se_X13_mark it_RX13 cd_X13_mark) rfl rfl rfl (by decide +kernel) ⟨Nat.le_of_ble_eq_true rfl, Nat.le_of_ble_eq_true rfl⟩) rfl rfl (Nat.le_of_ble_eq_true rfl) ⟨by show cells ≤ 601024; omega, by show slots ≤ 7293034; omega⟩ dL_law_1353 (fun H locs hI => ?_)
    refine lv_icmp_eq (tgt := 1386) hx hb dL_law_1356 (by decide) (fun _ => ?_) (fun c9 => absurd rfl c9)
    exact W.widen (Nat.le_add_right _ _) (Nat.le_add_right _ _) (kk _ _ _ _ _ _ hI hR' hl)
set_option maxHeartbeats 4000000 in
set_option maxRecDepth 100000 in
theorem lc_count (hM : MC (Gz D cA s.heap.size) p s m args c cL_law (cmL :: wsL_law0) RL) (hml : c.maxLocals = 7) (hXs : va_X b L xs s s.heap) (hbl : b < s.heap.size) (hL : L ≤ 3584) (hj : 7 * j + 7 ≤ L) (hcr : cells + 9 ≤ 601024 ∧ slots + 3102 ≤ 7293034) (kk : ∀ (Sc : ST) (v w : GV) (H : Heap) (locs : List Loc) (ls : Array Slot), IV D cA s Sc v w H locs → RR s.heap.size Sc v → lv_has ls 7 [(0, .ref b), (1, .ref s.heap.size), (2, .ref (s.heap.size + 230)), (3, .ref (s.heap.size + 257)), (4, .int (nI (7 * j)))] → W p l e room_1 s m args below meth c H locs (cells + 9) (slots + 3102) Q (F0 m 1386 ls [])) : ∀ (Sc : ST) (v w : GV) (H : Heap) (locs : List Loc) (ls : Array Slot), IV D cA s Sc v w H locs → RR s.heap.size Sc v → lv_has ls 7 [(0, .ref b), (1, .ref s.heap.size), (2, .ref (s.heap.size + 230)), (3, .ref (s.heap.size + 257)), (4, .int (nI (7 * j)))] → W p l e room_1 s m args below meth c H locs cells slots Q (F0 m 1361 ls []) := by
  intro Sc v w H locs ls hI hR hl
  have hx := hM.1
  have hb := hM.2.1
  have hbA : ¬ OU (Gz D cA s.heap.size) b := fun q => absurd q.1 (Nat.not_le.mpr hbl)
  have hcv := RR_m hR
  have hcc := RR_c hR
  refine lv_aload_n hx hb dL_law_1361 rfl (lv_at hl 1 rfl) ?_
  refine lv_aload_n hx hb dL_law_1362 rfl (lv_at hl 0 rfl) ?_
  refine lv_iload hx hb dL_law_1363 (lv_at hl 4 rfl) ?_
  refine lv_iconst (v := (1 : Int32)) hx hb dL_law_1365 (by decide) ?_
  refine lv_iadd hx hb dL_law_1366 ?_
  refine va_sld hx hb hXs hbl hbA hI.2.2.2.1 (sin (k := 1) hL hj rfl (by decide)) dL_law_1367 ?_
  obtain ⟨z, v', r1, r2, hR'⟩ := r_count (fu := 1101) (Nat.le_refl _) hR (xs (nI (7 * j) + (1 : Int32)).toNatClampNeg)
  refine L_cls [.int (xs (nI (7 * j) + (1 : Int32)).toNatClampNeg)] [] hM hml hl.1 hI hcc (c_X12_count l _ 1101 Sc s.heap.size _ hcc r1) (cwV 1 hM.2.2.2.1 (gV mk_RL_163 im_X12_count se_X12_count it_RX12 cd_X12_count) rfl rfl rfl (by decide +kernel) ⟨Nat.le_of_ble_eq_true rfl, Nat.le_of_ble_eq_true rfl⟩) rfl rfl (Nat.zero_le _) ⟨by show cells ≤ 601024; omega, by show slots ≤ 7293034; omega⟩ dL_law_1368 (fun H locs hI => ?_)
  refine lv_aload_n hx hb dL_law_1371 rfl (lv_at hl 2 rfl) ?_
  refine lv_aload_n hx hb dL_law_1372 rfl (lv_at hl 0 rfl) ?_
  refine lv_iload hx hb dL_law_1373 (lv_at hl 4 rfl) ?_
  refine lv_iconst (v := (1 : Int32)) hx hb dL_law_1375 (by decide) ?_
  refine lv_iadd hx hb dL_law_1376 ?_
  refine va_sld hx hb hXs hbl hbA hI.2.2.2.1 (sin (k := 1) hL hj rfl (by decide)) dL_law_1377 ?_
  refine L_mod [.int (xs (nI (7 * j) + (1 : Int32)).toNatClampNeg)] [.int z] hM hml hl.1 hI (c_X13_count l _ 1101 _ _ v _ hcv r2) (RR_m hR') (cwV 1 hM.2.2.2.1 (gV mk_RL_166 im_X13_count se_X13_count it_RX13 cd_X13_count) rfl rfl rfl (by decide +kernel) ⟨Nat.le_of_ble_eq_true rfl, Nat.le_of_ble_eq_true rfl⟩) rfl rfl (Nat.le_of_ble_eq_true rfl) ⟨by show cells ≤ 601024; omega, by show slots ≤ 7293034; omega⟩ dL_law_1378 (fun H locs hI => ?_)
  refine lv_icmp_eq (tgt := 1386) hx hb dL_law_1381 (by decide) (fun _ => ?_) (fun c9 => absurd rfl c9)
  exact W.widen (Nat.le_add_right _ _) (Nat.le_add_right _ _) (kk _ _ _ _ _ _ hI hR' hl)
end LCASE2
