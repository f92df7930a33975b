/-! ===== gallery: a text with a fault changes nothing but the tape ===== -/
theorem ML_ext {v v' : GV} {x : Int32} {th : Nat} {f dd : Int32 → Int32 → Int32 → Int32} (h : ML v x th f dd) (e : ∀ x, x < 1100 → gA v' 11 x = gA v 11 x ∧ gA v' 12 x = gA v 12 x) : ML v' x th f dd := by
  rcases h with h | ⟨fr, len, h1, h2, h3, h4⟩
  · exact Or.inl h
  · have l3 := h2.2.2.1
    have hO : ∀ k, k ≤ len → gA v' 11 (fr + k) = gA v 11 (fr + k) := fun k hk => (e _ (by omega)).1
    have hA : ∀ k, k ≤ len → gA v' 12 (fr + k) = gA v 12 (fr + k) := fun k hk => (e _ (by omega)).2
    refine Or.inr ⟨fr, len, h1, ?_, fun k hk q => ?_, fun x y z => ?_⟩
    · obtain ⟨l1, l2, l3, l4, l5⟩ := h2
      refine ⟨l1, l2, l3, by rw [hO len (Nat.le_refl _)]; exact l4, fun k hk => ?_⟩
      rw [hO k (by omega), hA k (by omega), tp_ext k (fun j hj => hO j (by omega))]
      exact l5 k hk
    · rw [hO k (by omega)] at q
      rw [hA k (by omega)]; exact h3 k hk q
    · rw [h4 x y z]
      exact (lawV_ext (fun k hk => hO k (by omega)) (fun k hk => hA k (by omega))).symm
theorem MG_ext {v v' : GV} {G : GP} (hG : okG G) (h : MG v G) (e10 : ∀ x, x < 70 → gA v' 10 x = gA v 10 x) (e : ∀ x, x < 1100 → gA v' 11 x = gA v 11 x ∧ gA v' 12 x = gA v 12 x) : MG v' G := by
  obtain ⟨h1, h2, h3, h4, h5, h6, h7⟩ := h
  have t5 := hG.2.1
  have e4 := hG.2.2.1
  refine ⟨by rw [e10 _ (by omega)]; exact h1, by rw [e10 _ (by omega)]; exact h2, by rw [e10 _ (by omega)]; exact h3, fun t ht => ?_, fun i hi => by rw [e10 _ (by omega)]; exact h5 i hi, by rw [e10 _ (by omega)]; exact ML_ext h6 e, by rw [e10 _ (by omega)]; exact ML_ext h7 e⟩
  rw [e10 _ (by omega), e10 _ (by omega), e10 _ (by omega)]; exact h4 t ht
theorem MBg_ext {v v' : GV} {b : HP} (h8 : qn b ≤ 8) (h : MBg v b) (e10 : ∀ x, x < 70 → gA v' 10 x = gA v 10 x) : MBg v' b := by
  obtain ⟨h1, h2, h3⟩ := h
  refine ⟨by rw [e10 _ (by omega)]; exact h1, fun r hr => ?_, fun t ht => by rw [e10 _ (by omega)]; exact h3 t ht⟩
  rw [e10 _ (by omega), e10 _ (by omega), e10 _ (by omega), e10 _ (by omega)]; exact h2 r hr
theorem RM_gf {v v' : GV} {A : AP} (hA : okA A) (h : RM v A) (k : GMc v v') : RM v' (mkA (aG A) (aQ A) (aP A) (aM A) (aB A) (aL A) (0, (aT A).2) (aN A)) := by
  obtain ⟨h0, h1, hh2, ⟨h3, h4⟩, h5, h6, h7, h8, ⟨n, cd, ty, n1, n2, n3⟩, h10, h11⟩ := h
  obtain ⟨k1, k10, k11, kI, k2, kL, kC⟩ := k
  have e24 := k1 24 (by decide) (by decide) (by decide) (by decide) (by decide) (by decide)
  have e21 := k1 21 (by decide) (by decide) (by decide) (by decide) (by decide) (by decide)
  refine ⟨kC.trans h0, MG_ext hA.1 h1 k10 k11, by rw [e24]; exact hh2, ⟨by rw [kI 25 (by decide) (by decide) (by decide) (by decide) (by decide) (by decide) (by decide) (by decide)]; exact h3, fun i hi => by rw [e24]; exact h4 i hi⟩, fun m hm => by rw [k1 26 (by decide) (by decide) (by decide) (by decide) (by decide) (by decide), e24]; exact h5 m hm, MBg_ext hA.2.2.2.2.1.1.1.2.1 h6 k10, by rw [MLn, e21]; exact h7, ⟨k2, fun i hi => by have : i < 0 := hi; omega⟩, ⟨n, cd, ty, n1, by rw [kI 18 (by decide) (by decide) (by decide) (by decide) (by decide) (by decide) (by decide) (by decide)]; exact n2, fun j hj => by rw [kL 14 (by decide) (by decide), k1 16 (by decide) (by decide) (by decide) (by decide) (by decide) (by decide)]; exact n3 j hj⟩, fun i hi => by rw [kL 9 (by decide) (by decide)]; exact h10 i hi, fun i hi => by rw [k1 32 (by decide) (by decide) (by decide) (by decide) (by decide) (by decide)]; exact h11 i hi⟩
/-- what stays of the class -/
theorem RC_gf {p t d ln dl f n : Nat} {S S' : ST} {A : AP} (hP : RP p t d ln dl S) (hK : RK p t ln f S A) (hn : p + 223 < n) (hfr : ∀ b, n ≤ b → gC (S b) = 0) (h1 : ∀ b, b < n → b ≠ p + 1 → b ≠ p + 7 → b ≠ d → b ≠ d + 8 → S' b = S b) (c1 : gC (S' (p + 1)) = 8) (c7 : gC (S' (p + 7)) = 5 ∧ gR (S' (p + 7)) 0 = some (p + 1)) (cd : gC (S' d) = 1) (cd8 : gC (S' (d + 8)) = 3) (h6 : gI (S' (p + 1)) 6 = nI 0) : RC p S' (mkA (aG A) (aQ A) (aP A) (aM A) (aB A) (aL A) (0, (aT A).2) (aN A)) := by
  obtain ⟨⟨a1, a2, a3, a4, a5, a6, a7, a8⟩, ⟨b1, b2, b3, b4, b5, b6⟩, c, m, ⟨r1, r2, r3, r4⟩, td, ll, g1, g2, g3, g4⟩ := hP
  obtain ⟨K1, K2, K3, K4, ⟨K5, K6, K7, K8⟩, ⟨K9, K10⟩, K11, K12⟩ := hK
  have o : ∀ b, b < p + 224 → b ≠ p + 1 → b ≠ p + 7 → b ≠ d → b ≠ d + 8 → S' b = S b := fun b q1 q2 q3 q4 q5 => h1 b (by omega) q2 q3 q4 q5
  have o0 := o p (by omega) (by omega) (by omega) (by omega) (by omega)
  have ot := o t (by omega) (by omega) (by omega) (by omega) (by omega)
  have ot8 := o (t + 8) (by omega) (by omega) (by omega) (by omega) (by omega)
  have ol := o ln (by omega) (by omega) (by omega) (by omega) (by omega)
  have od := o dl (by omega) (by omega) (by omega) (by omega) (by omega)
  have o6 := o (p + 6) (by omega) (by omega) (by omega) (by omega) (by omega)
  have o9 := o (p + 9) (by omega) (by omega) (by omega) (by omega) (by omega)
  have op : ∀ i, i < 17 → S' (p + 83 + 7 * i) = S (p + 83 + 7 * i) := fun i hi => o _ (by omega) (by omega) (by omega) (by omega) (by omega)
  have om : ∀ i, i < 4 → S' (p + 202 + 7 * i) = S (p + 202 + 7 * i) := fun i hi => o _ (by omega) (by omega) (by omega) (by omega) (by omega)
  refine ⟨t, d, ln, dl, f, ⟨⟨by rw [o0]; exact a1, c1, by rw [o9]; exact a3, by rw [o (p + 16) (by omega) (by omega) (by omega) (by omega) (by omega)]; exact a4, by rw [o (p + 25) (by omega) (by omega) (by omega) (by omega) (by omega)]; exact a5, by rw [o (p + 29) (by omega) (by omega) (by omega) (by omega) (by omega)]; exact a6, by rw [o (p + 32) (by omega) (by omega) (by omega) (by omega) (by omega)]; exact a7, by rw [o (p + 33) (by omega) (by omega) (by omega) (by omega) (by omega)]; exact a8⟩, ⟨by rw [ot]; exact b1, cd, by rw [ot8]; exact b3, cd8, by rw [ol]; exact b5, by rw [od]; exact b6⟩, fun i hi => ⟨by rw [op i hi]; exact (c i hi).1, by rw [o0]; exact (c i hi).2⟩, fun i hi => ⟨by rw [om i hi]; exact (m i hi).1, by rw [o0]; exact (m i hi).2⟩, ⟨by rw [o0]; exact r1, by rw [o0]; exact r2, by rw [o0]; exact r3, by rw [o0]; exact r4⟩, td, ll, by rw [o6]; exact g1, by rw [o6]; exact g2, c7.1, c7.2⟩, by rw [o9]; exact K1, CG_keep K2 ot (fun b hb => Or.inl ?_), by rw [ot]; exact K3, by rw [ot8]; exact K4, ⟨by rw [o0]; exact K5, K6, by rw [o0]; exact K7, fun i hi => by rw [op _ (Nat.mod_lt _ (by decide))]; exact K8 i hi⟩, ⟨by rw [o0]; exact K9, fun i hi q => by rw [om i hi]; exact K10 i hi q⟩, by rw [ol]; exact K11, ⟨h6, fun i hi => by have : i < 0 := hi; omega⟩⟩
  have bn : b < n := by
    rcases Nat.lt_or_ge b n with q | q
    · exact q
    · have := hfr b q; omega
  refine h1 b bn ?_ ?_ ?_ ?_
  · rintro rfl; omega
  · rintro rfl; omega
  · rintro rfl; omega
  · rintro rfl; omega
