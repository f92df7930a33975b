/-! ===== the words of the methods' own texts as functions: a value named, a check, what a call answered, a loop ===== -/
def nm {α β : Type} (x : α) (k : α → β) : β := k x
theorem nm_at {α β : Type} {x y : α} {k : α → β} {z : β} (h : y = x) (hf : nm x k = z) : k y = z := by subst h; exact hf
def ck {β : Type} (b : Bool) (k : Option β) : Option β := match b with
  | true => k
  | false => none
theorem ck_elim {β : Type} {b : Bool} {k : Option β} {z : β} (h : ck b k = some z) : b = true ∧ k = some z := by
  cases b with
  | true => exact ⟨rfl, h⟩
  | false => cases h
def bd {α β : Type} (o : Option α) (k : α → Option β) : Option β := match o with
  | some x => k x
  | none => none
theorem bd_elim {α β : Type} {o : Option α} {k : α → Option β} {z : β} (h : bd o k = some z) : ∃ x, o = some x ∧ k x = some z := by
  cases o with
  | some x => exact ⟨x, rfl, h⟩
  | none => cases h
def bd2 {α γ β : Type} (o : Option (α × γ)) (k : α → γ → Option β) : Option β := match o with
  | some x => k x.1 x.2
  | none => none
theorem bd2_elim {α γ β : Type} {o : Option (α × γ)} {k : α → γ → Option β} {z : β} (h : bd2 o k = some z) : ∃ x y, o = some (x, y) ∧ k x y = some z := by
  cases o with
  | some x => exact ⟨x.1, x.2, rfl, h⟩
  | none => cases h
theorem if_t {c : Prop} {i : Decidable c} {α : Type} {A B z : α} (h : c) (hf : @ite α c i A B = z) : A = z := by rw [if_pos h] at hf; exact hf
theorem if_f {c : Prop} {i : Decidable c} {α : Type} {A B z : α} (h : ¬ c) (hf : @ite α c i A B = z) : B = z := by rw [if_neg h] at hf; exact hf
noncomputable def lq_1 {A β : Type} (f : (A → Option β) → A → Option β) (n : Nat) : A → Option β := Nat.rec (fun _ => none) (fun _ ih => f ih) n
noncomputable def lq_2 {A B β : Type} (f : (A → B → Option β) → A → B → Option β) (n : Nat) : A → B → Option β := Nat.rec (fun _ _ => none) (fun _ ih => f ih) n
noncomputable def lq_3 {A B C β : Type} (f : (A → B → C → Option β) → A → B → C → Option β) (n : Nat) : A → B → C → Option β := Nat.rec (fun _ _ _ => none) (fun _ ih => f ih) n
noncomputable def lq_4 {A B C D β : Type} (f : (A → B → C → D → Option β) → A → B → C → D → Option β) (n : Nat) : A → B → C → D → Option β := Nat.rec (fun _ _ _ _ => none) (fun _ ih => f ih) n
noncomputable def lq_5 {A B C D E β : Type} (f : (A → B → C → D → E → Option β) → A → B → C → D → E → Option β) (n : Nat) : A → B → C → D → E → Option β := Nat.rec (fun _ _ _ _ _ => none) (fun _ ih => f ih) n
noncomputable def lq_6 {A B C D E F β : Type} (f : (A → B → C → D → E → F → Option β) → A → B → C → D → E → F → Option β) (n : Nat) : A → B → C → D → E → F → Option β := Nat.rec (fun _ _ _ _ _ _ => none) (fun _ ih => f ih) n
noncomputable def lq_7 {A B C D E F U β : Type} (f : (A → B → C → D → E → F → U → Option β) → A → B → C → D → E → F → U → Option β) (n : Nat) : A → B → C → D → E → F → U → Option β := Nat.rec (fun _ _ _ _ _ _ _ => none) (fun _ ih => f ih) n
def isB (x : Int32) : Bool := decide (x = 0) || decide (x = 1)
theorem isB_nar {x : Int32} (h : isB x = true) : narrow .boolean (.int x) = .int x := by
  simp only [isB, Bool.or_eq_true, decide_eq_true_eq] at h
  rcases h with rfl | rfl <;> decide
section ROWS3
variable {G : GG} {p : Program} {l : Launch} {e : Env} {R : Room} {s : State} {m : MethodId} {args : Array Value} {below : List Frame} {meth : Method} {c : Code} {H : Heap} {locs : List Loc} {cells slots : Nat} {Q : State → Prop}
variable {cc : ByteArray} {pc : Nat} {ls : Array Slot} {rest st0 : List Value} {Ts : List Cond} {own : String} {S : ST} {v : GV} {a : Nat}
theorem b_callVi {S1 S2 : ST} {b ci : Nat} {w : GV} {C : String} {T : u_T} {N : Nat} (As : List Value) (st0 : List Value) {x : Int32} {y : MethodName} {ws : List Cond} {rm : Room} {index maxL nL n : Nat} {bytes : ByteArray} {ret : Option FieldType} (hM : MC G p s m args c cc Ts own) (hml : c.maxLocals = nL) (hls : ls.size = nL) (hW : WB G (st S1 b w) s H locs) (hc : gC w = ci + 1) (hcl : vwCl[ci % 12]? = some (C, T, N)) (h24 : ci < 24) (hC : Ct l y ws rm G (st S1 b w) (.ref b :: As) (some (.int x)) S2 0 0) (cw : CallW R s args own C index y bytes maxL ret ws rm 0 0 n) (hn : As.length = n) (hstack : rest = As.reverse ++ .ref b :: st0) (hr : (st0.map fun v => v.category).sum ≤ 8) (hf : cells ≤ R.cells ∧ slots ≤ R.slots) (hdg : decode cc pc = .ok (.invokevirtual index, 3))
    (kk : ∀ (H1 : Heap) (locs1 : List Loc), WB G S2 s H1 locs1 → (∀ a, gC (st S1 b w a) ≠ 0 → gC (S2 a) = gC (st S1 b w a)) → W p l e R s m args below meth c H1 locs1 cells slots Q (F0 m (pc + 3) ls (.int x :: st0))) : W p l e R s m args below meth c H locs cells slots Q (F0 m pc ls rest) := b_callV hM hml hls hW hc hcl h24 hC cw hn hstack hr hf hdg kk
theorem b_callVl {S1 S2 : ST} {b ci : Nat} {w : GV} {C : String} {T : u_T} {N : Nat} (As : List Value) (st0 : List Value) {x : Int64} {y : MethodName} {ws : List Cond} {rm : Room} {index maxL nL n : Nat} {bytes : ByteArray} {ret : Option FieldType} (hM : MC G p s m args c cc Ts own) (hml : c.maxLocals = nL) (hls : ls.size = nL) (hW : WB G (st S1 b w) s H locs) (hc : gC w = ci + 1) (hcl : vwCl[ci % 12]? = some (C, T, N)) (h24 : ci < 24) (hC : Ct l y ws rm G (st S1 b w) (.ref b :: As) (some (.long x)) S2 0 0) (cw : CallW R s args own C index y bytes maxL ret ws rm 0 0 n) (hn : As.length = n) (hstack : rest = As.reverse ++ .ref b :: st0) (hr : (st0.map fun v => v.category).sum ≤ 8) (hf : cells ≤ R.cells ∧ slots ≤ R.slots) (hdg : decode cc pc = .ok (.invokevirtual index, 3))
    (kk : ∀ (H1 : Heap) (locs1 : List Loc), WB G S2 s H1 locs1 → (∀ a, gC (st S1 b w a) ≠ 0 → gC (S2 a) = gC (st S1 b w a)) → W p l e R s m args below meth c H1 locs1 cells slots Q (F0 m (pc + 3) ls (.long x :: st0))) : W p l e R s m args below meth c H locs cells slots Q (F0 m pc ls rest) := b_callV hM hml hls hW hc hcl h24 hC cw hn hstack hr hf hdg kk
theorem b_callVv {S1 S2 : ST} {b ci : Nat} {w : GV} {C : String} {T : u_T} {N : Nat} (As : List Value) (st0 : List Value) {y : MethodName} {ws : List Cond} {rm : Room} {index maxL nL n : Nat} {bytes : ByteArray} {ret : Option FieldType} (hM : MC G p s m args c cc Ts own) (hml : c.maxLocals = nL) (hls : ls.size = nL) (hW : WB G (st S1 b w) s H locs) (hc : gC w = ci + 1) (hcl : vwCl[ci % 12]? = some (C, T, N)) (h24 : ci < 24) (hC : Ct l y ws rm G (st S1 b w) (.ref b :: As) none S2 0 0) (cw : CallW R s args own C index y bytes maxL ret ws rm 0 0 n) (hn : As.length = n) (hstack : rest = As.reverse ++ .ref b :: st0) (hr : (st0.map fun v => v.category).sum ≤ 8) (hf : cells ≤ R.cells ∧ slots ≤ R.slots) (hdg : decode cc pc = .ok (.invokevirtual index, 3))
    (kk : ∀ (H1 : Heap) (locs1 : List Loc), WB G S2 s H1 locs1 → (∀ a, gC (st S1 b w a) ≠ 0 → gC (S2 a) = gC (st S1 b w a)) → W p l e R s m args below meth c H1 locs1 cells slots Q (F0 m (pc + 3) ls st0)) : W p l e R s m args below meth c H locs cells slots Q (F0 m pc ls rest) := b_callV hM hml hls hW hc hcl h24 hC cw hn hstack hr hf hdg kk
theorem b_callSi {S1 S2 : ST} (As : List Value) (st0 : List Value) {x : Int32} {y : MethodName} {ws : List Cond} {rm : Room} {index maxL nL n : Nat} {bytes : ByteArray} {ret : Option FieldType} (hM : MC G p s m args c cc Ts own) (hml : c.maxLocals = nL) (hls : ls.size = nL) (hW : WB G S1 s H locs) (hC : Ct l y ws rm G S1 As (some (.int x)) S2 0 0) (cw : CallB R s args own index y bytes maxL ret ws rm 0 0 n ∧ (Cond.static y).before args s = true) (hn : As.length = n) (hstack : rest = As.reverse ++ st0) (hr : (st0.map fun v => v.category).sum ≤ 8) (hf : cells ≤ R.cells ∧ slots ≤ R.slots) (hdg : decode cc pc = .ok (.invokestatic index, 3))
    (kk : ∀ (H1 : Heap) (locs1 : List Loc), WB G S2 s H1 locs1 → (∀ a, gC (S1 a) ≠ 0 → gC (S2 a) = gC (S1 a)) → W p l e R s m args below meth c H1 locs1 cells slots Q (F0 m (pc + 3) ls (.int x :: st0))) : W p l e R s m args below meth c H locs cells slots Q (F0 m pc ls rest) := b_callS hM hml hls hW hC cw hn hstack hr hf hdg kk
theorem keep_at {ci : Nat} {w : GV} (hc : gC v = ci + 1) (hk : ∀ b, gC (st S a v b) ≠ 0 → gC (st S a w b) = gC (st S a v b)) : gC w = ci + 1 := by
  have h := hk a (by rw [st_same, hc]; omega)
  rw [st_same, st_same] at h
  exact h.trans hc
theorem keep_s2 {ci : Nat} {w : GV} (h0 : gC v = ci + 1) (h1 : gC w = ci + 1) : ∀ b, gC (st S a v b) ≠ 0 → gC (st S a w b) = gC (st S a v b) := fun b _ => by
  by_cases e : b = a
  · subst e; rw [st_same, st_same, h0, h1]
  · rw [st_ne _ _ e, st_ne _ _ e]
theorem sw_out {x : Int32} {lo hi : Int} (h : ∀ j : Int, lo ≤ j → j ≤ hi → ¬ x.toInt = j) : x.toInt < lo ∨ hi < x.toInt := by
  rcases Int.lt_or_le x.toInt lo with h1 | h1
  · exact Or.inl h1
  · rcases Int.lt_or_le hi x.toInt with h2 | h2
    · exact Or.inr h2
    · exact absurd rfl (h x.toInt h1 h2)
end ROWS3
/-- the end of a method that makes nothing -/
abbrev QR (G : GG) (below : List Frame) (args : Array Value) (s : State) (o : Option Value) (S0 S1 : ST) : State → Prop := MQ below (Qz G o S0 S1) args s 0 0 (OU G)
/-! ===== one list of words for all methods ===== -/
theorem wgm {c w : Cond} (h : w ∈ wsL_law0) : w ∈ c :: wsL_law0 := List.mem_cons_of_mem _ h
theorem gV {cm cy : Cond} {own C : String} {idx : Nat} {y : MethodName} (h1 : Cond.methodLink own idx y ∈ wsL_law0) (h2 : Cond.instanceMethod y ∈ wsL_law0) (h3 : Cond.selects C y y ∈ wsL_law0) (h4 : Cond.initialized C ∈ wsL_law0) (h5 : cy ∈ wsL_law0) : GoodIn (cm :: wsL_law0) (wsV own idx C y (cy :: wsL_law0)) := by
  intro w hw
  have : w ∈ wsL_law0 := by
    unfold wsV at hw
    simp only [List.mem_append, List.mem_cons, List.not_mem_nil, or_false] at hw
    rcases hw with (rfl | rfl | rfl | rfl) | rfl | h <;> assumption
  exact ⟨List.mem_cons_of_mem _ this, good_of_word (List.all_eq_true.mp WG_good w this)⟩
theorem gS {cm cy : Cond} {own : String} {idx : Nat} {y : MethodName} (h1 : Cond.methodLink own idx y ∈ wsL_law0) (h2 : Cond.static y ∈ wsL_law0) (h4 : Cond.initialized y.cls ∈ wsL_law0) (h5 : cy ∈ wsL_law0) : GoodIn (cm :: wsL_law0) (va_wsS own idx y (cy :: wsL_law0)) := by
  intro w hw
  have : w ∈ wsL_law0 := by
    unfold va_wsS at hw
    simp only [List.mem_append, List.mem_cons, List.not_mem_nil, or_false] at hw
    rcases hw with (rfl | rfl | rfl) | rfl | h <;> assumption
  exact ⟨List.mem_cons_of_mem _ this, good_of_word (List.all_eq_true.mp WG_good w this)⟩
theorem wi_X1 {c : Cond} : ∀ w ∈ wsX10, w ∈ c :: wsL_law0 := fun w h => List.mem_cons_of_mem _ (inWX1 w h)
theorem wi_X2 {c : Cond} : ∀ w ∈ wsX20, w ∈ c :: wsL_law0 := fun w h => List.mem_cons_of_mem _ (inWX2 w h)
theorem wi_X3 {c : Cond} : ∀ w ∈ wsX30, w ∈ c :: wsL_law0 := fun w h => List.mem_cons_of_mem _ (inWX3 w h)
theorem wi_X4 {c : Cond} : ∀ w ∈ wsX40, w ∈ c :: wsL_law0 := fun w h => List.mem_cons_of_mem _ (inWX4 w h)
theorem wi_X5 {c : Cond} : ∀ w ∈ wsX50, w ∈ c :: wsL_law0 := fun w h => List.mem_cons_of_mem _ (inWX5 w h)
theorem wi_X6 {c : Cond} : ∀ w ∈ wsX60, w ∈ c :: wsL_law0 := fun w h => List.mem_cons_of_mem _ (inWX6 w h)
theorem wi_X7 {c : Cond} : ∀ w ∈ wsX70, w ∈ c :: wsL_law0 := fun w h => List.mem_cons_of_mem _ (inWX7 w h)
theorem wi_X8 {c : Cond} : ∀ w ∈ wsX80, w ∈ c :: wsL_law0 := fun w h => List.mem_cons_of_mem _ (inWX8 w h)
theorem wi_X9 {c : Cond} : ∀ w ∈ wsX90, w ∈ c :: wsL_law0 := fun w h => List.mem_cons_of_mem _ (inWX9 w h)
theorem wi_X11 {c : Cond} : ∀ w ∈ wsX110, w ∈ c :: wsL_law0 := fun w h => List.mem_cons_of_mem _ (inWX11 w h)
theorem wi_X12 {c : Cond} : ∀ w ∈ wsX120, w ∈ c :: wsL_law0 := fun w h => List.mem_cons_of_mem _ (inWX12 w h)
theorem wi_X13 {c : Cond} : ∀ w ∈ wsX130, w ∈ c :: wsL_law0 := fun w h => List.mem_cons_of_mem _ (inWX13 w h)
theorem inb_lt {i : Int32} {n : Nat} (h : inb i n = true) : i.toNatClampNeg < n := by
  simp only [inb, Bool.and_eq_true, decide_eq_true_eq] at h
  exact h.2
