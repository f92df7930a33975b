/-! ===== pure part: how the methods' functions run: the words, the groups' fields, small numbers ===== -/
theorem nm_eq {α β : Type} (x : α) (k : α → β) : nm x k = k x := (id rfl)
theorem ck_t {β : Type} (k : Option β) : ck true k = k := (id rfl)
theorem bd_s {α β : Type} (x : α) (k : α → Option β) : bd (some x) k = k x := (id rfl)
theorem bd2_s {α γ β : Type} (x : α) (y : γ) (k : α → γ → Option β) : bd2 (some (x, y)) k = k x y := (id rfl)
theorem gA_sA (v : GV) (k i j : Nat) (x : Int32) : gA (sA v k i x) k j = if j = i then x else gA v k j := by simp [gA, sA, sAf, va_up, upd]
theorem gA_sAn (v : GV) {k k' : Nat} (i : Nat) (x : Int32) (h : k' ≠ k) : gA (sA v k i x) k' = gA v k' := by funext j; simp [gA, sA, sAf, va_up, h]
theorem gI_sA (v : GV) (k i j : Nat) (x : Int32) : gI (sA v k i x) j = gI v j := (id rfl)
theorem gJ_sA (v : GV) (k i j : Nat) (x : Int32) : gJ (sA v k i x) j = gJ v j := (id rfl)
theorem gL_sA (v : GV) (k i j : Nat) (x : Int32) : gL (sA v k i x) j = gL v j := (id rfl)
theorem gR_sA (v : GV) (k i j : Nat) (x : Int32) : gR (sA v k i x) j = gR v j := (id rfl)
theorem gQ_sA (v : GV) (k i j : Nat) (x : Int32) : gQ (sA v k i x) j = gQ v j := (id rfl)
theorem gN_sA (v : GV) (k i j : Nat) (x : Int32) : gN (sA v k i x) j = gN v j := (id rfl)
theorem gC_sA (v : GV) (k i : Nat) (x : Int32) : gC (sA v k i x) = gC v := (id rfl)
theorem gA_sAf (v : GV) (k : Nat) (f : Nat → Int32) : gA (sAf v k f) k = f := by funext j; simp [gA, sAf, va_up]
theorem gA_sAfn (v : GV) {k k' : Nat} (f : Nat → Int32) (h : k' ≠ k) : gA (sAf v k f) k' = gA v k' := by funext j; simp [gA, sAf, va_up, h]
theorem gI_sAf (v : GV) (k j : Nat) (f : Nat → Int32) : gI (sAf v k f) j = gI v j := (id rfl)
theorem gJ_sAf (v : GV) (k j : Nat) (f : Nat → Int32) : gJ (sAf v k f) j = gJ v j := (id rfl)
theorem gL_sAf (v : GV) (k j : Nat) (f : Nat → Int32) : gL (sAf v k f) j = gL v j := (id rfl)
theorem gR_sAf (v : GV) (k j : Nat) (f : Nat → Int32) : gR (sAf v k f) j = gR v j := (id rfl)
theorem gQ_sAf (v : GV) (k j : Nat) (f : Nat → Int32) : gQ (sAf v k f) j = gQ v j := (id rfl)
theorem gN_sAf (v : GV) (k j : Nat) (f : Nat → Int32) : gN (sAf v k f) j = gN v j := (id rfl)
theorem gC_sAf (v : GV) (k : Nat) (f : Nat → Int32) : gC (sAf v k f) = gC v := (id rfl)
theorem gI_sI (v : GV) (k j : Nat) (x : Int32) : gI (sI v k x) j = if j = k then x else gI v j := by simp [gI, sI, va_up]
theorem gA_sI (v : GV) (k j : Nat) (x : Int32) : gA (sI v k x) j = gA v j := (id rfl)
theorem gJ_sI (v : GV) (k j : Nat) (x : Int32) : gJ (sI v k x) j = gJ v j := (id rfl)
theorem gL_sI (v : GV) (k j : Nat) (x : Int32) : gL (sI v k x) j = gL v j := (id rfl)
theorem gR_sI (v : GV) (k j : Nat) (x : Int32) : gR (sI v k x) j = gR v j := (id rfl)
theorem gQ_sI (v : GV) (k j : Nat) (x : Int32) : gQ (sI v k x) j = gQ v j := (id rfl)
theorem gN_sI (v : GV) (k j : Nat) (x : Int32) : gN (sI v k x) j = gN v j := (id rfl)
theorem gC_sI (v : GV) (k : Nat) (x : Int32) : gC (sI v k x) = gC v := (id rfl)
theorem gL_sL (v : GV) (k i j : Nat) (x : Int64) : gL (sL v k i x) k j = if j = i then x else gL v k j := by simp [gL, sL, sLf, va_up, vp_updL]
theorem gL_sLn (v : GV) {k k' : Nat} (i : Nat) (x : Int64) (h : k' ≠ k) : gL (sL v k i x) k' = gL v k' := by funext j; simp [gL, sL, sLf, va_up, h]
theorem gA_sL (v : GV) (k i j : Nat) (x : Int64) : gA (sL v k i x) j = gA v j := (id rfl)
theorem gI_sL (v : GV) (k i j : Nat) (x : Int64) : gI (sL v k i x) j = gI v j := (id rfl)
theorem gR_sL (v : GV) (k i j : Nat) (x : Int64) : gR (sL v k i x) j = gR v j := (id rfl)
theorem gQ_sL (v : GV) (k i j : Nat) (x : Int64) : gQ (sL v k i x) j = gQ v j := (id rfl)
theorem gN_sL (v : GV) (k i j : Nat) (x : Int64) : gN (sL v k i x) j = gN v j := (id rfl)
theorem gC_sL (v : GV) (k i : Nat) (x : Int64) : gC (sL v k i x) = gC v := (id rfl)
theorem gR_sR (v : GV) (k j : Nat) (x : Option Nat) : gR (sR v k x) j = if j = k then x else gR v j := by simp [gR, sR, va_up]
theorem gA_sR (v : GV) (k j : Nat) (x : Option Nat) : gA (sR v k x) j = gA v j := (id rfl)
theorem gI_sR (v : GV) (k j : Nat) (x : Option Nat) : gI (sR v k x) j = gI v j := (id rfl)
theorem gL_sR (v : GV) (k j : Nat) (x : Option Nat) : gL (sR v k x) j = gL v j := (id rfl)
theorem gJ_sR (v : GV) (k j : Nat) (x : Option Nat) : gJ (sR v k x) j = gJ v j := (id rfl)
theorem gQ_sR (v : GV) (k j : Nat) (x : Option Nat) : gQ (sR v k x) j = gQ v j := (id rfl)
theorem gN_sR (v : GV) (k j : Nat) (x : Option Nat) : gN (sR v k x) j = gN v j := (id rfl)
theorem gC_sR (v : GV) (k : Nat) (x : Option Nat) : gC (sR v k x) = gC v := (id rfl)
theorem gJ_sJ (v : GV) (k j : Nat) (x : Int64) : gJ (sJ v k x) j = if j = k then x else gJ v j := by simp [gJ, sJ, va_up]
theorem gA_sJ (v : GV) (k j : Nat) (x : Int64) : gA (sJ v k x) j = gA v j := (id rfl)
theorem gI_sJ (v : GV) (k j : Nat) (x : Int64) : gI (sJ v k x) j = gI v j := (id rfl)
theorem gL_sJ (v : GV) (k j : Nat) (x : Int64) : gL (sJ v k x) j = gL v j := (id rfl)
theorem gR_sJ (v : GV) (k j : Nat) (x : Int64) : gR (sJ v k x) j = gR v j := (id rfl)
theorem gQ_sJ (v : GV) (k j : Nat) (x : Int64) : gQ (sJ v k x) j = gQ v j := (id rfl)
theorem gN_sJ (v : GV) (k j : Nat) (x : Int64) : gN (sJ v k x) j = gN v j := (id rfl)
theorem gC_sJ (v : GV) (k : Nat) (x : Int64) : gC (sJ v k x) = gC v := (id rfl)
theorem sAf_sAf (v : GV) (k : Nat) (f g : Nat → Int32) : sAf (sAf v k f) k g = sAf v k g := by
  simp only [sAf]
  congr 3
  funext j
  by_cases h : j = k <;> simp [va_up, h]
theorem sAf_self (v : GV) (k : Nat) : sAf v k (gA v k) = v := by
  have : va_up v.2.2.1 k (gA v k) = v.2.2.1 := by
    funext j
    by_cases h : j = k
    · subst h; simp [va_up, gA]; rfl
    · simp [va_up, h]
  simp [sAf, this]
theorem inb_n {k n : Nat} (h : k < n) (hn : n < 2147483648) : inb (nI k) n = true := by
  have hk : k < 2 ^ 31 := by omega
  simp [inb, nI_clamp hk, h, nI_pos hk]
theorem li_0 : (0 : Int32) = nI 0 := by decide
theorem li_1 : (1 : Int32) = nI 1 := by decide
theorem li_2 : (2 : Int32) = nI 2 := by decide
theorem li_3 : (3 : Int32) = nI 3 := by decide
theorem li_4 : (4 : Int32) = nI 4 := by decide
theorem li_5 : (5 : Int32) = nI 5 := by decide
theorem li_6 : (6 : Int32) = nI 6 := by decide
theorem li_7 : (7 : Int32) = nI 7 := by decide
theorem li_8 : (8 : Int32) = nI 8 := by decide
theorem li_9 : (9 : Int32) = nI 9 := by decide
theorem li_10 : (10 : Int32) = nI 10 := by decide
theorem li_11 : (11 : Int32) = nI 11 := by decide
theorem li_12 : (12 : Int32) = nI 12 := by decide
theorem li_13 : (13 : Int32) = nI 13 := by decide
theorem li_14 : (14 : Int32) = nI 14 := by decide
theorem li_15 : (15 : Int32) = nI 15 := by decide
theorem li_16 : (16 : Int32) = nI 16 := by decide
theorem li_17 : (17 : Int32) = nI 17 := by decide
theorem li_18 : (18 : Int32) = nI 18 := by decide
theorem li_19 : (19 : Int32) = nI 19 := by decide
theorem li_20 : (20 : Int32) = nI 20 := by decide
theorem li_21 : (21 : Int32) = nI 21 := by decide
theorem li_22 : (22 : Int32) = nI 22 := by decide
theorem li_23 : (23 : Int32) = nI 23 := by decide
theorem li_24 : (24 : Int32) = nI 24 := by decide
theorem li_25 : (25 : Int32) = nI 25 := by decide
theorem li_26 : (26 : Int32) = nI 26 := by decide
theorem li_27 : (27 : Int32) = nI 27 := by decide
theorem li_28 : (28 : Int32) = nI 28 := by decide
theorem li_29 : (29 : Int32) = nI 29 := by decide
theorem li_30 : (30 : Int32) = nI 30 := by decide
theorem li_31 : (31 : Int32) = nI 31 := by decide
theorem li_32 : (32 : Int32) = nI 32 := by decide
theorem li_33 : (33 : Int32) = nI 33 := by decide
theorem li_34 : (34 : Int32) = nI 34 := by decide
theorem li_35 : (35 : Int32) = nI 35 := by decide
theorem li_36 : (36 : Int32) = nI 36 := by decide
theorem li_37 : (37 : Int32) = nI 37 := by decide
theorem li_38 : (38 : Int32) = nI 38 := by decide
theorem li_39 : (39 : Int32) = nI 39 := by decide
theorem li_40 : (40 : Int32) = nI 40 := by decide
theorem li_41 : (41 : Int32) = nI 41 := by decide
theorem li_42 : (42 : Int32) = nI 42 := by decide
theorem li_43 : (43 : Int32) = nI 43 := by decide
theorem li_44 : (44 : Int32) = nI 44 := by decide
theorem li_45 : (45 : Int32) = nI 45 := by decide
theorem li_46 : (46 : Int32) = nI 46 := by decide
theorem li_47 : (47 : Int32) = nI 47 := by decide
theorem li_48 : (48 : Int32) = nI 48 := by decide
theorem li_49 : (49 : Int32) = nI 49 := by decide
theorem li_50 : (50 : Int32) = nI 50 := by decide
theorem li_51 : (51 : Int32) = nI 51 := by decide
theorem li_52 : (52 : Int32) = nI 52 := by decide
theorem li_53 : (53 : Int32) = nI 53 := by decide
theorem li_54 : (54 : Int32) = nI 54 := by decide
theorem li_55 : (55 : Int32) = nI 55 := by decide
theorem li_56 : (56 : Int32) = nI 56 := by decide
theorem li_57 : (57 : Int32) = nI 57 := by decide
theorem li_58 : (58 : Int32) = nI 58 := by decide
theorem li_59 : (59 : Int32) = nI 59 := by decide
theorem li_60 : (60 : Int32) = nI 60 := by decide
theorem li_61 : (61 : Int32) = nI 61 := by decide
theorem li_62 : (62 : Int32) = nI 62 := by decide
theorem li_63 : (63 : Int32) = nI 63 := by decide
theorem li_64 : (64 : Int32) = nI 64 := by decide
theorem li_65 : (65 : Int32) = nI 65 := by decide
theorem li_66 : (66 : Int32) = nI 66 := by decide
theorem li_96 : (96 : Int32) = nI 96 := by decide
theorem li_97 : (97 : Int32) = nI 97 := by decide
theorem li_99 : (99 : Int32) = nI 99 := by decide
theorem li_100 : (100 : Int32) = nI 100 := by decide
theorem li_122 : (122 : Int32) = nI 122 := by decide
theorem li_125 : (125 : Int32) = nI 125 := by decide
theorem li_126 : (126 : Int32) = nI 126 := by decide
theorem li_140 : (140 : Int32) = nI 140 := by decide
theorem li_255 : (255 : Int32) = nI 255 := by decide
theorem li_256 : (256 : Int32) = nI 256 := by decide
theorem li_999 : (999 : Int32) = nI 999 := by decide
theorem li_1000 : (1000 : Int32) = nI 1000 := by decide
theorem li_1001 : (1001 : Int32) = nI 1001 := by decide
theorem li_1002 : (1002 : Int32) = nI 1002 := by decide
theorem li_1100 : (1100 : Int32) = nI 1100 := by decide
theorem li_1386 : (1386 : Int32) = nI 1386 := by decide
theorem li_1452 : (1452 : Int32) = nI 1452 := by decide
theorem li_1518 : (1518 : Int32) = nI 1518 := by decide
theorem li_9999 : (9999 : Int32) = nI 9999 := by decide
theorem li_1000000 : (1000000 : Int32) = nI 1000000 := by decide
def mI (k : Nat) : Int32 := -(nI k)
theorem lm_1 : (-1 : Int32) = mI 1 := by decide
theorem lm_2 : (-2 : Int32) = mI 2 := by decide
theorem lm_3 : (-3 : Int32) = mI 3 := by decide
theorem lm_4 : (-4 : Int32) = mI 4 := by decide
theorem lm_5 : (-5 : Int32) = mI 5 := by decide
theorem lm_6 : (-6 : Int32) = mI 6 := by decide
theorem lm_7 : (-7 : Int32) = mI 7 := by decide
theorem lm_8 : (-8 : Int32) = mI 8 := by decide
theorem lm_9 : (-9 : Int32) = mI 9 := by decide
theorem lm_10 : (-10 : Int32) = mI 10 := by decide
theorem lm_11 : (-11 : Int32) = mI 11 := by decide
theorem lq1_s {A β : Type} (f : (A → Option β) → A → Option β) (n : Nat) (a : A) : lq_1 f (n + 1) a = f (lq_1 f n) a := (id rfl)
theorem lq2_s {A B β : Type} (f : (A → B → Option β) → A → B → Option β) (n : Nat) (a : A) (b : B) : lq_2 f (n + 1) a b = f (lq_2 f n) a b := (id rfl)
theorem lq3_s {A B C β : Type} (f : (A → B → C → Option β) → A → B → C → Option β) (n : Nat) (a : A) (b : B) (c : C) : lq_3 f (n + 1) a b c = f (lq_3 f n) a b c := (id rfl)
theorem lq4_s {A B C D β : Type} (f : (A → B → C → D → Option β) → A → B → C → D → Option β) (n : Nat) (a : A) (b : B) (c : C) (d : D) : lq_4 f (n + 1) a b c d = f (lq_4 f n) a b c d := (id rfl)
/-- where an argument is: below, above, or a number under n -/
theorem ixc (x : Int32) (n : Nat) (hn : n < 2147483648) : ((x < 0 ∨ nI n ≤ x) ∧ ¬ ∃ j, j < n ∧ x = nI j) ∨ ∃ j, j < n ∧ x = nI j := by
  rcases pk_ix x (n := n) (by omega) with h | h | ⟨j, hj, rfl⟩
  · refine Or.inl ⟨Or.inl h, ?_⟩
    rintro ⟨j, hj, rfl⟩
    exact nI_pos (by omega) h
  · refine Or.inl ⟨Or.inr h, ?_⟩
    rintro ⟨j, hj, rfl⟩
    rw [nI_leI (by omega) (by omega)] at h
    omega
  · exact Or.inr ⟨j, hj, rfl⟩
theorem nI_andN {a b : Nat} (ha : a < 4294967296) (hb : b < 4294967296) : nI a &&& nI b = nI (a &&& b) := by
  apply Int32.toBitVec_inj.mp
  apply BitVec.eq_of_toNat_eq
  have h : (a &&& b) < 2 ^ 32 := Nat.lt_of_le_of_lt Nat.and_le_left (by omega)
  rw [Int32.toBitVec_and, BitVec.toNat_and, pk_tn (by omega), pk_tn (by omega), pk_tn h]
theorem nI_orN {a b : Nat} (ha : a < 4294967296) (hb : b < 4294967296) : nI a ||| nI b = nI (a ||| b) := by
  apply Int32.toBitVec_inj.mp
  apply BitVec.eq_of_toNat_eq
  have h : (a ||| b) < 2 ^ 32 := Nat.or_lt_two_pow (by omega) (by omega)
  rw [Int32.toBitVec_or, BitVec.toNat_or, pk_tn (by omega), pk_tn (by omega), pk_tn h]
theorem nI_xorN {a b : Nat} (ha : a < 4294967296) (hb : b < 4294967296) : nI a ^^^ nI b = nI (a ^^^ b) := by
  apply Int32.toBitVec_inj.mp
  apply BitVec.eq_of_toNat_eq
  have h : (a ^^^ b) < 2 ^ 32 := Nat.xor_lt_two_pow (by omega) (by omega)
  rw [Int32.toBitVec_xor, BitVec.toNat_xor, pk_tn (by omega), pk_tn (by omega), pk_tn h]
theorem smodN {k : Nat} (hk : k < 32) : ((nI k).toBitVec.smod 32).toNat = k := by
  have h : (List.range 32).all (fun k => decide (((nI k).toBitVec.smod 32).toNat = k)) = true := by decide +kernel
  exact co_dec h hk
theorem nI_shrN {a k : Nat} (ha : a < 2147483648) (hk : k < 32) : nI a >>> nI k = nI (a / 2 ^ k) := pk_shrN (by omega) _ k (smodN hk)
theorem nI_shl1 {k : Nat} (hk : k < 32) : nI 1 <<< nI k = nI (2 ^ k) := by
  have h : (List.range 32).all (fun k => decide (nI 1 <<< nI k = nI (2 ^ k))) = true := by decide +kernel
  exact co_dec h hk
theorem nI_and31 {k : Nat} (hk : k < 32) : nI k &&& nI 31 = nI k := by
  rw [nI_andN (by omega) (by omega)]
  congr 1
  rw [show (31 : Nat) = 2 ^ 5 - 1 from rfl, Nat.and_two_pow_sub_one_eq_mod]
  omega
theorem nI_and1 {a : Nat} (ha : a < 4294967296) : nI a &&& nI 1 = nI (a % 2) := by
  rw [nI_andN ha (by omega)]
  congr 1
  rw [show (1 : Nat) = 2 ^ 1 - 1 from rfl, Nat.and_two_pow_sub_one_eq_mod]
theorem nI_mulN (a b : Nat) : nI a * nI b = nI (a * b) := pk_mul a b
/-- the bit k of x -/
def bt (x k : Nat) : Nat := x / 2 ^ k % 2
theorem bt_lt (x k : Nat) : bt x k < 2 := Nat.mod_lt _ (by decide)
theorem nI_bt {a k : Nat} (ha : a < 2147483648) (hk : k < 32) : (nI a >>> nI k) &&& nI 1 = nI (bt a k) := by
  rw [nI_shrN ha hk, nI_and1 (Nat.lt_of_le_of_lt (Nat.div_le_self _ _) (by omega))]; rfl
def bs (x : Nat) : Nat → Nat
  | 0 => 0
  | k + 1 => bs x k + bt x k
/-- how many bits are set -/
def pcn (x : Nat) : Nat := bs x 30
theorem bs_le (x k : Nat) : bs x k ≤ k := by
  induction k with
  | zero => exact Nat.le_refl _
  | succ k ih => have := bt_lt x k; simp only [bs]; omega
theorem mI_sub1 (n : Nat) : nI (n + 1) + mI 1 = nI n := by
  have := pk_m1 n
  rwa [show (-1 : Int32) = mI 1 by decide] at this
theorem mI_toInt {k : Nat} (h : k < 100) : (mI k).toInt = -(k : Int) := by
  have h : (List.range 100).all (fun k => decide ((mI k).toInt = -(k : Int))) = true := by decide +kernel
  exact co_dec h ‹_›
theorem nI_nlem {a k : Nat} (ha : a < 2147483648) (hk : k < 100) (h0 : 0 < k) : ¬ nI a ≤ mI k := by
  rw [Int32.le_iff_toInt_le, nI_toInt (by omega), mI_toInt hk]
  omega
theorem nI_nem {a k : Nat} (ha : a < 2147483648) (hk : k < 100) (h0 : 0 < k) : ¬ nI a = mI k := by
  intro q
  have := congrArg Int32.toInt q
  rw [nI_toInt (by omega), mI_toInt hk] at this
  omega
theorem mI_le {a b : Nat} (ha : a < 100) (hb : b < 100) : mI a ≤ mI b ↔ b ≤ a := by
  rw [Int32.le_iff_toInt_le, mI_toInt ha, mI_toInt hb]
  omega
theorem mI_eq {a b : Nat} (ha : a < 100) (hb : b < 100) : mI a = mI b ↔ a = b := by
  constructor
  · intro q
    have := congrArg Int32.toInt q
    rw [mI_toInt ha, mI_toInt hb] at this
    omega
  · rintro rfl; rfl
