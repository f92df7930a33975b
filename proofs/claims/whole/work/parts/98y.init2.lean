/-! ===== the constructor of the class (printed by mkinit2.py) ===== -/
theorem off_out {a j k n : Nat} (h : j < k ∨ k + n ≤ j) : a + j < a + k ∨ a + k + n ≤ a + j := by omega
def J12_0 (a : Nat) (S : ST) : Prop := (gC (S a) = 23)
def J12_1 (a : Nat) (S : ST) : Prop := (gC (S a) = 23) ∧ (gC (S (a + 1)) = 8 ∧ gI (S (a + 1)) 6 = nI 0) ∧ (gR (S a) 0 = (some (a + 1))) ∧ (gC (S (a + 6)) = 2 ∧ gR (S (a + 6)) 0 = some (a + 1)) ∧ (gC (S (a + 7)) = 5 ∧ gR (S (a + 7)) 0 = some (a + 1)) ∧ (gR (S a) 1 = (some (a + 6))) ∧ (gC (S (a + 9)) = 3 ∧ CHL (S (a + 9)) (q00, lk0)) ∧ (gR (S a) 2 = (some (a + 9)))
def J12_2 (a : Nat) (S : ST) : Prop := (gC (S a) = 23) ∧ (gC (S (a + 1)) = 8 ∧ gI (S (a + 1)) 6 = nI 0) ∧ (gR (S a) 0 = (some (a + 1))) ∧ (gC (S (a + 6)) = 2 ∧ gR (S (a + 6)) 0 = some (a + 1)) ∧ (gC (S (a + 7)) = 5 ∧ gR (S (a + 7)) 0 = some (a + 1)) ∧ (gR (S a) 1 = (some (a + 6))) ∧ (gC (S (a + 9)) = 3 ∧ CHL (S (a + 9)) (q00, lk0)) ∧ (gR (S a) 2 = (some (a + 9))) ∧ (gC (S (a + 16)) = 3 ∧ CHL (S (a + 16)) (q00, lk0)) ∧ (gR (S a) 3 = (some (a + 16))) ∧ (gR (S a) 4 = (some (a + 23))) ∧ (gR (S a) 5 = (some (a + 24))) ∧ (gC (S (a + 25)) = 9) ∧ (gR (S a) 6 = (some (a + 25))) ∧ (gC (S (a + 23)) = 29) ∧ (gN (S (a + 23)) 0 = 17) ∧ (gC (S (a + 24)) = 29) ∧ (gN (S (a + 24)) 0 = 4)
def J12_3 (a : Nat) (S : ST) : Prop := (gC (S a) = 23) ∧ (gC (S (a + 1)) = 8 ∧ gI (S (a + 1)) 6 = nI 0) ∧ (gR (S a) 0 = (some (a + 1))) ∧ (gC (S (a + 6)) = 2 ∧ gR (S (a + 6)) 0 = some (a + 1)) ∧ (gC (S (a + 7)) = 5 ∧ gR (S (a + 7)) 0 = some (a + 1)) ∧ (gR (S a) 1 = (some (a + 6))) ∧ (gC (S (a + 9)) = 3 ∧ CHL (S (a + 9)) (q00, lk0)) ∧ (gR (S a) 2 = (some (a + 9))) ∧ (gC (S (a + 16)) = 3 ∧ CHL (S (a + 16)) (q00, lk0)) ∧ (gR (S a) 3 = (some (a + 16))) ∧ (gR (S a) 4 = (some (a + 23))) ∧ (gR (S a) 5 = (some (a + 24))) ∧ (gC (S (a + 25)) = 9) ∧ (gR (S a) 6 = (some (a + 25))) ∧ (gC (S (a + 23)) = 29) ∧ (gN (S (a + 23)) 0 = 17) ∧ (gC (S (a + 24)) = 29) ∧ (gN (S (a + 24)) 0 = 4) ∧ (gC (S (a + 29)) = 7) ∧ (gR (S a) 7 = (some (a + 29))) ∧ (gC (S (a + 32)) = 10) ∧ (gC (S (a + 33)) = 3) ∧ (gR (S a) 8 = (some (a + 32))) ∧ (S (a + 40) = barr 1 32) ∧ (gR (S a) 9 = (some (a + 40))) ∧ (S (a + 41) = barr 1 9) ∧ (gR (S a) 10 = (some (a + 41)))
def J12_4 (a : Nat) (S : ST) : Prop := (gC (S a) = 23) ∧ (gC (S (a + 1)) = 8 ∧ gI (S (a + 1)) 6 = nI 0) ∧ (gR (S a) 0 = (some (a + 1))) ∧ (gC (S (a + 6)) = 2 ∧ gR (S (a + 6)) 0 = some (a + 1)) ∧ (gC (S (a + 7)) = 5 ∧ gR (S (a + 7)) 0 = some (a + 1)) ∧ (gR (S a) 1 = (some (a + 6))) ∧ (gC (S (a + 9)) = 3 ∧ CHL (S (a + 9)) (q00, lk0)) ∧ (gR (S a) 2 = (some (a + 9))) ∧ (gC (S (a + 16)) = 3 ∧ CHL (S (a + 16)) (q00, lk0)) ∧ (gR (S a) 3 = (some (a + 16))) ∧ (gR (S a) 4 = (some (a + 23))) ∧ (gR (S a) 5 = (some (a + 24))) ∧ (gC (S (a + 25)) = 9) ∧ (gR (S a) 6 = (some (a + 25))) ∧ (gC (S (a + 23)) = 29) ∧ (gN (S (a + 23)) 0 = 17) ∧ (gC (S (a + 24)) = 29) ∧ (gN (S (a + 24)) 0 = 4) ∧ (gC (S (a + 29)) = 7) ∧ (gR (S a) 7 = (some (a + 29))) ∧ (gC (S (a + 32)) = 10) ∧ (gC (S (a + 33)) = 3) ∧ (gR (S a) 8 = (some (a + 32))) ∧ (S (a + 40) = barr 1 32) ∧ (gR (S a) 9 = (some (a + 40))) ∧ (S (a + 41) = barr 1 9) ∧ (gR (S a) 10 = (some (a + 41))) ∧ (S (a + 42) = barr 1 9) ∧ (gR (S a) 11 = (some (a + 42))) ∧ (gC (S (a + 43)) = 1 ∧ gI (S (a + 43)) 8 = nI 0 ∧ gI (S (a + 43)) 9 = nI 0 ∧ gI (S (a + 43)) 10 = nI 0 ∧ gR (S (a + 43)) 11 = none ∧ gR (S (a + 43)) 12 = none) ∧ (gC (S (a + 51)) = 3 ∧ CHL (S (a + 51)) (q00, lk0)) ∧ (gR (S a) 12 = (some (a + 43))) ∧ (gC (S (a + 58)) = 1 ∧ gI (S (a + 58)) 8 = nI 0 ∧ gI (S (a + 58)) 9 = nI 0 ∧ gI (S (a + 58)) 10 = nI 0 ∧ gR (S (a + 58)) 11 = none ∧ gR (S (a + 58)) 12 = none) ∧ (gC (S (a + 66)) = 3 ∧ CHL (S (a + 66)) (q00, lk0)) ∧ (gR (S a) 13 = (some (a + 58))) ∧ (gC (S (a + 73)) = 6 ∧ gI (S (a + 73)) 4 = nI 0) ∧ (gR (S a) 14 = (some (a + 73)))
def J12_5 (a : Nat) (S : ST) : Prop := (gC (S a) = 23) ∧ (gC (S (a + 1)) = 8 ∧ gI (S (a + 1)) 6 = nI 0) ∧ (gR (S a) 0 = (some (a + 1))) ∧ (gC (S (a + 6)) = 2 ∧ gR (S (a + 6)) 0 = some (a + 1)) ∧ (gC (S (a + 7)) = 5 ∧ gR (S (a + 7)) 0 = some (a + 1)) ∧ (gR (S a) 1 = (some (a + 6))) ∧ (gC (S (a + 9)) = 3 ∧ CHL (S (a + 9)) (q00, lk0)) ∧ (gR (S a) 2 = (some (a + 9))) ∧ (gC (S (a + 16)) = 3 ∧ CHL (S (a + 16)) (q00, lk0)) ∧ (gR (S a) 3 = (some (a + 16))) ∧ (gR (S a) 4 = (some (a + 23))) ∧ (gR (S a) 5 = (some (a + 24))) ∧ (gC (S (a + 25)) = 9) ∧ (gR (S a) 6 = (some (a + 25))) ∧ (gC (S (a + 23)) = 29) ∧ (gN (S (a + 23)) 0 = 17) ∧ (gC (S (a + 24)) = 29) ∧ (gN (S (a + 24)) 0 = 4) ∧ (gC (S (a + 29)) = 7) ∧ (gR (S a) 7 = (some (a + 29))) ∧ (gC (S (a + 32)) = 10) ∧ (gC (S (a + 33)) = 3) ∧ (gR (S a) 8 = (some (a + 32))) ∧ (S (a + 40) = barr 1 32) ∧ (gR (S a) 9 = (some (a + 40))) ∧ (S (a + 41) = barr 1 9) ∧ (gR (S a) 10 = (some (a + 41))) ∧ (S (a + 42) = barr 1 9) ∧ (gR (S a) 11 = (some (a + 42))) ∧ (gC (S (a + 43)) = 1 ∧ gI (S (a + 43)) 8 = nI 0 ∧ gI (S (a + 43)) 9 = nI 0 ∧ gI (S (a + 43)) 10 = nI 0 ∧ gR (S (a + 43)) 11 = none ∧ gR (S (a + 43)) 12 = none) ∧ (gC (S (a + 51)) = 3 ∧ CHL (S (a + 51)) (q00, lk0)) ∧ (gR (S a) 12 = (some (a + 43))) ∧ (gC (S (a + 58)) = 1 ∧ gI (S (a + 58)) 8 = nI 0 ∧ gI (S (a + 58)) 9 = nI 0 ∧ gI (S (a + 58)) 10 = nI 0 ∧ gR (S (a + 58)) 11 = none ∧ gR (S (a + 58)) 12 = none) ∧ (gC (S (a + 66)) = 3 ∧ CHL (S (a + 66)) (q00, lk0)) ∧ (gR (S a) 13 = (some (a + 58))) ∧ (gC (S (a + 73)) = 6 ∧ gI (S (a + 73)) 4 = nI 0) ∧ (gR (S a) 14 = (some (a + 73))) ∧ (gC (S (a + 78)) = 6 ∧ gI (S (a + 78)) 4 = nI 0) ∧ (gR (S a) 15 = (some (a + 78))) ∧ (gI (S a) 16 = nI 0) ∧ (gI (S a) 17 = nI 0) ∧ (gI (S a) 18 = nI 0) ∧ (gC (S (a + 83)) = 3 ∧ CHL (S (a + 83)) (q00, lk0)) ∧ (∀ i, i < 1 → gQ (S (a + 23)) 0 i = some (a + 83 + 7 * i))
def J12_6 (a : Nat) (S : ST) : Prop := (gC (S a) = 23) ∧ (gC (S (a + 1)) = 8 ∧ gI (S (a + 1)) 6 = nI 0) ∧ (gR (S a) 0 = (some (a + 1))) ∧ (gC (S (a + 6)) = 2 ∧ gR (S (a + 6)) 0 = some (a + 1)) ∧ (gC (S (a + 7)) = 5 ∧ gR (S (a + 7)) 0 = some (a + 1)) ∧ (gR (S a) 1 = (some (a + 6))) ∧ (gC (S (a + 9)) = 3 ∧ CHL (S (a + 9)) (q00, lk0)) ∧ (gR (S a) 2 = (some (a + 9))) ∧ (gC (S (a + 16)) = 3 ∧ CHL (S (a + 16)) (q00, lk0)) ∧ (gR (S a) 3 = (some (a + 16))) ∧ (gR (S a) 4 = (some (a + 23))) ∧ (gR (S a) 5 = (some (a + 24))) ∧ (gC (S (a + 25)) = 9) ∧ (gR (S a) 6 = (some (a + 25))) ∧ (gC (S (a + 23)) = 29) ∧ (gN (S (a + 23)) 0 = 17) ∧ (gC (S (a + 24)) = 29) ∧ (gN (S (a + 24)) 0 = 4) ∧ (gC (S (a + 29)) = 7) ∧ (gR (S a) 7 = (some (a + 29))) ∧ (gC (S (a + 32)) = 10) ∧ (gC (S (a + 33)) = 3) ∧ (gR (S a) 8 = (some (a + 32))) ∧ (S (a + 40) = barr 1 32) ∧ (gR (S a) 9 = (some (a + 40))) ∧ (S (a + 41) = barr 1 9) ∧ (gR (S a) 10 = (some (a + 41))) ∧ (S (a + 42) = barr 1 9) ∧ (gR (S a) 11 = (some (a + 42))) ∧ (gC (S (a + 43)) = 1 ∧ gI (S (a + 43)) 8 = nI 0 ∧ gI (S (a + 43)) 9 = nI 0 ∧ gI (S (a + 43)) 10 = nI 0 ∧ gR (S (a + 43)) 11 = none ∧ gR (S (a + 43)) 12 = none) ∧ (gC (S (a + 51)) = 3 ∧ CHL (S (a + 51)) (q00, lk0)) ∧ (gR (S a) 12 = (some (a + 43))) ∧ (gC (S (a + 58)) = 1 ∧ gI (S (a + 58)) 8 = nI 0 ∧ gI (S (a + 58)) 9 = nI 0 ∧ gI (S (a + 58)) 10 = nI 0 ∧ gR (S (a + 58)) 11 = none ∧ gR (S (a + 58)) 12 = none) ∧ (gC (S (a + 66)) = 3 ∧ CHL (S (a + 66)) (q00, lk0)) ∧ (gR (S a) 13 = (some (a + 58))) ∧ (gC (S (a + 73)) = 6 ∧ gI (S (a + 73)) 4 = nI 0) ∧ (gR (S a) 14 = (some (a + 73))) ∧ (gC (S (a + 78)) = 6 ∧ gI (S (a + 78)) 4 = nI 0) ∧ (gR (S a) 15 = (some (a + 78))) ∧ (gI (S a) 16 = nI 0) ∧ (gI (S a) 17 = nI 0) ∧ (gI (S a) 18 = nI 0) ∧ (gC (S (a + 83)) = 3 ∧ CHL (S (a + 83)) (q00, lk0)) ∧ (∀ i, i < 3 → gQ (S (a + 23)) 0 i = some (a + 83 + 7 * i)) ∧ (gC (S (a + 90)) = 3 ∧ CHL (S (a + 90)) (q00, lk0)) ∧ (gC (S (a + 97)) = 3 ∧ CHL (S (a + 97)) (q00, lk0))
def J12_7 (a : Nat) (S : ST) : Prop := (gC (S a) = 23) ∧ (gC (S (a + 1)) = 8 ∧ gI (S (a + 1)) 6 = nI 0) ∧ (gR (S a) 0 = (some (a + 1))) ∧ (gC (S (a + 6)) = 2 ∧ gR (S (a + 6)) 0 = some (a + 1)) ∧ (gC (S (a + 7)) = 5 ∧ gR (S (a + 7)) 0 = some (a + 1)) ∧ (gR (S a) 1 = (some (a + 6))) ∧ (gC (S (a + 9)) = 3 ∧ CHL (S (a + 9)) (q00, lk0)) ∧ (gR (S a) 2 = (some (a + 9))) ∧ (gC (S (a + 16)) = 3 ∧ CHL (S (a + 16)) (q00, lk0)) ∧ (gR (S a) 3 = (some (a + 16))) ∧ (gR (S a) 4 = (some (a + 23))) ∧ (gR (S a) 5 = (some (a + 24))) ∧ (gC (S (a + 25)) = 9) ∧ (gR (S a) 6 = (some (a + 25))) ∧ (gC (S (a + 23)) = 29) ∧ (gN (S (a + 23)) 0 = 17) ∧ (gC (S (a + 24)) = 29) ∧ (gN (S (a + 24)) 0 = 4) ∧ (gC (S (a + 29)) = 7) ∧ (gR (S a) 7 = (some (a + 29))) ∧ (gC (S (a + 32)) = 10) ∧ (gC (S (a + 33)) = 3) ∧ (gR (S a) 8 = (some (a + 32))) ∧ (S (a + 40) = barr 1 32) ∧ (gR (S a) 9 = (some (a + 40))) ∧ (S (a + 41) = barr 1 9) ∧ (gR (S a) 10 = (some (a + 41))) ∧ (S (a + 42) = barr 1 9) ∧ (gR (S a) 11 = (some (a + 42))) ∧ (gC (S (a + 43)) = 1 ∧ gI (S (a + 43)) 8 = nI 0 ∧ gI (S (a + 43)) 9 = nI 0 ∧ gI (S (a + 43)) 10 = nI 0 ∧ gR (S (a + 43)) 11 = none ∧ gR (S (a + 43)) 12 = none) ∧ (gC (S (a + 51)) = 3 ∧ CHL (S (a + 51)) (q00, lk0)) ∧ (gR (S a) 12 = (some (a + 43))) ∧ (gC (S (a + 58)) = 1 ∧ gI (S (a + 58)) 8 = nI 0 ∧ gI (S (a + 58)) 9 = nI 0 ∧ gI (S (a + 58)) 10 = nI 0 ∧ gR (S (a + 58)) 11 = none ∧ gR (S (a + 58)) 12 = none) ∧ (gC (S (a + 66)) = 3 ∧ CHL (S (a + 66)) (q00, lk0)) ∧ (gR (S a) 13 = (some (a + 58))) ∧ (gC (S (a + 73)) = 6 ∧ gI (S (a + 73)) 4 = nI 0) ∧ (gR (S a) 14 = (some (a + 73))) ∧ (gC (S (a + 78)) = 6 ∧ gI (S (a + 78)) 4 = nI 0) ∧ (gR (S a) 15 = (some (a + 78))) ∧ (gI (S a) 16 = nI 0) ∧ (gI (S a) 17 = nI 0) ∧ (gI (S a) 18 = nI 0) ∧ (gC (S (a + 83)) = 3 ∧ CHL (S (a + 83)) (q00, lk0)) ∧ (∀ i, i < 5 → gQ (S (a + 23)) 0 i = some (a + 83 + 7 * i)) ∧ (gC (S (a + 90)) = 3 ∧ CHL (S (a + 90)) (q00, lk0)) ∧ (gC (S (a + 97)) = 3 ∧ CHL (S (a + 97)) (q00, lk0)) ∧ (gC (S (a + 104)) = 3 ∧ CHL (S (a + 104)) (q00, lk0)) ∧ (gC (S (a + 111)) = 3 ∧ CHL (S (a + 111)) (q00, lk0))
def J12_8 (a : Nat) (S : ST) : Prop := (gC (S a) = 23) ∧ (gC (S (a + 1)) = 8 ∧ gI (S (a + 1)) 6 = nI 0) ∧ (gR (S a) 0 = (some (a + 1))) ∧ (gC (S (a + 6)) = 2 ∧ gR (S (a + 6)) 0 = some (a + 1)) ∧ (gC (S (a + 7)) = 5 ∧ gR (S (a + 7)) 0 = some (a + 1)) ∧ (gR (S a) 1 = (some (a + 6))) ∧ (gC (S (a + 9)) = 3 ∧ CHL (S (a + 9)) (q00, lk0)) ∧ (gR (S a) 2 = (some (a + 9))) ∧ (gC (S (a + 16)) = 3 ∧ CHL (S (a + 16)) (q00, lk0)) ∧ (gR (S a) 3 = (some (a + 16))) ∧ (gR (S a) 4 = (some (a + 23))) ∧ (gR (S a) 5 = (some (a + 24))) ∧ (gC (S (a + 25)) = 9) ∧ (gR (S a) 6 = (some (a + 25))) ∧ (gC (S (a + 23)) = 29) ∧ (gN (S (a + 23)) 0 = 17) ∧ (gC (S (a + 24)) = 29) ∧ (gN (S (a + 24)) 0 = 4) ∧ (gC (S (a + 29)) = 7) ∧ (gR (S a) 7 = (some (a + 29))) ∧ (gC (S (a + 32)) = 10) ∧ (gC (S (a + 33)) = 3) ∧ (gR (S a) 8 = (some (a + 32))) ∧ (S (a + 40) = barr 1 32) ∧ (gR (S a) 9 = (some (a + 40))) ∧ (S (a + 41) = barr 1 9) ∧ (gR (S a) 10 = (some (a + 41))) ∧ (S (a + 42) = barr 1 9) ∧ (gR (S a) 11 = (some (a + 42))) ∧ (gC (S (a + 43)) = 1 ∧ gI (S (a + 43)) 8 = nI 0 ∧ gI (S (a + 43)) 9 = nI 0 ∧ gI (S (a + 43)) 10 = nI 0 ∧ gR (S (a + 43)) 11 = none ∧ gR (S (a + 43)) 12 = none) ∧ (gC (S (a + 51)) = 3 ∧ CHL (S (a + 51)) (q00, lk0)) ∧ (gR (S a) 12 = (some (a + 43))) ∧ (gC (S (a + 58)) = 1 ∧ gI (S (a + 58)) 8 = nI 0 ∧ gI (S (a + 58)) 9 = nI 0 ∧ gI (S (a + 58)) 10 = nI 0 ∧ gR (S (a + 58)) 11 = none ∧ gR (S (a + 58)) 12 = none) ∧ (gC (S (a + 66)) = 3 ∧ CHL (S (a + 66)) (q00, lk0)) ∧ (gR (S a) 13 = (some (a + 58))) ∧ (gC (S (a + 73)) = 6 ∧ gI (S (a + 73)) 4 = nI 0) ∧ (gR (S a) 14 = (some (a + 73))) ∧ (gC (S (a + 78)) = 6 ∧ gI (S (a + 78)) 4 = nI 0) ∧ (gR (S a) 15 = (some (a + 78))) ∧ (gI (S a) 16 = nI 0) ∧ (gI (S a) 17 = nI 0) ∧ (gI (S a) 18 = nI 0) ∧ (gC (S (a + 83)) = 3 ∧ CHL (S (a + 83)) (q00, lk0)) ∧ (∀ i, i < 7 → gQ (S (a + 23)) 0 i = some (a + 83 + 7 * i)) ∧ (gC (S (a + 90)) = 3 ∧ CHL (S (a + 90)) (q00, lk0)) ∧ (gC (S (a + 97)) = 3 ∧ CHL (S (a + 97)) (q00, lk0)) ∧ (gC (S (a + 104)) = 3 ∧ CHL (S (a + 104)) (q00, lk0)) ∧ (gC (S (a + 111)) = 3 ∧ CHL (S (a + 111)) (q00, lk0)) ∧ (gC (S (a + 118)) = 3 ∧ CHL (S (a + 118)) (q00, lk0)) ∧ (gC (S (a + 125)) = 3 ∧ CHL (S (a + 125)) (q00, lk0))
def J12_9 (a : Nat) (S : ST) : Prop := (gC (S a) = 23) ∧ (gC (S (a + 1)) = 8 ∧ gI (S (a + 1)) 6 = nI 0) ∧ (gR (S a) 0 = (some (a + 1))) ∧ (gC (S (a + 6)) = 2 ∧ gR (S (a + 6)) 0 = some (a + 1)) ∧ (gC (S (a + 7)) = 5 ∧ gR (S (a + 7)) 0 = some (a + 1)) ∧ (gR (S a) 1 = (some (a + 6))) ∧ (gC (S (a + 9)) = 3 ∧ CHL (S (a + 9)) (q00, lk0)) ∧ (gR (S a) 2 = (some (a + 9))) ∧ (gC (S (a + 16)) = 3 ∧ CHL (S (a + 16)) (q00, lk0)) ∧ (gR (S a) 3 = (some (a + 16))) ∧ (gR (S a) 4 = (some (a + 23))) ∧ (gR (S a) 5 = (some (a + 24))) ∧ (gC (S (a + 25)) = 9) ∧ (gR (S a) 6 = (some (a + 25))) ∧ (gC (S (a + 23)) = 29) ∧ (gN (S (a + 23)) 0 = 17) ∧ (gC (S (a + 24)) = 29) ∧ (gN (S (a + 24)) 0 = 4) ∧ (gC (S (a + 29)) = 7) ∧ (gR (S a) 7 = (some (a + 29))) ∧ (gC (S (a + 32)) = 10) ∧ (gC (S (a + 33)) = 3) ∧ (gR (S a) 8 = (some (a + 32))) ∧ (S (a + 40) = barr 1 32) ∧ (gR (S a) 9 = (some (a + 40))) ∧ (S (a + 41) = barr 1 9) ∧ (gR (S a) 10 = (some (a + 41))) ∧ (S (a + 42) = barr 1 9) ∧ (gR (S a) 11 = (some (a + 42))) ∧ (gC (S (a + 43)) = 1 ∧ gI (S (a + 43)) 8 = nI 0 ∧ gI (S (a + 43)) 9 = nI 0 ∧ gI (S (a + 43)) 10 = nI 0 ∧ gR (S (a + 43)) 11 = none ∧ gR (S (a + 43)) 12 = none) ∧ (gC (S (a + 51)) = 3 ∧ CHL (S (a + 51)) (q00, lk0)) ∧ (gR (S a) 12 = (some (a + 43))) ∧ (gC (S (a + 58)) = 1 ∧ gI (S (a + 58)) 8 = nI 0 ∧ gI (S (a + 58)) 9 = nI 0 ∧ gI (S (a + 58)) 10 = nI 0 ∧ gR (S (a + 58)) 11 = none ∧ gR (S (a + 58)) 12 = none) ∧ (gC (S (a + 66)) = 3 ∧ CHL (S (a + 66)) (q00, lk0)) ∧ (gR (S a) 13 = (some (a + 58))) ∧ (gC (S (a + 73)) = 6 ∧ gI (S (a + 73)) 4 = nI 0) ∧ (gR (S a) 14 = (some (a + 73))) ∧ (gC (S (a + 78)) = 6 ∧ gI (S (a + 78)) 4 = nI 0) ∧ (gR (S a) 15 = (some (a + 78))) ∧ (gI (S a) 16 = nI 0) ∧ (gI (S a) 17 = nI 0) ∧ (gI (S a) 18 = nI 0) ∧ (gC (S (a + 83)) = 3 ∧ CHL (S (a + 83)) (q00, lk0)) ∧ (∀ i, i < 9 → gQ (S (a + 23)) 0 i = some (a + 83 + 7 * i)) ∧ (gC (S (a + 90)) = 3 ∧ CHL (S (a + 90)) (q00, lk0)) ∧ (gC (S (a + 97)) = 3 ∧ CHL (S (a + 97)) (q00, lk0)) ∧ (gC (S (a + 104)) = 3 ∧ CHL (S (a + 104)) (q00, lk0)) ∧ (gC (S (a + 111)) = 3 ∧ CHL (S (a + 111)) (q00, lk0)) ∧ (gC (S (a + 118)) = 3 ∧ CHL (S (a + 118)) (q00, lk0)) ∧ (gC (S (a + 125)) = 3 ∧ CHL (S (a + 125)) (q00, lk0)) ∧ (gC (S (a + 132)) = 3 ∧ CHL (S (a + 132)) (q00, lk0)) ∧ (gC (S (a + 139)) = 3 ∧ CHL (S (a + 139)) (q00, lk0))
def J12_10 (a : Nat) (S : ST) : Prop := (gC (S a) = 23) ∧ (gC (S (a + 1)) = 8 ∧ gI (S (a + 1)) 6 = nI 0) ∧ (gR (S a) 0 = (some (a + 1))) ∧ (gC (S (a + 6)) = 2 ∧ gR (S (a + 6)) 0 = some (a + 1)) ∧ (gC (S (a + 7)) = 5 ∧ gR (S (a + 7)) 0 = some (a + 1)) ∧ (gR (S a) 1 = (some (a + 6))) ∧ (gC (S (a + 9)) = 3 ∧ CHL (S (a + 9)) (q00, lk0)) ∧ (gR (S a) 2 = (some (a + 9))) ∧ (gC (S (a + 16)) = 3 ∧ CHL (S (a + 16)) (q00, lk0)) ∧ (gR (S a) 3 = (some (a + 16))) ∧ (gR (S a) 4 = (some (a + 23))) ∧ (gR (S a) 5 = (some (a + 24))) ∧ (gC (S (a + 25)) = 9) ∧ (gR (S a) 6 = (some (a + 25))) ∧ (gC (S (a + 23)) = 29) ∧ (gN (S (a + 23)) 0 = 17) ∧ (gC (S (a + 24)) = 29) ∧ (gN (S (a + 24)) 0 = 4) ∧ (gC (S (a + 29)) = 7) ∧ (gR (S a) 7 = (some (a + 29))) ∧ (gC (S (a + 32)) = 10) ∧ (gC (S (a + 33)) = 3) ∧ (gR (S a) 8 = (some (a + 32))) ∧ (S (a + 40) = barr 1 32) ∧ (gR (S a) 9 = (some (a + 40))) ∧ (S (a + 41) = barr 1 9) ∧ (gR (S a) 10 = (some (a + 41))) ∧ (S (a + 42) = barr 1 9) ∧ (gR (S a) 11 = (some (a + 42))) ∧ (gC (S (a + 43)) = 1 ∧ gI (S (a + 43)) 8 = nI 0 ∧ gI (S (a + 43)) 9 = nI 0 ∧ gI (S (a + 43)) 10 = nI 0 ∧ gR (S (a + 43)) 11 = none ∧ gR (S (a + 43)) 12 = none) ∧ (gC (S (a + 51)) = 3 ∧ CHL (S (a + 51)) (q00, lk0)) ∧ (gR (S a) 12 = (some (a + 43))) ∧ (gC (S (a + 58)) = 1 ∧ gI (S (a + 58)) 8 = nI 0 ∧ gI (S (a + 58)) 9 = nI 0 ∧ gI (S (a + 58)) 10 = nI 0 ∧ gR (S (a + 58)) 11 = none ∧ gR (S (a + 58)) 12 = none) ∧ (gC (S (a + 66)) = 3 ∧ CHL (S (a + 66)) (q00, lk0)) ∧ (gR (S a) 13 = (some (a + 58))) ∧ (gC (S (a + 73)) = 6 ∧ gI (S (a + 73)) 4 = nI 0) ∧ (gR (S a) 14 = (some (a + 73))) ∧ (gC (S (a + 78)) = 6 ∧ gI (S (a + 78)) 4 = nI 0) ∧ (gR (S a) 15 = (some (a + 78))) ∧ (gI (S a) 16 = nI 0) ∧ (gI (S a) 17 = nI 0) ∧ (gI (S a) 18 = nI 0) ∧ (gC (S (a + 83)) = 3 ∧ CHL (S (a + 83)) (q00, lk0)) ∧ (∀ i, i < 11 → gQ (S (a + 23)) 0 i = some (a + 83 + 7 * i)) ∧ (gC (S (a + 90)) = 3 ∧ CHL (S (a + 90)) (q00, lk0)) ∧ (gC (S (a + 97)) = 3 ∧ CHL (S (a + 97)) (q00, lk0)) ∧ (gC (S (a + 104)) = 3 ∧ CHL (S (a + 104)) (q00, lk0)) ∧ (gC (S (a + 111)) = 3 ∧ CHL (S (a + 111)) (q00, lk0)) ∧ (gC (S (a + 118)) = 3 ∧ CHL (S (a + 118)) (q00, lk0)) ∧ (gC (S (a + 125)) = 3 ∧ CHL (S (a + 125)) (q00, lk0)) ∧ (gC (S (a + 132)) = 3 ∧ CHL (S (a + 132)) (q00, lk0)) ∧ (gC (S (a + 139)) = 3 ∧ CHL (S (a + 139)) (q00, lk0)) ∧ (gC (S (a + 146)) = 3 ∧ CHL (S (a + 146)) (q00, lk0)) ∧ (gC (S (a + 153)) = 3 ∧ CHL (S (a + 153)) (q00, lk0))
def J12_11 (a : Nat) (S : ST) : Prop := (gC (S a) = 23) ∧ (gC (S (a + 1)) = 8 ∧ gI (S (a + 1)) 6 = nI 0) ∧ (gR (S a) 0 = (some (a + 1))) ∧ (gC (S (a + 6)) = 2 ∧ gR (S (a + 6)) 0 = some (a + 1)) ∧ (gC (S (a + 7)) = 5 ∧ gR (S (a + 7)) 0 = some (a + 1)) ∧ (gR (S a) 1 = (some (a + 6))) ∧ (gC (S (a + 9)) = 3 ∧ CHL (S (a + 9)) (q00, lk0)) ∧ (gR (S a) 2 = (some (a + 9))) ∧ (gC (S (a + 16)) = 3 ∧ CHL (S (a + 16)) (q00, lk0)) ∧ (gR (S a) 3 = (some (a + 16))) ∧ (gR (S a) 4 = (some (a + 23))) ∧ (gR (S a) 5 = (some (a + 24))) ∧ (gC (S (a + 25)) = 9) ∧ (gR (S a) 6 = (some (a + 25))) ∧ (gC (S (a + 23)) = 29) ∧ (gN (S (a + 23)) 0 = 17) ∧ (gC (S (a + 24)) = 29) ∧ (gN (S (a + 24)) 0 = 4) ∧ (gC (S (a + 29)) = 7) ∧ (gR (S a) 7 = (some (a + 29))) ∧ (gC (S (a + 32)) = 10) ∧ (gC (S (a + 33)) = 3) ∧ (gR (S a) 8 = (some (a + 32))) ∧ (S (a + 40) = barr 1 32) ∧ (gR (S a) 9 = (some (a + 40))) ∧ (S (a + 41) = barr 1 9) ∧ (gR (S a) 10 = (some (a + 41))) ∧ (S (a + 42) = barr 1 9) ∧ (gR (S a) 11 = (some (a + 42))) ∧ (gC (S (a + 43)) = 1 ∧ gI (S (a + 43)) 8 = nI 0 ∧ gI (S (a + 43)) 9 = nI 0 ∧ gI (S (a + 43)) 10 = nI 0 ∧ gR (S (a + 43)) 11 = none ∧ gR (S (a + 43)) 12 = none) ∧ (gC (S (a + 51)) = 3 ∧ CHL (S (a + 51)) (q00, lk0)) ∧ (gR (S a) 12 = (some (a + 43))) ∧ (gC (S (a + 58)) = 1 ∧ gI (S (a + 58)) 8 = nI 0 ∧ gI (S (a + 58)) 9 = nI 0 ∧ gI (S (a + 58)) 10 = nI 0 ∧ gR (S (a + 58)) 11 = none ∧ gR (S (a + 58)) 12 = none) ∧ (gC (S (a + 66)) = 3 ∧ CHL (S (a + 66)) (q00, lk0)) ∧ (gR (S a) 13 = (some (a + 58))) ∧ (gC (S (a + 73)) = 6 ∧ gI (S (a + 73)) 4 = nI 0) ∧ (gR (S a) 14 = (some (a + 73))) ∧ (gC (S (a + 78)) = 6 ∧ gI (S (a + 78)) 4 = nI 0) ∧ (gR (S a) 15 = (some (a + 78))) ∧ (gI (S a) 16 = nI 0) ∧ (gI (S a) 17 = nI 0) ∧ (gI (S a) 18 = nI 0) ∧ (gC (S (a + 83)) = 3 ∧ CHL (S (a + 83)) (q00, lk0)) ∧ (∀ i, i < 13 → gQ (S (a + 23)) 0 i = some (a + 83 + 7 * i)) ∧ (gC (S (a + 90)) = 3 ∧ CHL (S (a + 90)) (q00, lk0)) ∧ (gC (S (a + 97)) = 3 ∧ CHL (S (a + 97)) (q00, lk0)) ∧ (gC (S (a + 104)) = 3 ∧ CHL (S (a + 104)) (q00, lk0)) ∧ (gC (S (a + 111)) = 3 ∧ CHL (S (a + 111)) (q00, lk0)) ∧ (gC (S (a + 118)) = 3 ∧ CHL (S (a + 118)) (q00, lk0)) ∧ (gC (S (a + 125)) = 3 ∧ CHL (S (a + 125)) (q00, lk0)) ∧ (gC (S (a + 132)) = 3 ∧ CHL (S (a + 132)) (q00, lk0)) ∧ (gC (S (a + 139)) = 3 ∧ CHL (S (a + 139)) (q00, lk0)) ∧ (gC (S (a + 146)) = 3 ∧ CHL (S (a + 146)) (q00, lk0)) ∧ (gC (S (a + 153)) = 3 ∧ CHL (S (a + 153)) (q00, lk0)) ∧ (gC (S (a + 160)) = 3 ∧ CHL (S (a + 160)) (q00, lk0)) ∧ (gC (S (a + 167)) = 3 ∧ CHL (S (a + 167)) (q00, lk0))
def J12_12 (a : Nat) (S : ST) : Prop := (gC (S a) = 23) ∧ (gC (S (a + 1)) = 8 ∧ gI (S (a + 1)) 6 = nI 0) ∧ (gR (S a) 0 = (some (a + 1))) ∧ (gC (S (a + 6)) = 2 ∧ gR (S (a + 6)) 0 = some (a + 1)) ∧ (gC (S (a + 7)) = 5 ∧ gR (S (a + 7)) 0 = some (a + 1)) ∧ (gR (S a) 1 = (some (a + 6))) ∧ (gC (S (a + 9)) = 3 ∧ CHL (S (a + 9)) (q00, lk0)) ∧ (gR (S a) 2 = (some (a + 9))) ∧ (gC (S (a + 16)) = 3 ∧ CHL (S (a + 16)) (q00, lk0)) ∧ (gR (S a) 3 = (some (a + 16))) ∧ (gR (S a) 4 = (some (a + 23))) ∧ (gR (S a) 5 = (some (a + 24))) ∧ (gC (S (a + 25)) = 9) ∧ (gR (S a) 6 = (some (a + 25))) ∧ (gC (S (a + 23)) = 29) ∧ (gN (S (a + 23)) 0 = 17) ∧ (gC (S (a + 24)) = 29) ∧ (gN (S (a + 24)) 0 = 4) ∧ (gC (S (a + 29)) = 7) ∧ (gR (S a) 7 = (some (a + 29))) ∧ (gC (S (a + 32)) = 10) ∧ (gC (S (a + 33)) = 3) ∧ (gR (S a) 8 = (some (a + 32))) ∧ (S (a + 40) = barr 1 32) ∧ (gR (S a) 9 = (some (a + 40))) ∧ (S (a + 41) = barr 1 9) ∧ (gR (S a) 10 = (some (a + 41))) ∧ (S (a + 42) = barr 1 9) ∧ (gR (S a) 11 = (some (a + 42))) ∧ (gC (S (a + 43)) = 1 ∧ gI (S (a + 43)) 8 = nI 0 ∧ gI (S (a + 43)) 9 = nI 0 ∧ gI (S (a + 43)) 10 = nI 0 ∧ gR (S (a + 43)) 11 = none ∧ gR (S (a + 43)) 12 = none) ∧ (gC (S (a + 51)) = 3 ∧ CHL (S (a + 51)) (q00, lk0)) ∧ (gR (S a) 12 = (some (a + 43))) ∧ (gC (S (a + 58)) = 1 ∧ gI (S (a + 58)) 8 = nI 0 ∧ gI (S (a + 58)) 9 = nI 0 ∧ gI (S (a + 58)) 10 = nI 0 ∧ gR (S (a + 58)) 11 = none ∧ gR (S (a + 58)) 12 = none) ∧ (gC (S (a + 66)) = 3 ∧ CHL (S (a + 66)) (q00, lk0)) ∧ (gR (S a) 13 = (some (a + 58))) ∧ (gC (S (a + 73)) = 6 ∧ gI (S (a + 73)) 4 = nI 0) ∧ (gR (S a) 14 = (some (a + 73))) ∧ (gC (S (a + 78)) = 6 ∧ gI (S (a + 78)) 4 = nI 0) ∧ (gR (S a) 15 = (some (a + 78))) ∧ (gI (S a) 16 = nI 0) ∧ (gI (S a) 17 = nI 0) ∧ (gI (S a) 18 = nI 0) ∧ (gC (S (a + 83)) = 3 ∧ CHL (S (a + 83)) (q00, lk0)) ∧ (∀ i, i < 15 → gQ (S (a + 23)) 0 i = some (a + 83 + 7 * i)) ∧ (gC (S (a + 90)) = 3 ∧ CHL (S (a + 90)) (q00, lk0)) ∧ (gC (S (a + 97)) = 3 ∧ CHL (S (a + 97)) (q00, lk0)) ∧ (gC (S (a + 104)) = 3 ∧ CHL (S (a + 104)) (q00, lk0)) ∧ (gC (S (a + 111)) = 3 ∧ CHL (S (a + 111)) (q00, lk0)) ∧ (gC (S (a + 118)) = 3 ∧ CHL (S (a + 118)) (q00, lk0)) ∧ (gC (S (a + 125)) = 3 ∧ CHL (S (a + 125)) (q00, lk0)) ∧ (gC (S (a + 132)) = 3 ∧ CHL (S (a + 132)) (q00, lk0)) ∧ (gC (S (a + 139)) = 3 ∧ CHL (S (a + 139)) (q00, lk0)) ∧ (gC (S (a + 146)) = 3 ∧ CHL (S (a + 146)) (q00, lk0)) ∧ (gC (S (a + 153)) = 3 ∧ CHL (S (a + 153)) (q00, lk0)) ∧ (gC (S (a + 160)) = 3 ∧ CHL (S (a + 160)) (q00, lk0)) ∧ (gC (S (a + 167)) = 3 ∧ CHL (S (a + 167)) (q00, lk0)) ∧ (gC (S (a + 174)) = 3 ∧ CHL (S (a + 174)) (q00, lk0)) ∧ (gC (S (a + 181)) = 3 ∧ CHL (S (a + 181)) (q00, lk0))
def J12_13 (a : Nat) (S : ST) : Prop := (gC (S a) = 23) ∧ (gC (S (a + 1)) = 8 ∧ gI (S (a + 1)) 6 = nI 0) ∧ (gR (S a) 0 = (some (a + 1))) ∧ (gC (S (a + 6)) = 2 ∧ gR (S (a + 6)) 0 = some (a + 1)) ∧ (gC (S (a + 7)) = 5 ∧ gR (S (a + 7)) 0 = some (a + 1)) ∧ (gR (S a) 1 = (some (a + 6))) ∧ (gC (S (a + 9)) = 3 ∧ CHL (S (a + 9)) (q00, lk0)) ∧ (gR (S a) 2 = (some (a + 9))) ∧ (gC (S (a + 16)) = 3 ∧ CHL (S (a + 16)) (q00, lk0)) ∧ (gR (S a) 3 = (some (a + 16))) ∧ (gR (S a) 4 = (some (a + 23))) ∧ (gR (S a) 5 = (some (a + 24))) ∧ (gC (S (a + 25)) = 9) ∧ (gR (S a) 6 = (some (a + 25))) ∧ (gC (S (a + 23)) = 29) ∧ (gN (S (a + 23)) 0 = 17) ∧ (gC (S (a + 24)) = 29) ∧ (gN (S (a + 24)) 0 = 4) ∧ (gC (S (a + 29)) = 7) ∧ (gR (S a) 7 = (some (a + 29))) ∧ (gC (S (a + 32)) = 10) ∧ (gC (S (a + 33)) = 3) ∧ (gR (S a) 8 = (some (a + 32))) ∧ (S (a + 40) = barr 1 32) ∧ (gR (S a) 9 = (some (a + 40))) ∧ (S (a + 41) = barr 1 9) ∧ (gR (S a) 10 = (some (a + 41))) ∧ (S (a + 42) = barr 1 9) ∧ (gR (S a) 11 = (some (a + 42))) ∧ (gC (S (a + 43)) = 1 ∧ gI (S (a + 43)) 8 = nI 0 ∧ gI (S (a + 43)) 9 = nI 0 ∧ gI (S (a + 43)) 10 = nI 0 ∧ gR (S (a + 43)) 11 = none ∧ gR (S (a + 43)) 12 = none) ∧ (gC (S (a + 51)) = 3 ∧ CHL (S (a + 51)) (q00, lk0)) ∧ (gR (S a) 12 = (some (a + 43))) ∧ (gC (S (a + 58)) = 1 ∧ gI (S (a + 58)) 8 = nI 0 ∧ gI (S (a + 58)) 9 = nI 0 ∧ gI (S (a + 58)) 10 = nI 0 ∧ gR (S (a + 58)) 11 = none ∧ gR (S (a + 58)) 12 = none) ∧ (gC (S (a + 66)) = 3 ∧ CHL (S (a + 66)) (q00, lk0)) ∧ (gR (S a) 13 = (some (a + 58))) ∧ (gC (S (a + 73)) = 6 ∧ gI (S (a + 73)) 4 = nI 0) ∧ (gR (S a) 14 = (some (a + 73))) ∧ (gC (S (a + 78)) = 6 ∧ gI (S (a + 78)) 4 = nI 0) ∧ (gR (S a) 15 = (some (a + 78))) ∧ (gI (S a) 16 = nI 0) ∧ (gI (S a) 17 = nI 0) ∧ (gI (S a) 18 = nI 0) ∧ (gC (S (a + 83)) = 3 ∧ CHL (S (a + 83)) (q00, lk0)) ∧ (∀ i, i < 17 → gQ (S (a + 23)) 0 i = some (a + 83 + 7 * i)) ∧ (gC (S (a + 90)) = 3 ∧ CHL (S (a + 90)) (q00, lk0)) ∧ (gC (S (a + 97)) = 3 ∧ CHL (S (a + 97)) (q00, lk0)) ∧ (gC (S (a + 104)) = 3 ∧ CHL (S (a + 104)) (q00, lk0)) ∧ (gC (S (a + 111)) = 3 ∧ CHL (S (a + 111)) (q00, lk0)) ∧ (gC (S (a + 118)) = 3 ∧ CHL (S (a + 118)) (q00, lk0)) ∧ (gC (S (a + 125)) = 3 ∧ CHL (S (a + 125)) (q00, lk0)) ∧ (gC (S (a + 132)) = 3 ∧ CHL (S (a + 132)) (q00, lk0)) ∧ (gC (S (a + 139)) = 3 ∧ CHL (S (a + 139)) (q00, lk0)) ∧ (gC (S (a + 146)) = 3 ∧ CHL (S (a + 146)) (q00, lk0)) ∧ (gC (S (a + 153)) = 3 ∧ CHL (S (a + 153)) (q00, lk0)) ∧ (gC (S (a + 160)) = 3 ∧ CHL (S (a + 160)) (q00, lk0)) ∧ (gC (S (a + 167)) = 3 ∧ CHL (S (a + 167)) (q00, lk0)) ∧ (gC (S (a + 174)) = 3 ∧ CHL (S (a + 174)) (q00, lk0)) ∧ (gC (S (a + 181)) = 3 ∧ CHL (S (a + 181)) (q00, lk0)) ∧ (gC (S (a + 188)) = 3 ∧ CHL (S (a + 188)) (q00, lk0)) ∧ (gC (S (a + 195)) = 3 ∧ CHL (S (a + 195)) (q00, lk0))
def J12_14 (a : Nat) (S : ST) : Prop := (gC (S a) = 23) ∧ (gC (S (a + 1)) = 8 ∧ gI (S (a + 1)) 6 = nI 0) ∧ (gR (S a) 0 = (some (a + 1))) ∧ (gC (S (a + 6)) = 2 ∧ gR (S (a + 6)) 0 = some (a + 1)) ∧ (gC (S (a + 7)) = 5 ∧ gR (S (a + 7)) 0 = some (a + 1)) ∧ (gR (S a) 1 = (some (a + 6))) ∧ (gC (S (a + 9)) = 3 ∧ CHL (S (a + 9)) (q00, lk0)) ∧ (gR (S a) 2 = (some (a + 9))) ∧ (gC (S (a + 16)) = 3 ∧ CHL (S (a + 16)) (q00, lk0)) ∧ (gR (S a) 3 = (some (a + 16))) ∧ (gR (S a) 4 = (some (a + 23))) ∧ (gR (S a) 5 = (some (a + 24))) ∧ (gC (S (a + 25)) = 9) ∧ (gR (S a) 6 = (some (a + 25))) ∧ (gC (S (a + 23)) = 29) ∧ (gN (S (a + 23)) 0 = 17) ∧ (gC (S (a + 24)) = 29) ∧ (gN (S (a + 24)) 0 = 4) ∧ (gC (S (a + 29)) = 7) ∧ (gR (S a) 7 = (some (a + 29))) ∧ (gC (S (a + 32)) = 10) ∧ (gC (S (a + 33)) = 3) ∧ (gR (S a) 8 = (some (a + 32))) ∧ (S (a + 40) = barr 1 32) ∧ (gR (S a) 9 = (some (a + 40))) ∧ (S (a + 41) = barr 1 9) ∧ (gR (S a) 10 = (some (a + 41))) ∧ (S (a + 42) = barr 1 9) ∧ (gR (S a) 11 = (some (a + 42))) ∧ (gC (S (a + 43)) = 1 ∧ gI (S (a + 43)) 8 = nI 0 ∧ gI (S (a + 43)) 9 = nI 0 ∧ gI (S (a + 43)) 10 = nI 0 ∧ gR (S (a + 43)) 11 = none ∧ gR (S (a + 43)) 12 = none) ∧ (gC (S (a + 51)) = 3 ∧ CHL (S (a + 51)) (q00, lk0)) ∧ (gR (S a) 12 = (some (a + 43))) ∧ (gC (S (a + 58)) = 1 ∧ gI (S (a + 58)) 8 = nI 0 ∧ gI (S (a + 58)) 9 = nI 0 ∧ gI (S (a + 58)) 10 = nI 0 ∧ gR (S (a + 58)) 11 = none ∧ gR (S (a + 58)) 12 = none) ∧ (gC (S (a + 66)) = 3 ∧ CHL (S (a + 66)) (q00, lk0)) ∧ (gR (S a) 13 = (some (a + 58))) ∧ (gC (S (a + 73)) = 6 ∧ gI (S (a + 73)) 4 = nI 0) ∧ (gR (S a) 14 = (some (a + 73))) ∧ (gC (S (a + 78)) = 6 ∧ gI (S (a + 78)) 4 = nI 0) ∧ (gR (S a) 15 = (some (a + 78))) ∧ (gI (S a) 16 = nI 0) ∧ (gI (S a) 17 = nI 0) ∧ (gI (S a) 18 = nI 0) ∧ (gC (S (a + 83)) = 3 ∧ CHL (S (a + 83)) (q00, lk0)) ∧ (∀ i, i < 17 → gQ (S (a + 23)) 0 i = some (a + 83 + 7 * i)) ∧ (gC (S (a + 90)) = 3 ∧ CHL (S (a + 90)) (q00, lk0)) ∧ (gC (S (a + 97)) = 3 ∧ CHL (S (a + 97)) (q00, lk0)) ∧ (gC (S (a + 104)) = 3 ∧ CHL (S (a + 104)) (q00, lk0)) ∧ (gC (S (a + 111)) = 3 ∧ CHL (S (a + 111)) (q00, lk0)) ∧ (gC (S (a + 118)) = 3 ∧ CHL (S (a + 118)) (q00, lk0)) ∧ (gC (S (a + 125)) = 3 ∧ CHL (S (a + 125)) (q00, lk0)) ∧ (gC (S (a + 132)) = 3 ∧ CHL (S (a + 132)) (q00, lk0)) ∧ (gC (S (a + 139)) = 3 ∧ CHL (S (a + 139)) (q00, lk0)) ∧ (gC (S (a + 146)) = 3 ∧ CHL (S (a + 146)) (q00, lk0)) ∧ (gC (S (a + 153)) = 3 ∧ CHL (S (a + 153)) (q00, lk0)) ∧ (gC (S (a + 160)) = 3 ∧ CHL (S (a + 160)) (q00, lk0)) ∧ (gC (S (a + 167)) = 3 ∧ CHL (S (a + 167)) (q00, lk0)) ∧ (gC (S (a + 174)) = 3 ∧ CHL (S (a + 174)) (q00, lk0)) ∧ (gC (S (a + 181)) = 3 ∧ CHL (S (a + 181)) (q00, lk0)) ∧ (gC (S (a + 188)) = 3 ∧ CHL (S (a + 188)) (q00, lk0)) ∧ (gC (S (a + 195)) = 3 ∧ CHL (S (a + 195)) (q00, lk0)) ∧ (gC (S (a + 202)) = 3 ∧ CHL (S (a + 202)) (q00, lk0)) ∧ (gC (S (a + 209)) = 3 ∧ CHL (S (a + 209)) (q00, lk0)) ∧ (∀ i, i < 2 → gQ (S (a + 24)) 0 i = some (a + 202 + 7 * i))
def J12_15 (a : Nat) (S : ST) : Prop := (gC (S a) = 23) ∧ (gC (S (a + 1)) = 8 ∧ gI (S (a + 1)) 6 = nI 0) ∧ (gR (S a) 0 = (some (a + 1))) ∧ (gC (S (a + 6)) = 2 ∧ gR (S (a + 6)) 0 = some (a + 1)) ∧ (gC (S (a + 7)) = 5 ∧ gR (S (a + 7)) 0 = some (a + 1)) ∧ (gR (S a) 1 = (some (a + 6))) ∧ (gC (S (a + 9)) = 3 ∧ CHL (S (a + 9)) (q00, lk0)) ∧ (gR (S a) 2 = (some (a + 9))) ∧ (gC (S (a + 16)) = 3 ∧ CHL (S (a + 16)) (q00, lk0)) ∧ (gR (S a) 3 = (some (a + 16))) ∧ (gR (S a) 4 = (some (a + 23))) ∧ (gR (S a) 5 = (some (a + 24))) ∧ (gC (S (a + 25)) = 9) ∧ (gR (S a) 6 = (some (a + 25))) ∧ (gC (S (a + 23)) = 29) ∧ (gN (S (a + 23)) 0 = 17) ∧ (gC (S (a + 24)) = 29) ∧ (gN (S (a + 24)) 0 = 4) ∧ (gC (S (a + 29)) = 7) ∧ (gR (S a) 7 = (some (a + 29))) ∧ (gC (S (a + 32)) = 10) ∧ (gC (S (a + 33)) = 3) ∧ (gR (S a) 8 = (some (a + 32))) ∧ (S (a + 40) = barr 1 32) ∧ (gR (S a) 9 = (some (a + 40))) ∧ (S (a + 41) = barr 1 9) ∧ (gR (S a) 10 = (some (a + 41))) ∧ (S (a + 42) = barr 1 9) ∧ (gR (S a) 11 = (some (a + 42))) ∧ (gC (S (a + 43)) = 1 ∧ gI (S (a + 43)) 8 = nI 0 ∧ gI (S (a + 43)) 9 = nI 0 ∧ gI (S (a + 43)) 10 = nI 0 ∧ gR (S (a + 43)) 11 = none ∧ gR (S (a + 43)) 12 = none) ∧ (gC (S (a + 51)) = 3 ∧ CHL (S (a + 51)) (q00, lk0)) ∧ (gR (S a) 12 = (some (a + 43))) ∧ (gC (S (a + 58)) = 1 ∧ gI (S (a + 58)) 8 = nI 0 ∧ gI (S (a + 58)) 9 = nI 0 ∧ gI (S (a + 58)) 10 = nI 0 ∧ gR (S (a + 58)) 11 = none ∧ gR (S (a + 58)) 12 = none) ∧ (gC (S (a + 66)) = 3 ∧ CHL (S (a + 66)) (q00, lk0)) ∧ (gR (S a) 13 = (some (a + 58))) ∧ (gC (S (a + 73)) = 6 ∧ gI (S (a + 73)) 4 = nI 0) ∧ (gR (S a) 14 = (some (a + 73))) ∧ (gC (S (a + 78)) = 6 ∧ gI (S (a + 78)) 4 = nI 0) ∧ (gR (S a) 15 = (some (a + 78))) ∧ (gI (S a) 16 = nI 0) ∧ (gI (S a) 17 = nI 0) ∧ (gI (S a) 18 = nI 0) ∧ (gC (S (a + 83)) = 3 ∧ CHL (S (a + 83)) (q00, lk0)) ∧ (∀ i, i < 17 → gQ (S (a + 23)) 0 i = some (a + 83 + 7 * i)) ∧ (gC (S (a + 90)) = 3 ∧ CHL (S (a + 90)) (q00, lk0)) ∧ (gC (S (a + 97)) = 3 ∧ CHL (S (a + 97)) (q00, lk0)) ∧ (gC (S (a + 104)) = 3 ∧ CHL (S (a + 104)) (q00, lk0)) ∧ (gC (S (a + 111)) = 3 ∧ CHL (S (a + 111)) (q00, lk0)) ∧ (gC (S (a + 118)) = 3 ∧ CHL (S (a + 118)) (q00, lk0)) ∧ (gC (S (a + 125)) = 3 ∧ CHL (S (a + 125)) (q00, lk0)) ∧ (gC (S (a + 132)) = 3 ∧ CHL (S (a + 132)) (q00, lk0)) ∧ (gC (S (a + 139)) = 3 ∧ CHL (S (a + 139)) (q00, lk0)) ∧ (gC (S (a + 146)) = 3 ∧ CHL (S (a + 146)) (q00, lk0)) ∧ (gC (S (a + 153)) = 3 ∧ CHL (S (a + 153)) (q00, lk0)) ∧ (gC (S (a + 160)) = 3 ∧ CHL (S (a + 160)) (q00, lk0)) ∧ (gC (S (a + 167)) = 3 ∧ CHL (S (a + 167)) (q00, lk0)) ∧ (gC (S (a + 174)) = 3 ∧ CHL (S (a + 174)) (q00, lk0)) ∧ (gC (S (a + 181)) = 3 ∧ CHL (S (a + 181)) (q00, lk0)) ∧ (gC (S (a + 188)) = 3 ∧ CHL (S (a + 188)) (q00, lk0)) ∧ (gC (S (a + 195)) = 3 ∧ CHL (S (a + 195)) (q00, lk0)) ∧ (gC (S (a + 202)) = 3 ∧ CHL (S (a + 202)) (q00, lk0)) ∧ (gC (S (a + 209)) = 3 ∧ CHL (S (a + 209)) (q00, lk0)) ∧ (∀ i, i < 4 → gQ (S (a + 24)) 0 i = some (a + 202 + 7 * i)) ∧ (gC (S (a + 216)) = 3 ∧ CHL (S (a + 216)) (q00, lk0)) ∧ (gC (S (a + 223)) = 3 ∧ CHL (S (a + 223)) (q00, lk0))
set_option maxHeartbeats 4000000 in
theorem sg12_0 {fu : Nat} {G : GG} {S : ST} {a : Nat} {P : ST → Prop} (hJ : J12_0 a S) (nx : ∀ S', J12_1 a S' → ∃ z, f_X12_init_g1 fu G S' a = some z ∧ P z) : ∃ z, f_X12_init fu G S a = some z ∧ P z := by
  have f_C : gC (S a) = 23 := hJ
  unfold f_X12_init
  obtain ⟨V0, h0⟩ : ∃ y, S a = y := ⟨_, rfl⟩
  rw [h0] at f_C
  refine ex_nm (fun S1 he1 => ?_)
  have h0 := (st_at he1 (off_ne0 (j := 1) (by decide))).trans h0
  obtain ⟨S2, e1, e2, he2⟩ := i_X8 (fu := fu) (G := G) (S := S1) (a := a + 1) (by rw [he1, st_same]; rfl)
  refine ex_bd e1 ?_
  have h0 : S2 a = V0 := (sub_at (k := 1) (n := 5) (j := 0) he2 (by decide)).trans h0
  have p1 : gC (S2 (a + 1)) = 8 ∧ gI (S2 (a + 1)) 6 = nI 0 := e2
  refine ex_ck (decide_eq_true (by rw [h0]; exact f_C)) ?_
  refine ex_nm (fun S3 he3 => ?_)
  obtain ⟨V1, eV1⟩ : ∃ y, y = sR V0 0 (some (a + 1)) := ⟨_, rfl⟩
  have h0 : S3 a = V1 := by rw [he3, st_same, h0, eV1]
  refine ex_nm (fun S5 he4 => ?_)
  have h0 := (st_at he4 (off_ne0 (j := 6) (by decide))).trans h0
  refine ex_ck (decide_eq_true (by rw [h0]; exact (by simp only [eV1, gC_sR, gC_sI, gC_sJ, gR_sR, gR_sI, gR_sJ, gI_sR, gI_sI, gI_sJ, Nat.reduceEqDiff, ↓reduceIte]; exact f_C))) ?_
  refine ex_bd (x := a + 1) (by rw [h0]; simp only [eV1, gC_sR, gC_sI, gC_sJ, gR_sR, gR_sI, gR_sJ, gI_sR, gI_sI, gI_sJ, Nat.reduceEqDiff, ↓reduceIte]) ?_
  obtain ⟨S8, e1, e2, he5⟩ := i_X2 (fu := fu) (G := G) (S := S5) (a := a + 6) (g1 := (a + 1)) (by rw [he4, st_same]; rfl)
  refine ex_bd e1 ?_
  have h0 : S8 a = V1 := (sub_at (k := 6) (n := 3) (j := 0) he5 (by decide)).trans h0
  have p6 : gC (S8 (a + 6)) = 2 ∧ gR (S8 (a + 6)) 0 = some (a + 1) := ⟨e2.1, e2.2.1⟩
  have p7 : gC (S8 (a + 7)) = 5 ∧ gR (S8 (a + 7)) 0 = some (a + 1) := e2.2.2
  refine ex_ck (decide_eq_true (by rw [h0]; exact (by simp only [eV1, gC_sR, gC_sI, gC_sJ, gR_sR, gR_sI, gR_sJ, gI_sR, gI_sI, gI_sJ, Nat.reduceEqDiff, ↓reduceIte]; exact f_C))) ?_
  refine ex_nm (fun S9 he6 => ?_)
  obtain ⟨V2, eV2⟩ : ∃ y, y = sR V1 1 (some (a + 6)) := ⟨_, rfl⟩
  have h0 : S9 a = V2 := by rw [he6, st_same, h0, eV2]
  refine ex_nm (fun S11 he7 => ?_)
  have h0 := (st_at he7 (off_ne0 (j := 9) (by decide))).trans h0
  obtain ⟨S12, e1, e2, he8⟩ := i_X3 (fu := fu) (G := G) (S := S11) (a := a + 9) (by rw [he7, st_same]; rfl)
  refine ex_bd e1 ?_
  have h0 : S12 a = V2 := (sub_at (k := 9) (n := 7) (j := 0) he8 (by decide)).trans h0
  have p9 : gC (S12 (a + 9)) = 3 ∧ CHL (S12 (a + 9)) (q00, lk0) := e2
  refine ex_ck (decide_eq_true (by rw [h0]; exact (by simp only [eV2, eV1, gC_sR, gC_sI, gC_sJ, gR_sR, gR_sI, gR_sJ, gI_sR, gI_sI, gI_sJ, Nat.reduceEqDiff, ↓reduceIte]; exact f_C))) ?_
  refine ex_nm (fun S13 he9 => ?_)
  obtain ⟨V3, eV3⟩ : ∃ y, y = sR V2 2 (some (a + 9)) := ⟨_, rfl⟩
  have h0 : S13 a = V3 := by rw [he9, st_same, h0, eV3]
  refine nx S13 ⟨?_, ?_, ?_, ?_, ?_, ?_, ?_, ?_⟩
  · rw [h0]; simp only [eV3, eV2, eV1, gC_sR, gC_sI, gC_sJ, gR_sR, gR_sI, gR_sJ, gI_sR, gI_sI, gI_sJ, Nat.reduceEqDiff, ↓reduceIte]; exact f_C
  · rw [show S13 (a + 1) = S2 (a + 1) from by rw [he9, st_ne _ _ (off_ne0' (j := 1) (by decide)), he8 _ (off_out (j := 1) (k := 9) (n := 7) (by decide)), he7, st_ne _ _ (off_ne (i := 1) (j := 9) (by decide)), he6, st_ne _ _ (off_ne0' (j := 1) (by decide)), he5 _ (off_out (j := 1) (k := 6) (n := 3) (by decide)), he4, st_ne _ _ (off_ne (i := 1) (j := 6) (by decide)), he3, st_ne _ _ (off_ne0' (j := 1) (by decide))]]; exact p1
  · rw [h0]; simp only [eV3, eV2, eV1, gC_sR, gC_sI, gC_sJ, gR_sR, gR_sI, gR_sJ, gI_sR, gI_sI, gI_sJ, Nat.reduceEqDiff, ↓reduceIte]
  · rw [show S13 (a + 6) = S8 (a + 6) from by rw [he9, st_ne _ _ (off_ne0' (j := 6) (by decide)), he8 _ (off_out (j := 6) (k := 9) (n := 7) (by decide)), he7, st_ne _ _ (off_ne (i := 6) (j := 9) (by decide)), he6, st_ne _ _ (off_ne0' (j := 6) (by decide))]]; exact p6
  · rw [show S13 (a + 7) = S8 (a + 7) from by rw [he9, st_ne _ _ (off_ne0' (j := 7) (by decide)), he8 _ (off_out (j := 7) (k := 9) (n := 7) (by decide)), he7, st_ne _ _ (off_ne (i := 7) (j := 9) (by decide)), he6, st_ne _ _ (off_ne0' (j := 7) (by decide))]]; exact p7
  · rw [h0]; simp only [eV3, eV2, eV1, gC_sR, gC_sI, gC_sJ, gR_sR, gR_sI, gR_sJ, gI_sR, gI_sI, gI_sJ, Nat.reduceEqDiff, ↓reduceIte]
  · rw [show S13 (a + 9) = S12 (a + 9) from by rw [he9, st_ne _ _ (off_ne0' (j := 9) (by decide))]]; exact p9
  · rw [h0]; simp only [eV3, eV2, eV1, gC_sR, gC_sI, gC_sJ, gR_sR, gR_sI, gR_sJ, gI_sR, gI_sI, gI_sJ, Nat.reduceEqDiff, ↓reduceIte]
set_option maxHeartbeats 4000000 in
theorem sg12_1 {fu : Nat} {G : GG} {S : ST} {a : Nat} {P : ST → Prop} (hJ : J12_1 a S) (nx : ∀ S', J12_2 a S' → ∃ z, f_X12_init_g2 fu G S' a = some z ∧ P z) : ∃ z, f_X12_init_g1 fu G S a = some z ∧ P z := by
  obtain ⟨f_C, f_P1, f_R0, f_P6, f_P7, f_R1, f_P9, f_R2⟩ := hJ
  unfold f_X12_init_g1
  obtain ⟨V0, h0⟩ : ∃ y, S a = y := ⟨_, rfl⟩
  rw [h0] at f_C f_R0 f_R1 f_R2
  refine ex_nm (fun S15 he1 => ?_)
  have h0 := (st_at he1 (off_ne0 (j := 16) (by decide))).trans h0
  obtain ⟨S16, e1, e2, he2⟩ := i_X3 (fu := fu) (G := G) (S := S15) (a := a + 16) (by rw [he1, st_same]; rfl)
  refine ex_bd e1 ?_
  have h0 : S16 a = V0 := (sub_at (k := 16) (n := 7) (j := 0) he2 (by decide)).trans h0
  have p16 : gC (S16 (a + 16)) = 3 ∧ CHL (S16 (a + 16)) (q00, lk0) := e2
  refine ex_ck (decide_eq_true (by rw [h0]; exact f_C)) ?_
  refine ex_nm (fun S17 he3 => ?_)
  obtain ⟨V1, eV1⟩ : ∃ y, y = sR V0 3 (some (a + 16)) := ⟨_, rfl⟩
  have h0 : S17 a = V1 := by rw [he3, st_same, h0, eV1]
  refine ex_nm (fun S19 he4 => ?_)
  have h0 := (st_at he4 (off_ne0 (j := 23) (by decide))).trans h0
  have h23 : S19 (a + 23) = barr 5 17 := by rw [he4, st_same]
  have w_C23 : gC (barr 5 17) = 29 := rfl
  have w_N23 : gN (barr 5 17) 0 = 17 := rfl
  generalize barr 5 17 = W23 at h23 w_C23 w_N23
  refine ex_ck (decide_eq_true (by rw [h0]; exact (by simp only [eV1, gC_sR, gC_sI, gC_sJ, gR_sR, gR_sI, gR_sJ, gI_sR, gI_sI, gI_sJ, Nat.reduceEqDiff, ↓reduceIte]; exact f_C))) ?_
  refine ex_nm (fun S20 he5 => ?_)
  have h23 := (st_at he5 (off_ne0' (j := 23) (by decide))).trans h23
  obtain ⟨V2, eV2⟩ : ∃ y, y = sR V1 4 (some (a + 23)) := ⟨_, rfl⟩
  have h0 : S20 a = V2 := by rw [he5, st_same, h0, eV2]
  refine ex_nm (fun S22 he6 => ?_)
  have h0 := (st_at he6 (off_ne0 (j := 24) (by decide))).trans h0
  have h23 := (st_at he6 (off_ne (i := 23) (j := 24) (by decide))).trans h23
  have h24 : S22 (a + 24) = barr 5 4 := by rw [he6, st_same]
  have w_C24 : gC (barr 5 4) = 29 := rfl
  have w_N24 : gN (barr 5 4) 0 = 4 := rfl
  generalize barr 5 4 = W24 at h24 w_C24 w_N24
  refine ex_ck (decide_eq_true (by rw [h0]; exact (by simp only [eV2, eV1, gC_sR, gC_sI, gC_sJ, gR_sR, gR_sI, gR_sJ, gI_sR, gI_sI, gI_sJ, Nat.reduceEqDiff, ↓reduceIte]; exact f_C))) ?_
  refine ex_nm (fun S23 he7 => ?_)
  have h23 := (st_at he7 (off_ne0' (j := 23) (by decide))).trans h23
  have h24 := (st_at he7 (off_ne0' (j := 24) (by decide))).trans h24
  obtain ⟨V3, eV3⟩ : ∃ y, y = sR V2 5 (some (a + 24)) := ⟨_, rfl⟩
  have h0 : S23 a = V3 := by rw [he7, st_same, h0, eV3]
  refine ex_nm (fun S25 he8 => ?_)
  have h0 := (st_at he8 (off_ne0 (j := 25) (by decide))).trans h0
  have h23 := (st_at he8 (off_ne (i := 23) (j := 25) (by decide))).trans h23
  have h24 := (st_at he8 (off_ne (i := 24) (j := 25) (by decide))).trans h24
  obtain ⟨S26, e1, e2, he9⟩ := i_X9 (fu := fu) (G := G) (S := S25) (a := a + 25) (by rw [he8, st_same]; rfl)
  refine ex_bd e1 ?_
  have h0 : S26 a = V3 := (sub_at (k := 25) (n := 4) (j := 0) he9 (by decide)).trans h0
  have h23 := (sub_at (k := 25) (n := 4) (j := 23) he9 (by decide)).trans h23
  have h24 := (sub_at (k := 25) (n := 4) (j := 24) he9 (by decide)).trans h24
  have p25 : gC (S26 (a + 25)) = 9 := e2
  refine ex_ck (decide_eq_true (by rw [h0]; exact (by simp only [eV3, eV2, eV1, gC_sR, gC_sI, gC_sJ, gR_sR, gR_sI, gR_sJ, gI_sR, gI_sI, gI_sJ, Nat.reduceEqDiff, ↓reduceIte]; exact f_C))) ?_
  refine ex_nm (fun S27 he10 => ?_)
  have h23 := (st_at he10 (off_ne0' (j := 23) (by decide))).trans h23
  have h24 := (st_at he10 (off_ne0' (j := 24) (by decide))).trans h24
  obtain ⟨V4, eV4⟩ : ∃ y, y = sR V3 6 (some (a + 25)) := ⟨_, rfl⟩
  have h0 : S27 a = V4 := by rw [he10, st_same, h0, eV4]
  refine nx S27 ⟨?_, ?_, ?_, ?_, ?_, ?_, ?_, ?_, ?_, ?_, ?_, ?_, ?_, ?_, ?_, ?_, ?_, ?_⟩
  · rw [h0]; simp only [eV4, eV3, eV2, eV1, gC_sR, gC_sI, gC_sJ, gR_sR, gR_sI, gR_sJ, gI_sR, gI_sI, gI_sJ, Nat.reduceEqDiff, ↓reduceIte]; exact f_C
  · rw [show S27 (a + 1) = S (a + 1) from by rw [he10, st_ne _ _ (off_ne0' (j := 1) (by decide)), he9 _ (off_out (j := 1) (k := 25) (n := 4) (by decide)), he8, st_ne _ _ (off_ne (i := 1) (j := 25) (by decide)), he7, st_ne _ _ (off_ne0' (j := 1) (by decide)), he6, st_ne _ _ (off_ne (i := 1) (j := 24) (by decide)), he5, st_ne _ _ (off_ne0' (j := 1) (by decide)), he4, st_ne _ _ (off_ne (i := 1) (j := 23) (by decide)), he3, st_ne _ _ (off_ne0' (j := 1) (by decide)), he2 _ (off_out (j := 1) (k := 16) (n := 7) (by decide)), he1, st_ne _ _ (off_ne (i := 1) (j := 16) (by decide))]]; exact f_P1
  · rw [h0]; simp only [eV4, eV3, eV2, eV1, gC_sR, gC_sI, gC_sJ, gR_sR, gR_sI, gR_sJ, gI_sR, gI_sI, gI_sJ, Nat.reduceEqDiff, ↓reduceIte]; exact f_R0
  · rw [show S27 (a + 6) = S (a + 6) from by rw [he10, st_ne _ _ (off_ne0' (j := 6) (by decide)), he9 _ (off_out (j := 6) (k := 25) (n := 4) (by decide)), he8, st_ne _ _ (off_ne (i := 6) (j := 25) (by decide)), he7, st_ne _ _ (off_ne0' (j := 6) (by decide)), he6, st_ne _ _ (off_ne (i := 6) (j := 24) (by decide)), he5, st_ne _ _ (off_ne0' (j := 6) (by decide)), he4, st_ne _ _ (off_ne (i := 6) (j := 23) (by decide)), he3, st_ne _ _ (off_ne0' (j := 6) (by decide)), he2 _ (off_out (j := 6) (k := 16) (n := 7) (by decide)), he1, st_ne _ _ (off_ne (i := 6) (j := 16) (by decide))]]; exact f_P6
  · rw [show S27 (a + 7) = S (a + 7) from by rw [he10, st_ne _ _ (off_ne0' (j := 7) (by decide)), he9 _ (off_out (j := 7) (k := 25) (n := 4) (by decide)), he8, st_ne _ _ (off_ne (i := 7) (j := 25) (by decide)), he7, st_ne _ _ (off_ne0' (j := 7) (by decide)), he6, st_ne _ _ (off_ne (i := 7) (j := 24) (by decide)), he5, st_ne _ _ (off_ne0' (j := 7) (by decide)), he4, st_ne _ _ (off_ne (i := 7) (j := 23) (by decide)), he3, st_ne _ _ (off_ne0' (j := 7) (by decide)), he2 _ (off_out (j := 7) (k := 16) (n := 7) (by decide)), he1, st_ne _ _ (off_ne (i := 7) (j := 16) (by decide))]]; exact f_P7
  · rw [h0]; simp only [eV4, eV3, eV2, eV1, gC_sR, gC_sI, gC_sJ, gR_sR, gR_sI, gR_sJ, gI_sR, gI_sI, gI_sJ, Nat.reduceEqDiff, ↓reduceIte]; exact f_R1
  · rw [show S27 (a + 9) = S (a + 9) from by rw [he10, st_ne _ _ (off_ne0' (j := 9) (by decide)), he9 _ (off_out (j := 9) (k := 25) (n := 4) (by decide)), he8, st_ne _ _ (off_ne (i := 9) (j := 25) (by decide)), he7, st_ne _ _ (off_ne0' (j := 9) (by decide)), he6, st_ne _ _ (off_ne (i := 9) (j := 24) (by decide)), he5, st_ne _ _ (off_ne0' (j := 9) (by decide)), he4, st_ne _ _ (off_ne (i := 9) (j := 23) (by decide)), he3, st_ne _ _ (off_ne0' (j := 9) (by decide)), he2 _ (off_out (j := 9) (k := 16) (n := 7) (by decide)), he1, st_ne _ _ (off_ne (i := 9) (j := 16) (by decide))]]; exact f_P9
  · rw [h0]; simp only [eV4, eV3, eV2, eV1, gC_sR, gC_sI, gC_sJ, gR_sR, gR_sI, gR_sJ, gI_sR, gI_sI, gI_sJ, Nat.reduceEqDiff, ↓reduceIte]; exact f_R2
  · rw [show S27 (a + 16) = S16 (a + 16) from by rw [he10, st_ne _ _ (off_ne0' (j := 16) (by decide)), he9 _ (off_out (j := 16) (k := 25) (n := 4) (by decide)), he8, st_ne _ _ (off_ne (i := 16) (j := 25) (by decide)), he7, st_ne _ _ (off_ne0' (j := 16) (by decide)), he6, st_ne _ _ (off_ne (i := 16) (j := 24) (by decide)), he5, st_ne _ _ (off_ne0' (j := 16) (by decide)), he4, st_ne _ _ (off_ne (i := 16) (j := 23) (by decide)), he3, st_ne _ _ (off_ne0' (j := 16) (by decide))]]; exact p16
  · rw [h0]; simp only [eV4, eV3, eV2, eV1, gC_sR, gC_sI, gC_sJ, gR_sR, gR_sI, gR_sJ, gI_sR, gI_sI, gI_sJ, Nat.reduceEqDiff, ↓reduceIte]
  · rw [h0]; simp only [eV4, eV3, eV2, eV1, gC_sR, gC_sI, gC_sJ, gR_sR, gR_sI, gR_sJ, gI_sR, gI_sI, gI_sJ, Nat.reduceEqDiff, ↓reduceIte]
  · rw [h0]; simp only [eV4, eV3, eV2, eV1, gC_sR, gC_sI, gC_sJ, gR_sR, gR_sI, gR_sJ, gI_sR, gI_sI, gI_sJ, Nat.reduceEqDiff, ↓reduceIte]
  · rw [show S27 (a + 25) = S26 (a + 25) from by rw [he10, st_ne _ _ (off_ne0' (j := 25) (by decide))]]; exact p25
  · rw [h0]; simp only [eV4, eV3, eV2, eV1, gC_sR, gC_sI, gC_sJ, gR_sR, gR_sI, gR_sJ, gI_sR, gI_sI, gI_sJ, Nat.reduceEqDiff, ↓reduceIte]
  · rw [h23]; exact w_C23
  · rw [h23]; exact w_N23
  · rw [h24]; exact w_C24
  · rw [h24]; exact w_N24
set_option maxHeartbeats 4000000 in
theorem sg12_2 {fu : Nat} {G : GG} {S : ST} {a : Nat} {P : ST → Prop} (hJ : J12_2 a S) (nx : ∀ S', J12_3 a S' → ∃ z, f_X12_init_g3 fu G S' a = some z ∧ P z) : ∃ z, f_X12_init_g2 fu G S a = some z ∧ P z := by
  obtain ⟨f_C, f_P1, f_R0, f_P6, f_P7, f_R1, f_P9, f_R2, f_P16, f_R3, f_R4, f_R5, f_P25, f_R6, f_C23, f_N23, f_C24, f_N24⟩ := hJ
  unfold f_X12_init_g2
  obtain ⟨V0, h0⟩ : ∃ y, S a = y := ⟨_, rfl⟩
  rw [h0] at f_C f_R0 f_R1 f_R2 f_R3 f_R4 f_R5 f_R6
  refine ex_nm (fun S29 he1 => ?_)
  have h0 := (st_at he1 (off_ne0 (j := 29) (by decide))).trans h0
  obtain ⟨S30, e1, e2, he2⟩ := i_X7 (fu := fu) (G := G) (S := S29) (a := a + 29) (by rw [he1, st_same]; rfl)
  refine ex_bd e1 ?_
  have h0 : S30 a = V0 := (sub_at (k := 29) (n := 3) (j := 0) he2 (by decide)).trans h0
  have p29 : gC (S30 (a + 29)) = 7 := e2
  refine ex_ck (decide_eq_true (by rw [h0]; exact f_C)) ?_
  refine ex_nm (fun S31 he3 => ?_)
  obtain ⟨V1, eV1⟩ : ∃ y, y = sR V0 7 (some (a + 29)) := ⟨_, rfl⟩
  have h0 : S31 a = V1 := by rw [he3, st_same, h0, eV1]
  refine ex_nm (fun S33 he4 => ?_)
  have h0 := (st_at he4 (off_ne0 (j := 32) (by decide))).trans h0
  obtain ⟨S34, e1, e2, he5⟩ := i_X11 (fu := fu) (G := G) (S := S33) (a := a + 32) (by rw [he4, st_same]; rfl)
  refine ex_bd e1 ?_
  have h0 : S34 a = V1 := (sub_at (k := 32) (n := 8) (j := 0) he5 (by decide)).trans h0
  have p32 : gC (S34 (a + 32)) = 10 := e2.1
  have p33 : gC (S34 (a + 33)) = 3 := e2.2
  refine ex_ck (decide_eq_true (by rw [h0]; exact (by simp only [eV1, gC_sR, gC_sI, gC_sJ, gR_sR, gR_sI, gR_sJ, gI_sR, gI_sI, gI_sJ, Nat.reduceEqDiff, ↓reduceIte]; exact f_C))) ?_
  refine ex_nm (fun S35 he6 => ?_)
  obtain ⟨V2, eV2⟩ : ∃ y, y = sR V1 8 (some (a + 32)) := ⟨_, rfl⟩
  have h0 : S35 a = V2 := by rw [he6, st_same, h0, eV2]
  refine ex_nm (fun S37 he7 => ?_)
  have h0 := (st_at he7 (off_ne0 (j := 40) (by decide))).trans h0
  refine ex_ck (decide_eq_true (by rw [h0]; exact (by simp only [eV2, eV1, gC_sR, gC_sI, gC_sJ, gR_sR, gR_sI, gR_sJ, gI_sR, gI_sI, gI_sJ, Nat.reduceEqDiff, ↓reduceIte]; exact f_C))) ?_
  refine ex_nm (fun S38 he8 => ?_)
  obtain ⟨V3, eV3⟩ : ∃ y, y = sR V2 9 (some (a + 40)) := ⟨_, rfl⟩
  have h0 : S38 a = V3 := by rw [he8, st_same, h0, eV3]
  refine ex_nm (fun S40 he9 => ?_)
  have h0 := (st_at he9 (off_ne0 (j := 41) (by decide))).trans h0
  refine ex_ck (decide_eq_true (by rw [h0]; exact (by simp only [eV3, eV2, eV1, gC_sR, gC_sI, gC_sJ, gR_sR, gR_sI, gR_sJ, gI_sR, gI_sI, gI_sJ, Nat.reduceEqDiff, ↓reduceIte]; exact f_C))) ?_
  refine ex_nm (fun S41 he10 => ?_)
  obtain ⟨V4, eV4⟩ : ∃ y, y = sR V3 10 (some (a + 41)) := ⟨_, rfl⟩
  have h0 : S41 a = V4 := by rw [he10, st_same, h0, eV4]
  refine nx S41 ⟨?_, ?_, ?_, ?_, ?_, ?_, ?_, ?_, ?_, ?_, ?_, ?_, ?_, ?_, ?_, ?_, ?_, ?_, ?_, ?_, ?_, ?_, ?_, ?_, ?_, ?_, ?_⟩
  · rw [h0]; simp only [eV4, eV3, eV2, eV1, gC_sR, gC_sI, gC_sJ, gR_sR, gR_sI, gR_sJ, gI_sR, gI_sI, gI_sJ, Nat.reduceEqDiff, ↓reduceIte]; exact f_C
  · rw [show S41 (a + 1) = S (a + 1) from by rw [he10, st_ne _ _ (off_ne0' (j := 1) (by decide)), he9, st_ne _ _ (off_ne (i := 1) (j := 41) (by decide)), he8, st_ne _ _ (off_ne0' (j := 1) (by decide)), he7, st_ne _ _ (off_ne (i := 1) (j := 40) (by decide)), he6, st_ne _ _ (off_ne0' (j := 1) (by decide)), he5 _ (off_out (j := 1) (k := 32) (n := 8) (by decide)), he4, st_ne _ _ (off_ne (i := 1) (j := 32) (by decide)), he3, st_ne _ _ (off_ne0' (j := 1) (by decide)), he2 _ (off_out (j := 1) (k := 29) (n := 3) (by decide)), he1, st_ne _ _ (off_ne (i := 1) (j := 29) (by decide))]]; exact f_P1
  · rw [h0]; simp only [eV4, eV3, eV2, eV1, gC_sR, gC_sI, gC_sJ, gR_sR, gR_sI, gR_sJ, gI_sR, gI_sI, gI_sJ, Nat.reduceEqDiff, ↓reduceIte]; exact f_R0
  · rw [show S41 (a + 6) = S (a + 6) from by rw [he10, st_ne _ _ (off_ne0' (j := 6) (by decide)), he9, st_ne _ _ (off_ne (i := 6) (j := 41) (by decide)), he8, st_ne _ _ (off_ne0' (j := 6) (by decide)), he7, st_ne _ _ (off_ne (i := 6) (j := 40) (by decide)), he6, st_ne _ _ (off_ne0' (j := 6) (by decide)), he5 _ (off_out (j := 6) (k := 32) (n := 8) (by decide)), he4, st_ne _ _ (off_ne (i := 6) (j := 32) (by decide)), he3, st_ne _ _ (off_ne0' (j := 6) (by decide)), he2 _ (off_out (j := 6) (k := 29) (n := 3) (by decide)), he1, st_ne _ _ (off_ne (i := 6) (j := 29) (by decide))]]; exact f_P6
  · rw [show S41 (a + 7) = S (a + 7) from by rw [he10, st_ne _ _ (off_ne0' (j := 7) (by decide)), he9, st_ne _ _ (off_ne (i := 7) (j := 41) (by decide)), he8, st_ne _ _ (off_ne0' (j := 7) (by decide)), he7, st_ne _ _ (off_ne (i := 7) (j := 40) (by decide)), he6, st_ne _ _ (off_ne0' (j := 7) (by decide)), he5 _ (off_out (j := 7) (k := 32) (n := 8) (by decide)), he4, st_ne _ _ (off_ne (i := 7) (j := 32) (by decide)), he3, st_ne _ _ (off_ne0' (j := 7) (by decide)), he2 _ (off_out (j := 7) (k := 29) (n := 3) (by decide)), he1, st_ne _ _ (off_ne (i := 7) (j := 29) (by decide))]]; exact f_P7
  · rw [h0]; simp only [eV4, eV3, eV2, eV1, gC_sR, gC_sI, gC_sJ, gR_sR, gR_sI, gR_sJ, gI_sR, gI_sI, gI_sJ, Nat.reduceEqDiff, ↓reduceIte]; exact f_R1
  · rw [show S41 (a + 9) = S (a + 9) from by rw [he10, st_ne _ _ (off_ne0' (j := 9) (by decide)), he9, st_ne _ _ (off_ne (i := 9) (j := 41) (by decide)), he8, st_ne _ _ (off_ne0' (j := 9) (by decide)), he7, st_ne _ _ (off_ne (i := 9) (j := 40) (by decide)), he6, st_ne _ _ (off_ne0' (j := 9) (by decide)), he5 _ (off_out (j := 9) (k := 32) (n := 8) (by decide)), he4, st_ne _ _ (off_ne (i := 9) (j := 32) (by decide)), he3, st_ne _ _ (off_ne0' (j := 9) (by decide)), he2 _ (off_out (j := 9) (k := 29) (n := 3) (by decide)), he1, st_ne _ _ (off_ne (i := 9) (j := 29) (by decide))]]; exact f_P9
  · rw [h0]; simp only [eV4, eV3, eV2, eV1, gC_sR, gC_sI, gC_sJ, gR_sR, gR_sI, gR_sJ, gI_sR, gI_sI, gI_sJ, Nat.reduceEqDiff, ↓reduceIte]; exact f_R2
  · rw [show S41 (a + 16) = S (a + 16) from by rw [he10, st_ne _ _ (off_ne0' (j := 16) (by decide)), he9, st_ne _ _ (off_ne (i := 16) (j := 41) (by decide)), he8, st_ne _ _ (off_ne0' (j := 16) (by decide)), he7, st_ne _ _ (off_ne (i := 16) (j := 40) (by decide)), he6, st_ne _ _ (off_ne0' (j := 16) (by decide)), he5 _ (off_out (j := 16) (k := 32) (n := 8) (by decide)), he4, st_ne _ _ (off_ne (i := 16) (j := 32) (by decide)), he3, st_ne _ _ (off_ne0' (j := 16) (by decide)), he2 _ (off_out (j := 16) (k := 29) (n := 3) (by decide)), he1, st_ne _ _ (off_ne (i := 16) (j := 29) (by decide))]]; exact f_P16
  · rw [h0]; simp only [eV4, eV3, eV2, eV1, gC_sR, gC_sI, gC_sJ, gR_sR, gR_sI, gR_sJ, gI_sR, gI_sI, gI_sJ, Nat.reduceEqDiff, ↓reduceIte]; exact f_R3
  · rw [h0]; simp only [eV4, eV3, eV2, eV1, gC_sR, gC_sI, gC_sJ, gR_sR, gR_sI, gR_sJ, gI_sR, gI_sI, gI_sJ, Nat.reduceEqDiff, ↓reduceIte]; exact f_R4
  · rw [h0]; simp only [eV4, eV3, eV2, eV1, gC_sR, gC_sI, gC_sJ, gR_sR, gR_sI, gR_sJ, gI_sR, gI_sI, gI_sJ, Nat.reduceEqDiff, ↓reduceIte]; exact f_R5
  · rw [show S41 (a + 25) = S (a + 25) from by rw [he10, st_ne _ _ (off_ne0' (j := 25) (by decide)), he9, st_ne _ _ (off_ne (i := 25) (j := 41) (by decide)), he8, st_ne _ _ (off_ne0' (j := 25) (by decide)), he7, st_ne _ _ (off_ne (i := 25) (j := 40) (by decide)), he6, st_ne _ _ (off_ne0' (j := 25) (by decide)), he5 _ (off_out (j := 25) (k := 32) (n := 8) (by decide)), he4, st_ne _ _ (off_ne (i := 25) (j := 32) (by decide)), he3, st_ne _ _ (off_ne0' (j := 25) (by decide)), he2 _ (off_out (j := 25) (k := 29) (n := 3) (by decide)), he1, st_ne _ _ (off_ne (i := 25) (j := 29) (by decide))]]; exact f_P25
  · rw [h0]; simp only [eV4, eV3, eV2, eV1, gC_sR, gC_sI, gC_sJ, gR_sR, gR_sI, gR_sJ, gI_sR, gI_sI, gI_sJ, Nat.reduceEqDiff, ↓reduceIte]; exact f_R6
  · rw [show S41 (a + 23) = S (a + 23) from by rw [he10, st_ne _ _ (off_ne0' (j := 23) (by decide)), he9, st_ne _ _ (off_ne (i := 23) (j := 41) (by decide)), he8, st_ne _ _ (off_ne0' (j := 23) (by decide)), he7, st_ne _ _ (off_ne (i := 23) (j := 40) (by decide)), he6, st_ne _ _ (off_ne0' (j := 23) (by decide)), he5 _ (off_out (j := 23) (k := 32) (n := 8) (by decide)), he4, st_ne _ _ (off_ne (i := 23) (j := 32) (by decide)), he3, st_ne _ _ (off_ne0' (j := 23) (by decide)), he2 _ (off_out (j := 23) (k := 29) (n := 3) (by decide)), he1, st_ne _ _ (off_ne (i := 23) (j := 29) (by decide))]]; exact f_C23
  · rw [show S41 (a + 23) = S (a + 23) from by rw [he10, st_ne _ _ (off_ne0' (j := 23) (by decide)), he9, st_ne _ _ (off_ne (i := 23) (j := 41) (by decide)), he8, st_ne _ _ (off_ne0' (j := 23) (by decide)), he7, st_ne _ _ (off_ne (i := 23) (j := 40) (by decide)), he6, st_ne _ _ (off_ne0' (j := 23) (by decide)), he5 _ (off_out (j := 23) (k := 32) (n := 8) (by decide)), he4, st_ne _ _ (off_ne (i := 23) (j := 32) (by decide)), he3, st_ne _ _ (off_ne0' (j := 23) (by decide)), he2 _ (off_out (j := 23) (k := 29) (n := 3) (by decide)), he1, st_ne _ _ (off_ne (i := 23) (j := 29) (by decide))]]; exact f_N23
  · rw [show S41 (a + 24) = S (a + 24) from by rw [he10, st_ne _ _ (off_ne0' (j := 24) (by decide)), he9, st_ne _ _ (off_ne (i := 24) (j := 41) (by decide)), he8, st_ne _ _ (off_ne0' (j := 24) (by decide)), he7, st_ne _ _ (off_ne (i := 24) (j := 40) (by decide)), he6, st_ne _ _ (off_ne0' (j := 24) (by decide)), he5 _ (off_out (j := 24) (k := 32) (n := 8) (by decide)), he4, st_ne _ _ (off_ne (i := 24) (j := 32) (by decide)), he3, st_ne _ _ (off_ne0' (j := 24) (by decide)), he2 _ (off_out (j := 24) (k := 29) (n := 3) (by decide)), he1, st_ne _ _ (off_ne (i := 24) (j := 29) (by decide))]]; exact f_C24
  · rw [show S41 (a + 24) = S (a + 24) from by rw [he10, st_ne _ _ (off_ne0' (j := 24) (by decide)), he9, st_ne _ _ (off_ne (i := 24) (j := 41) (by decide)), he8, st_ne _ _ (off_ne0' (j := 24) (by decide)), he7, st_ne _ _ (off_ne (i := 24) (j := 40) (by decide)), he6, st_ne _ _ (off_ne0' (j := 24) (by decide)), he5 _ (off_out (j := 24) (k := 32) (n := 8) (by decide)), he4, st_ne _ _ (off_ne (i := 24) (j := 32) (by decide)), he3, st_ne _ _ (off_ne0' (j := 24) (by decide)), he2 _ (off_out (j := 24) (k := 29) (n := 3) (by decide)), he1, st_ne _ _ (off_ne (i := 24) (j := 29) (by decide))]]; exact f_N24
  · rw [show S41 (a + 29) = S30 (a + 29) from by rw [he10, st_ne _ _ (off_ne0' (j := 29) (by decide)), he9, st_ne _ _ (off_ne (i := 29) (j := 41) (by decide)), he8, st_ne _ _ (off_ne0' (j := 29) (by decide)), he7, st_ne _ _ (off_ne (i := 29) (j := 40) (by decide)), he6, st_ne _ _ (off_ne0' (j := 29) (by decide)), he5 _ (off_out (j := 29) (k := 32) (n := 8) (by decide)), he4, st_ne _ _ (off_ne (i := 29) (j := 32) (by decide)), he3, st_ne _ _ (off_ne0' (j := 29) (by decide))]]; exact p29
  · rw [h0]; simp only [eV4, eV3, eV2, eV1, gC_sR, gC_sI, gC_sJ, gR_sR, gR_sI, gR_sJ, gI_sR, gI_sI, gI_sJ, Nat.reduceEqDiff, ↓reduceIte]
  · rw [show S41 (a + 32) = S34 (a + 32) from by rw [he10, st_ne _ _ (off_ne0' (j := 32) (by decide)), he9, st_ne _ _ (off_ne (i := 32) (j := 41) (by decide)), he8, st_ne _ _ (off_ne0' (j := 32) (by decide)), he7, st_ne _ _ (off_ne (i := 32) (j := 40) (by decide)), he6, st_ne _ _ (off_ne0' (j := 32) (by decide))]]; exact p32
  · rw [show S41 (a + 33) = S34 (a + 33) from by rw [he10, st_ne _ _ (off_ne0' (j := 33) (by decide)), he9, st_ne _ _ (off_ne (i := 33) (j := 41) (by decide)), he8, st_ne _ _ (off_ne0' (j := 33) (by decide)), he7, st_ne _ _ (off_ne (i := 33) (j := 40) (by decide)), he6, st_ne _ _ (off_ne0' (j := 33) (by decide))]]; exact p33
  · rw [h0]; simp only [eV4, eV3, eV2, eV1, gC_sR, gC_sI, gC_sJ, gR_sR, gR_sI, gR_sJ, gI_sR, gI_sI, gI_sJ, Nat.reduceEqDiff, ↓reduceIte]
  · rw [show S41 (a + 40) = S37 (a + 40) from by rw [he10, st_ne _ _ (off_ne0' (j := 40) (by decide)), he9, st_ne _ _ (off_ne (i := 40) (j := 41) (by decide)), he8, st_ne _ _ (off_ne0' (j := 40) (by decide))]]; rw [he7, st_same]
  · rw [h0]; simp only [eV4, eV3, eV2, eV1, gC_sR, gC_sI, gC_sJ, gR_sR, gR_sI, gR_sJ, gI_sR, gI_sI, gI_sJ, Nat.reduceEqDiff, ↓reduceIte]
  · rw [show S41 (a + 41) = S40 (a + 41) from by rw [he10, st_ne _ _ (off_ne0' (j := 41) (by decide))]]; rw [he9, st_same]
  · rw [h0]; simp only [eV4, eV3, eV2, eV1, gC_sR, gC_sI, gC_sJ, gR_sR, gR_sI, gR_sJ, gI_sR, gI_sI, gI_sJ, Nat.reduceEqDiff, ↓reduceIte]
set_option maxHeartbeats 4000000 in
theorem sg12_3 {fu : Nat} {G : GG} {S : ST} {a : Nat} {P : ST → Prop} (hJ : J12_3 a S) (nx : ∀ S', J12_4 a S' → ∃ z, f_X12_init_g4 fu G S' a = some z ∧ P z) : ∃ z, f_X12_init_g3 fu G S a = some z ∧ P z := by
  obtain ⟨f_C, f_P1, f_R0, f_P6, f_P7, f_R1, f_P9, f_R2, f_P16, f_R3, f_R4, f_R5, f_P25, f_R6, f_C23, f_N23, f_C24, f_N24, f_P29, f_R7, f_P32, f_P33, f_R8, f_A40, f_R9, f_A41, f_R10⟩ := hJ
  unfold f_X12_init_g3
  obtain ⟨V0, h0⟩ : ∃ y, S a = y := ⟨_, rfl⟩
  rw [h0] at f_C f_R0 f_R1 f_R2 f_R3 f_R4 f_R5 f_R6 f_R7 f_R8 f_R9 f_R10
  refine ex_nm (fun S43 he1 => ?_)
  have h0 := (st_at he1 (off_ne0 (j := 42) (by decide))).trans h0
  refine ex_ck (decide_eq_true (by rw [h0]; exact f_C)) ?_
  refine ex_nm (fun S44 he2 => ?_)
  obtain ⟨V1, eV1⟩ : ∃ y, y = sR V0 11 (some (a + 42)) := ⟨_, rfl⟩
  have h0 : S44 a = V1 := by rw [he2, st_same, h0, eV1]
  refine ex_nm (fun S46 he3 => ?_)
  have h0 := (st_at he3 (off_ne0 (j := 43) (by decide))).trans h0
  obtain ⟨S47, e1, e2, he4⟩ := i_X1 (fu := fu) (G := G) (S := S46) (a := a + 43) (by rw [he3, st_same]; rfl)
  refine ex_bd e1 ?_
  have h0 : S47 a = V1 := (sub_at (k := 43) (n := 15) (j := 0) he4 (by decide)).trans h0
  have p43 : gC (S47 (a + 43)) = 1 ∧ gI (S47 (a + 43)) 8 = nI 0 ∧ gI (S47 (a + 43)) 9 = nI 0 ∧ gI (S47 (a + 43)) 10 = nI 0 ∧ gR (S47 (a + 43)) 11 = none ∧ gR (S47 (a + 43)) 12 = none := ⟨e2.1, e2.2.1, e2.2.2.1, e2.2.2.2.1, e2.2.2.2.2.1, e2.2.2.2.2.2.1⟩
  have p51 : gC (S47 (a + 51)) = 3 ∧ CHL (S47 (a + 51)) (q00, lk0) := e2.2.2.2.2.2.2
  refine ex_ck (decide_eq_true (by rw [h0]; exact (by simp only [eV1, gC_sR, gC_sI, gC_sJ, gR_sR, gR_sI, gR_sJ, gI_sR, gI_sI, gI_sJ, Nat.reduceEqDiff, ↓reduceIte]; exact f_C))) ?_
  refine ex_nm (fun S48 he5 => ?_)
  obtain ⟨V2, eV2⟩ : ∃ y, y = sR V1 12 (some (a + 43)) := ⟨_, rfl⟩
  have h0 : S48 a = V2 := by rw [he5, st_same, h0, eV2]
  refine ex_nm (fun S50 he6 => ?_)
  have h0 := (st_at he6 (off_ne0 (j := 58) (by decide))).trans h0
  obtain ⟨S51, e1, e2, he7⟩ := i_X1 (fu := fu) (G := G) (S := S50) (a := a + 58) (by rw [he6, st_same]; rfl)
  refine ex_bd e1 ?_
  have h0 : S51 a = V2 := (sub_at (k := 58) (n := 15) (j := 0) he7 (by decide)).trans h0
  have p58 : gC (S51 (a + 58)) = 1 ∧ gI (S51 (a + 58)) 8 = nI 0 ∧ gI (S51 (a + 58)) 9 = nI 0 ∧ gI (S51 (a + 58)) 10 = nI 0 ∧ gR (S51 (a + 58)) 11 = none ∧ gR (S51 (a + 58)) 12 = none := ⟨e2.1, e2.2.1, e2.2.2.1, e2.2.2.2.1, e2.2.2.2.2.1, e2.2.2.2.2.2.1⟩
  have p66 : gC (S51 (a + 66)) = 3 ∧ CHL (S51 (a + 66)) (q00, lk0) := e2.2.2.2.2.2.2
  refine ex_ck (decide_eq_true (by rw [h0]; exact (by simp only [eV2, eV1, gC_sR, gC_sI, gC_sJ, gR_sR, gR_sI, gR_sJ, gI_sR, gI_sI, gI_sJ, Nat.reduceEqDiff, ↓reduceIte]; exact f_C))) ?_
  refine ex_nm (fun S52 he8 => ?_)
  obtain ⟨V3, eV3⟩ : ∃ y, y = sR V2 13 (some (a + 58)) := ⟨_, rfl⟩
  have h0 : S52 a = V3 := by rw [he8, st_same, h0, eV3]
  refine ex_nm (fun S54 he9 => ?_)
  have h0 := (st_at he9 (off_ne0 (j := 73) (by decide))).trans h0
  obtain ⟨S55, e1, e2, he10⟩ := i_X6 (fu := fu) (G := G) (S := S54) (a := a + 73) (by rw [he9, st_same]; rfl)
  refine ex_bd e1 ?_
  have h0 : S55 a = V3 := (sub_at (k := 73) (n := 5) (j := 0) he10 (by decide)).trans h0
  have p73 : gC (S55 (a + 73)) = 6 ∧ gI (S55 (a + 73)) 4 = nI 0 := e2
  refine ex_ck (decide_eq_true (by rw [h0]; exact (by simp only [eV3, eV2, eV1, gC_sR, gC_sI, gC_sJ, gR_sR, gR_sI, gR_sJ, gI_sR, gI_sI, gI_sJ, Nat.reduceEqDiff, ↓reduceIte]; exact f_C))) ?_
  refine ex_nm (fun S56 he11 => ?_)
  obtain ⟨V4, eV4⟩ : ∃ y, y = sR V3 14 (some (a + 73)) := ⟨_, rfl⟩
  have h0 : S56 a = V4 := by rw [he11, st_same, h0, eV4]
  refine nx S56 ⟨?_, ?_, ?_, ?_, ?_, ?_, ?_, ?_, ?_, ?_, ?_, ?_, ?_, ?_, ?_, ?_, ?_, ?_, ?_, ?_, ?_, ?_, ?_, ?_, ?_, ?_, ?_, ?_, ?_, ?_, ?_, ?_, ?_, ?_, ?_, ?_, ?_⟩
  · rw [h0]; simp only [eV4, eV3, eV2, eV1, gC_sR, gC_sI, gC_sJ, gR_sR, gR_sI, gR_sJ, gI_sR, gI_sI, gI_sJ, Nat.reduceEqDiff, ↓reduceIte]; exact f_C
  · rw [show S56 (a + 1) = S (a + 1) from by rw [he11, st_ne _ _ (off_ne0' (j := 1) (by decide)), he10 _ (off_out (j := 1) (k := 73) (n := 5) (by decide)), he9, st_ne _ _ (off_ne (i := 1) (j := 73) (by decide)), he8, st_ne _ _ (off_ne0' (j := 1) (by decide)), he7 _ (off_out (j := 1) (k := 58) (n := 15) (by decide)), he6, st_ne _ _ (off_ne (i := 1) (j := 58) (by decide)), he5, st_ne _ _ (off_ne0' (j := 1) (by decide)), he4 _ (off_out (j := 1) (k := 43) (n := 15) (by decide)), he3, st_ne _ _ (off_ne (i := 1) (j := 43) (by decide)), he2, st_ne _ _ (off_ne0' (j := 1) (by decide)), he1, st_ne _ _ (off_ne (i := 1) (j := 42) (by decide))]]; exact f_P1
  · rw [h0]; simp only [eV4, eV3, eV2, eV1, gC_sR, gC_sI, gC_sJ, gR_sR, gR_sI, gR_sJ, gI_sR, gI_sI, gI_sJ, Nat.reduceEqDiff, ↓reduceIte]; exact f_R0
  · rw [show S56 (a + 6) = S (a + 6) from by rw [he11, st_ne _ _ (off_ne0' (j := 6) (by decide)), he10 _ (off_out (j := 6) (k := 73) (n := 5) (by decide)), he9, st_ne _ _ (off_ne (i := 6) (j := 73) (by decide)), he8, st_ne _ _ (off_ne0' (j := 6) (by decide)), he7 _ (off_out (j := 6) (k := 58) (n := 15) (by decide)), he6, st_ne _ _ (off_ne (i := 6) (j := 58) (by decide)), he5, st_ne _ _ (off_ne0' (j := 6) (by decide)), he4 _ (off_out (j := 6) (k := 43) (n := 15) (by decide)), he3, st_ne _ _ (off_ne (i := 6) (j := 43) (by decide)), he2, st_ne _ _ (off_ne0' (j := 6) (by decide)), he1, st_ne _ _ (off_ne (i := 6) (j := 42) (by decide))]]; exact f_P6
  · rw [show S56 (a + 7) = S (a + 7) from by rw [he11, st_ne _ _ (off_ne0' (j := 7) (by decide)), he10 _ (off_out (j := 7) (k := 73) (n := 5) (by decide)), he9, st_ne _ _ (off_ne (i := 7) (j := 73) (by decide)), he8, st_ne _ _ (off_ne0' (j := 7) (by decide)), he7 _ (off_out (j := 7) (k := 58) (n := 15) (by decide)), he6, st_ne _ _ (off_ne (i := 7) (j := 58) (by decide)), he5, st_ne _ _ (off_ne0' (j := 7) (by decide)), he4 _ (off_out (j := 7) (k := 43) (n := 15) (by decide)), he3, st_ne _ _ (off_ne (i := 7) (j := 43) (by decide)), he2, st_ne _ _ (off_ne0' (j := 7) (by decide)), he1, st_ne _ _ (off_ne (i := 7) (j := 42) (by decide))]]; exact f_P7
  · rw [h0]; simp only [eV4, eV3, eV2, eV1, gC_sR, gC_sI, gC_sJ, gR_sR, gR_sI, gR_sJ, gI_sR, gI_sI, gI_sJ, Nat.reduceEqDiff, ↓reduceIte]; exact f_R1
  · rw [show S56 (a + 9) = S (a + 9) from by rw [he11, st_ne _ _ (off_ne0' (j := 9) (by decide)), he10 _ (off_out (j := 9) (k := 73) (n := 5) (by decide)), he9, st_ne _ _ (off_ne (i := 9) (j := 73) (by decide)), he8, st_ne _ _ (off_ne0' (j := 9) (by decide)), he7 _ (off_out (j := 9) (k := 58) (n := 15) (by decide)), he6, st_ne _ _ (off_ne (i := 9) (j := 58) (by decide)), he5, st_ne _ _ (off_ne0' (j := 9) (by decide)), he4 _ (off_out (j := 9) (k := 43) (n := 15) (by decide)), he3, st_ne _ _ (off_ne (i := 9) (j := 43) (by decide)), he2, st_ne _ _ (off_ne0' (j := 9) (by decide)), he1, st_ne _ _ (off_ne (i := 9) (j := 42) (by decide))]]; exact f_P9
  · rw [h0]; simp only [eV4, eV3, eV2, eV1, gC_sR, gC_sI, gC_sJ, gR_sR, gR_sI, gR_sJ, gI_sR, gI_sI, gI_sJ, Nat.reduceEqDiff, ↓reduceIte]; exact f_R2
  · rw [show S56 (a + 16) = S (a + 16) from by rw [he11, st_ne _ _ (off_ne0' (j := 16) (by decide)), he10 _ (off_out (j := 16) (k := 73) (n := 5) (by decide)), he9, st_ne _ _ (off_ne (i := 16) (j := 73) (by decide)), he8, st_ne _ _ (off_ne0' (j := 16) (by decide)), he7 _ (off_out (j := 16) (k := 58) (n := 15) (by decide)), he6, st_ne _ _ (off_ne (i := 16) (j := 58) (by decide)), he5, st_ne _ _ (off_ne0' (j := 16) (by decide)), he4 _ (off_out (j := 16) (k := 43) (n := 15) (by decide)), he3, st_ne _ _ (off_ne (i := 16) (j := 43) (by decide)), he2, st_ne _ _ (off_ne0' (j := 16) (by decide)), he1, st_ne _ _ (off_ne (i := 16) (j := 42) (by decide))]]; exact f_P16
  · rw [h0]; simp only [eV4, eV3, eV2, eV1, gC_sR, gC_sI, gC_sJ, gR_sR, gR_sI, gR_sJ, gI_sR, gI_sI, gI_sJ, Nat.reduceEqDiff, ↓reduceIte]; exact f_R3
  · rw [h0]; simp only [eV4, eV3, eV2, eV1, gC_sR, gC_sI, gC_sJ, gR_sR, gR_sI, gR_sJ, gI_sR, gI_sI, gI_sJ, Nat.reduceEqDiff, ↓reduceIte]; exact f_R4
  · rw [h0]; simp only [eV4, eV3, eV2, eV1, gC_sR, gC_sI, gC_sJ, gR_sR, gR_sI, gR_sJ, gI_sR, gI_sI, gI_sJ, Nat.reduceEqDiff, ↓reduceIte]; exact f_R5
  · rw [show S56 (a + 25) = S (a + 25) from by rw [he11, st_ne _ _ (off_ne0' (j := 25) (by decide)), he10 _ (off_out (j := 25) (k := 73) (n := 5) (by decide)), he9, st_ne _ _ (off_ne (i := 25) (j := 73) (by decide)), he8, st_ne _ _ (off_ne0' (j := 25) (by decide)), he7 _ (off_out (j := 25) (k := 58) (n := 15) (by decide)), he6, st_ne _ _ (off_ne (i := 25) (j := 58) (by decide)), he5, st_ne _ _ (off_ne0' (j := 25) (by decide)), he4 _ (off_out (j := 25) (k := 43) (n := 15) (by decide)), he3, st_ne _ _ (off_ne (i := 25) (j := 43) (by decide)), he2, st_ne _ _ (off_ne0' (j := 25) (by decide)), he1, st_ne _ _ (off_ne (i := 25) (j := 42) (by decide))]]; exact f_P25
  · rw [h0]; simp only [eV4, eV3, eV2, eV1, gC_sR, gC_sI, gC_sJ, gR_sR, gR_sI, gR_sJ, gI_sR, gI_sI, gI_sJ, Nat.reduceEqDiff, ↓reduceIte]; exact f_R6
  · rw [show S56 (a + 23) = S (a + 23) from by rw [he11, st_ne _ _ (off_ne0' (j := 23) (by decide)), he10 _ (off_out (j := 23) (k := 73) (n := 5) (by decide)), he9, st_ne _ _ (off_ne (i := 23) (j := 73) (by decide)), he8, st_ne _ _ (off_ne0' (j := 23) (by decide)), he7 _ (off_out (j := 23) (k := 58) (n := 15) (by decide)), he6, st_ne _ _ (off_ne (i := 23) (j := 58) (by decide)), he5, st_ne _ _ (off_ne0' (j := 23) (by decide)), he4 _ (off_out (j := 23) (k := 43) (n := 15) (by decide)), he3, st_ne _ _ (off_ne (i := 23) (j := 43) (by decide)), he2, st_ne _ _ (off_ne0' (j := 23) (by decide)), he1, st_ne _ _ (off_ne (i := 23) (j := 42) (by decide))]]; exact f_C23
  · rw [show S56 (a + 23) = S (a + 23) from by rw [he11, st_ne _ _ (off_ne0' (j := 23) (by decide)), he10 _ (off_out (j := 23) (k := 73) (n := 5) (by decide)), he9, st_ne _ _ (off_ne (i := 23) (j := 73) (by decide)), he8, st_ne _ _ (off_ne0' (j := 23) (by decide)), he7 _ (off_out (j := 23) (k := 58) (n := 15) (by decide)), he6, st_ne _ _ (off_ne (i := 23) (j := 58) (by decide)), he5, st_ne _ _ (off_ne0' (j := 23) (by decide)), he4 _ (off_out (j := 23) (k := 43) (n := 15) (by decide)), he3, st_ne _ _ (off_ne (i := 23) (j := 43) (by decide)), he2, st_ne _ _ (off_ne0' (j := 23) (by decide)), he1, st_ne _ _ (off_ne (i := 23) (j := 42) (by decide))]]; exact f_N23
  · rw [show S56 (a + 24) = S (a + 24) from by rw [he11, st_ne _ _ (off_ne0' (j := 24) (by decide)), he10 _ (off_out (j := 24) (k := 73) (n := 5) (by decide)), he9, st_ne _ _ (off_ne (i := 24) (j := 73) (by decide)), he8, st_ne _ _ (off_ne0' (j := 24) (by decide)), he7 _ (off_out (j := 24) (k := 58) (n := 15) (by decide)), he6, st_ne _ _ (off_ne (i := 24) (j := 58) (by decide)), he5, st_ne _ _ (off_ne0' (j := 24) (by decide)), he4 _ (off_out (j := 24) (k := 43) (n := 15) (by decide)), he3, st_ne _ _ (off_ne (i := 24) (j := 43) (by decide)), he2, st_ne _ _ (off_ne0' (j := 24) (by decide)), he1, st_ne _ _ (off_ne (i := 24) (j := 42) (by decide))]]; exact f_C24
  · rw [show S56 (a + 24) = S (a + 24) from by rw [he11, st_ne _ _ (off_ne0' (j := 24) (by decide)), he10 _ (off_out (j := 24) (k := 73) (n := 5) (by decide)), he9, st_ne _ _ (off_ne (i := 24) (j := 73) (by decide)), he8, st_ne _ _ (off_ne0' (j := 24) (by decide)), he7 _ (off_out (j := 24) (k := 58) (n := 15) (by decide)), he6, st_ne _ _ (off_ne (i := 24) (j := 58) (by decide)), he5, st_ne _ _ (off_ne0' (j := 24) (by decide)), he4 _ (off_out (j := 24) (k := 43) (n := 15) (by decide)), he3, st_ne _ _ (off_ne (i := 24) (j := 43) (by decide)), he2, st_ne _ _ (off_ne0' (j := 24) (by decide)), he1, st_ne _ _ (off_ne (i := 24) (j := 42) (by decide))]]; exact f_N24
  · rw [show S56 (a + 29) = S (a + 29) from by rw [he11, st_ne _ _ (off_ne0' (j := 29) (by decide)), he10 _ (off_out (j := 29) (k := 73) (n := 5) (by decide)), he9, st_ne _ _ (off_ne (i := 29) (j := 73) (by decide)), he8, st_ne _ _ (off_ne0' (j := 29) (by decide)), he7 _ (off_out (j := 29) (k := 58) (n := 15) (by decide)), he6, st_ne _ _ (off_ne (i := 29) (j := 58) (by decide)), he5, st_ne _ _ (off_ne0' (j := 29) (by decide)), he4 _ (off_out (j := 29) (k := 43) (n := 15) (by decide)), he3, st_ne _ _ (off_ne (i := 29) (j := 43) (by decide)), he2, st_ne _ _ (off_ne0' (j := 29) (by decide)), he1, st_ne _ _ (off_ne (i := 29) (j := 42) (by decide))]]; exact f_P29
  · rw [h0]; simp only [eV4, eV3, eV2, eV1, gC_sR, gC_sI, gC_sJ, gR_sR, gR_sI, gR_sJ, gI_sR, gI_sI, gI_sJ, Nat.reduceEqDiff, ↓reduceIte]; exact f_R7
  · rw [show S56 (a + 32) = S (a + 32) from by rw [he11, st_ne _ _ (off_ne0' (j := 32) (by decide)), he10 _ (off_out (j := 32) (k := 73) (n := 5) (by decide)), he9, st_ne _ _ (off_ne (i := 32) (j := 73) (by decide)), he8, st_ne _ _ (off_ne0' (j := 32) (by decide)), he7 _ (off_out (j := 32) (k := 58) (n := 15) (by decide)), he6, st_ne _ _ (off_ne (i := 32) (j := 58) (by decide)), he5, st_ne _ _ (off_ne0' (j := 32) (by decide)), he4 _ (off_out (j := 32) (k := 43) (n := 15) (by decide)), he3, st_ne _ _ (off_ne (i := 32) (j := 43) (by decide)), he2, st_ne _ _ (off_ne0' (j := 32) (by decide)), he1, st_ne _ _ (off_ne (i := 32) (j := 42) (by decide))]]; exact f_P32
  · rw [show S56 (a + 33) = S (a + 33) from by rw [he11, st_ne _ _ (off_ne0' (j := 33) (by decide)), he10 _ (off_out (j := 33) (k := 73) (n := 5) (by decide)), he9, st_ne _ _ (off_ne (i := 33) (j := 73) (by decide)), he8, st_ne _ _ (off_ne0' (j := 33) (by decide)), he7 _ (off_out (j := 33) (k := 58) (n := 15) (by decide)), he6, st_ne _ _ (off_ne (i := 33) (j := 58) (by decide)), he5, st_ne _ _ (off_ne0' (j := 33) (by decide)), he4 _ (off_out (j := 33) (k := 43) (n := 15) (by decide)), he3, st_ne _ _ (off_ne (i := 33) (j := 43) (by decide)), he2, st_ne _ _ (off_ne0' (j := 33) (by decide)), he1, st_ne _ _ (off_ne (i := 33) (j := 42) (by decide))]]; exact f_P33
  · rw [h0]; simp only [eV4, eV3, eV2, eV1, gC_sR, gC_sI, gC_sJ, gR_sR, gR_sI, gR_sJ, gI_sR, gI_sI, gI_sJ, Nat.reduceEqDiff, ↓reduceIte]; exact f_R8
  · rw [show S56 (a + 40) = S (a + 40) from by rw [he11, st_ne _ _ (off_ne0' (j := 40) (by decide)), he10 _ (off_out (j := 40) (k := 73) (n := 5) (by decide)), he9, st_ne _ _ (off_ne (i := 40) (j := 73) (by decide)), he8, st_ne _ _ (off_ne0' (j := 40) (by decide)), he7 _ (off_out (j := 40) (k := 58) (n := 15) (by decide)), he6, st_ne _ _ (off_ne (i := 40) (j := 58) (by decide)), he5, st_ne _ _ (off_ne0' (j := 40) (by decide)), he4 _ (off_out (j := 40) (k := 43) (n := 15) (by decide)), he3, st_ne _ _ (off_ne (i := 40) (j := 43) (by decide)), he2, st_ne _ _ (off_ne0' (j := 40) (by decide)), he1, st_ne _ _ (off_ne (i := 40) (j := 42) (by decide))]]; exact f_A40
  · rw [h0]; simp only [eV4, eV3, eV2, eV1, gC_sR, gC_sI, gC_sJ, gR_sR, gR_sI, gR_sJ, gI_sR, gI_sI, gI_sJ, Nat.reduceEqDiff, ↓reduceIte]; exact f_R9
  · rw [show S56 (a + 41) = S (a + 41) from by rw [he11, st_ne _ _ (off_ne0' (j := 41) (by decide)), he10 _ (off_out (j := 41) (k := 73) (n := 5) (by decide)), he9, st_ne _ _ (off_ne (i := 41) (j := 73) (by decide)), he8, st_ne _ _ (off_ne0' (j := 41) (by decide)), he7 _ (off_out (j := 41) (k := 58) (n := 15) (by decide)), he6, st_ne _ _ (off_ne (i := 41) (j := 58) (by decide)), he5, st_ne _ _ (off_ne0' (j := 41) (by decide)), he4 _ (off_out (j := 41) (k := 43) (n := 15) (by decide)), he3, st_ne _ _ (off_ne (i := 41) (j := 43) (by decide)), he2, st_ne _ _ (off_ne0' (j := 41) (by decide)), he1, st_ne _ _ (off_ne (i := 41) (j := 42) (by decide))]]; exact f_A41
  · rw [h0]; simp only [eV4, eV3, eV2, eV1, gC_sR, gC_sI, gC_sJ, gR_sR, gR_sI, gR_sJ, gI_sR, gI_sI, gI_sJ, Nat.reduceEqDiff, ↓reduceIte]; exact f_R10
  · rw [show S56 (a + 42) = S43 (a + 42) from by rw [he11, st_ne _ _ (off_ne0' (j := 42) (by decide)), he10 _ (off_out (j := 42) (k := 73) (n := 5) (by decide)), he9, st_ne _ _ (off_ne (i := 42) (j := 73) (by decide)), he8, st_ne _ _ (off_ne0' (j := 42) (by decide)), he7 _ (off_out (j := 42) (k := 58) (n := 15) (by decide)), he6, st_ne _ _ (off_ne (i := 42) (j := 58) (by decide)), he5, st_ne _ _ (off_ne0' (j := 42) (by decide)), he4 _ (off_out (j := 42) (k := 43) (n := 15) (by decide)), he3, st_ne _ _ (off_ne (i := 42) (j := 43) (by decide)), he2, st_ne _ _ (off_ne0' (j := 42) (by decide))]]; rw [he1, st_same]
  · rw [h0]; simp only [eV4, eV3, eV2, eV1, gC_sR, gC_sI, gC_sJ, gR_sR, gR_sI, gR_sJ, gI_sR, gI_sI, gI_sJ, Nat.reduceEqDiff, ↓reduceIte]
  · rw [show S56 (a + 43) = S47 (a + 43) from by rw [he11, st_ne _ _ (off_ne0' (j := 43) (by decide)), he10 _ (off_out (j := 43) (k := 73) (n := 5) (by decide)), he9, st_ne _ _ (off_ne (i := 43) (j := 73) (by decide)), he8, st_ne _ _ (off_ne0' (j := 43) (by decide)), he7 _ (off_out (j := 43) (k := 58) (n := 15) (by decide)), he6, st_ne _ _ (off_ne (i := 43) (j := 58) (by decide)), he5, st_ne _ _ (off_ne0' (j := 43) (by decide))]]; exact p43
  · rw [show S56 (a + 51) = S47 (a + 51) from by rw [he11, st_ne _ _ (off_ne0' (j := 51) (by decide)), he10 _ (off_out (j := 51) (k := 73) (n := 5) (by decide)), he9, st_ne _ _ (off_ne (i := 51) (j := 73) (by decide)), he8, st_ne _ _ (off_ne0' (j := 51) (by decide)), he7 _ (off_out (j := 51) (k := 58) (n := 15) (by decide)), he6, st_ne _ _ (off_ne (i := 51) (j := 58) (by decide)), he5, st_ne _ _ (off_ne0' (j := 51) (by decide))]]; exact p51
  · rw [h0]; simp only [eV4, eV3, eV2, eV1, gC_sR, gC_sI, gC_sJ, gR_sR, gR_sI, gR_sJ, gI_sR, gI_sI, gI_sJ, Nat.reduceEqDiff, ↓reduceIte]
  · rw [show S56 (a + 58) = S51 (a + 58) from by rw [he11, st_ne _ _ (off_ne0' (j := 58) (by decide)), he10 _ (off_out (j := 58) (k := 73) (n := 5) (by decide)), he9, st_ne _ _ (off_ne (i := 58) (j := 73) (by decide)), he8, st_ne _ _ (off_ne0' (j := 58) (by decide))]]; exact p58
  · rw [show S56 (a + 66) = S51 (a + 66) from by rw [he11, st_ne _ _ (off_ne0' (j := 66) (by decide)), he10 _ (off_out (j := 66) (k := 73) (n := 5) (by decide)), he9, st_ne _ _ (off_ne (i := 66) (j := 73) (by decide)), he8, st_ne _ _ (off_ne0' (j := 66) (by decide))]]; exact p66
  · rw [h0]; simp only [eV4, eV3, eV2, eV1, gC_sR, gC_sI, gC_sJ, gR_sR, gR_sI, gR_sJ, gI_sR, gI_sI, gI_sJ, Nat.reduceEqDiff, ↓reduceIte]
  · rw [show S56 (a + 73) = S55 (a + 73) from by rw [he11, st_ne _ _ (off_ne0' (j := 73) (by decide))]]; exact p73
  · rw [h0]; simp only [eV4, eV3, eV2, eV1, gC_sR, gC_sI, gC_sJ, gR_sR, gR_sI, gR_sJ, gI_sR, gI_sI, gI_sJ, Nat.reduceEqDiff, ↓reduceIte]
set_option maxHeartbeats 4000000 in
theorem sg12_4 {fu : Nat} {G : GG} {S : ST} {a : Nat} {P : ST → Prop} (hJ : J12_4 a S) (nx : ∀ S', J12_5 a S' → ∃ z, f_X12_init_g5 fu G S' a = some z ∧ P z) : ∃ z, f_X12_init_g4 fu G S a = some z ∧ P z := by
  obtain ⟨f_C, f_P1, f_R0, f_P6, f_P7, f_R1, f_P9, f_R2, f_P16, f_R3, f_R4, f_R5, f_P25, f_R6, f_C23, f_N23, f_C24, f_N24, f_P29, f_R7, f_P32, f_P33, f_R8, f_A40, f_R9, f_A41, f_R10, f_A42, f_R11, f_P43, f_P51, f_R12, f_P58, f_P66, f_R13, f_P73, f_R14⟩ := hJ
  unfold f_X12_init_g4
  obtain ⟨V0, h0⟩ : ∃ y, S a = y := ⟨_, rfl⟩
  rw [h0] at f_C f_R0 f_R1 f_R2 f_R3 f_R4 f_R5 f_R6 f_R7 f_R8 f_R9 f_R10 f_R11 f_R12 f_R13 f_R14
  refine ex_nm (fun S58 he1 => ?_)
  have h0 := (st_at he1 (off_ne0 (j := 78) (by decide))).trans h0
  obtain ⟨S59, e1, e2, he2⟩ := i_X6 (fu := fu) (G := G) (S := S58) (a := a + 78) (by rw [he1, st_same]; rfl)
  refine ex_bd e1 ?_
  have h0 : S59 a = V0 := (sub_at (k := 78) (n := 5) (j := 0) he2 (by decide)).trans h0
  have p78 : gC (S59 (a + 78)) = 6 ∧ gI (S59 (a + 78)) 4 = nI 0 := e2
  refine ex_ck (decide_eq_true (by rw [h0]; exact f_C)) ?_
  refine ex_nm (fun S60 he3 => ?_)
  obtain ⟨V1, eV1⟩ : ∃ y, y = sR V0 15 (some (a + 78)) := ⟨_, rfl⟩
  have h0 : S60 a = V1 := by rw [he3, st_same, h0, eV1]
  refine ex_ck (decide_eq_true (by rw [h0]; exact (by simp only [eV1, gC_sR, gC_sI, gC_sJ, gR_sR, gR_sI, gR_sJ, gI_sR, gI_sI, gI_sJ, Nat.reduceEqDiff, ↓reduceIte]; exact f_C))) ?_
  refine ex_nm (fun S62 he4 => ?_)
  obtain ⟨V2, eV2⟩ : ∃ y, y = sI V1 16 (0 : Int32) := ⟨_, rfl⟩
  have h0 : S62 a = V2 := by rw [he4, st_same, h0, eV2]
  refine ex_ck (decide_eq_true (by rw [h0]; exact (by simp only [eV2, eV1, gC_sR, gC_sI, gC_sJ, gR_sR, gR_sI, gR_sJ, gI_sR, gI_sI, gI_sJ, Nat.reduceEqDiff, ↓reduceIte]; exact f_C))) ?_
  refine ex_nm (fun S64 he5 => ?_)
  obtain ⟨V3, eV3⟩ : ∃ y, y = sI V2 17 (0 : Int32) := ⟨_, rfl⟩
  have h0 : S64 a = V3 := by rw [he5, st_same, h0, eV3]
  refine ex_ck (decide_eq_true (by rw [h0]; exact (by simp only [eV3, eV2, eV1, gC_sR, gC_sI, gC_sJ, gR_sR, gR_sI, gR_sJ, gI_sR, gI_sI, gI_sJ, Nat.reduceEqDiff, ↓reduceIte]; exact f_C))) ?_
  refine ex_nm (fun S66 he6 => ?_)
  obtain ⟨V4, eV4⟩ : ∃ y, y = sI V3 18 (0 : Int32) := ⟨_, rfl⟩
  have h0 : S66 a = V4 := by rw [he6, st_same, h0, eV4]
  refine ex_ck (decide_eq_true (by rw [h0]; exact (by simp only [eV4, eV3, eV2, eV1, gC_sR, gC_sI, gC_sJ, gR_sR, gR_sI, gR_sJ, gI_sR, gI_sI, gI_sJ, Nat.reduceEqDiff, ↓reduceIte]; exact f_C))) ?_
  refine ex_bd (x := a + 23) (by rw [h0]; simp only [eV4, eV3, eV2, eV1, gC_sR, gC_sI, gC_sJ, gR_sR, gR_sI, gR_sJ, gI_sR, gI_sI, gI_sJ, Nat.reduceEqDiff, ↓reduceIte]; exact f_R4) ?_
  refine ex_nm (fun S70 he7 => ?_)
  have h0 := (st_at he7 (off_ne0 (j := 83) (by decide))).trans h0
  obtain ⟨S71, e1, e2, he8⟩ := i_X3 (fu := fu) (G := G) (S := S70) (a := a + 83) (by rw [he7, st_same]; rfl)
  refine ex_bd e1 ?_
  have h0 : S71 a = V4 := (sub_at (k := 83) (n := 7) (j := 0) he8 (by decide)).trans h0
  have p83 : gC (S71 (a + 83)) = 3 ∧ CHL (S71 (a + 83)) (q00, lk0) := e2
  obtain ⟨W23, h23⟩ : ∃ y, S71 (a + 23) = y := ⟨_, rfl⟩
  have w_C23 := f_C23
  rw [← (show S71 (a + 23) = S (a + 23) from by rw [he8 _ (off_out (j := 23) (k := 83) (n := 7) (by decide)), he7, st_ne _ _ (off_ne (i := 23) (j := 83) (by decide)), he6, st_ne _ _ (off_ne0' (j := 23) (by decide)), he5, st_ne _ _ (off_ne0' (j := 23) (by decide)), he4, st_ne _ _ (off_ne0' (j := 23) (by decide)), he3, st_ne _ _ (off_ne0' (j := 23) (by decide)), he2 _ (off_out (j := 23) (k := 78) (n := 5) (by decide)), he1, st_ne _ _ (off_ne (i := 23) (j := 78) (by decide))]), h23] at w_C23
  have w_N23 := f_N23
  rw [← (show S71 (a + 23) = S (a + 23) from by rw [he8 _ (off_out (j := 23) (k := 83) (n := 7) (by decide)), he7, st_ne _ _ (off_ne (i := 23) (j := 83) (by decide)), he6, st_ne _ _ (off_ne0' (j := 23) (by decide)), he5, st_ne _ _ (off_ne0' (j := 23) (by decide)), he4, st_ne _ _ (off_ne0' (j := 23) (by decide)), he3, st_ne _ _ (off_ne0' (j := 23) (by decide)), he2 _ (off_out (j := 23) (k := 78) (n := 5) (by decide)), he1, st_ne _ _ (off_ne (i := 23) (j := 78) (by decide))]), h23] at w_N23
  refine ex_ck (decide_eq_true (by rw [h23]; exact w_C23)) ?_
  refine ex_ck (decide_eq_true p83.1) ?_
  refine ex_ck (by rw [h23, w_N23]; decide) ?_
  refine ex_nm (fun S72 he9 => ?_)
  have h0 := (st_at he9 (off_ne0 (j := 23) (by decide))).trans h0
  rw [h23, show (0 : Int32).toNatClampNeg = 0 by decide] at he9
  have h23 := (congrFun he9 (a + 23)).trans (st_same _ _ _)
  have w_Q23 : ∀ i, i < 0 → gQ W23 0 i = some (a + 83 + 7 * i) := fun i hi => absurd hi (Nat.not_lt_zero _)
  have w_Q23 := gQ_step (x := a + 83) w_Q23 (by omega)
  have w_C23 : gC (sQ W23 0 0 (some (a + 83))) = 29 := w_C23
  have w_N23 : gN (sQ W23 0 0 (some (a + 83))) 0 = 17 := w_N23
  obtain ⟨W23_9, eW⟩ : ∃ y, sQ W23 0 0 (some (a + 83)) = y := ⟨_, rfl⟩
  rw [eW] at h23 w_Q23 w_C23 w_N23 he9
  clear eW
  refine nx S72 ⟨?_, ?_, ?_, ?_, ?_, ?_, ?_, ?_, ?_, ?_, ?_, ?_, ?_, ?_, ?_, ?_, ?_, ?_, ?_, ?_, ?_, ?_, ?_, ?_, ?_, ?_, ?_, ?_, ?_, ?_, ?_, ?_, ?_, ?_, ?_, ?_, ?_, ?_, ?_, ?_, ?_, ?_, ?_, ?_⟩
  · rw [h0]; simp only [eV4, eV3, eV2, eV1, gC_sR, gC_sI, gC_sJ, gR_sR, gR_sI, gR_sJ, gI_sR, gI_sI, gI_sJ, Nat.reduceEqDiff, ↓reduceIte]; exact f_C
  · rw [show S72 (a + 1) = S (a + 1) from by rw [he9, st_ne _ _ (off_ne (i := 1) (j := 23) (by decide)), he8 _ (off_out (j := 1) (k := 83) (n := 7) (by decide)), he7, st_ne _ _ (off_ne (i := 1) (j := 83) (by decide)), he6, st_ne _ _ (off_ne0' (j := 1) (by decide)), he5, st_ne _ _ (off_ne0' (j := 1) (by decide)), he4, st_ne _ _ (off_ne0' (j := 1) (by decide)), he3, st_ne _ _ (off_ne0' (j := 1) (by decide)), he2 _ (off_out (j := 1) (k := 78) (n := 5) (by decide)), he1, st_ne _ _ (off_ne (i := 1) (j := 78) (by decide))]]; exact f_P1
  · rw [h0]; simp only [eV4, eV3, eV2, eV1, gC_sR, gC_sI, gC_sJ, gR_sR, gR_sI, gR_sJ, gI_sR, gI_sI, gI_sJ, Nat.reduceEqDiff, ↓reduceIte]; exact f_R0
  · rw [show S72 (a + 6) = S (a + 6) from by rw [he9, st_ne _ _ (off_ne (i := 6) (j := 23) (by decide)), he8 _ (off_out (j := 6) (k := 83) (n := 7) (by decide)), he7, st_ne _ _ (off_ne (i := 6) (j := 83) (by decide)), he6, st_ne _ _ (off_ne0' (j := 6) (by decide)), he5, st_ne _ _ (off_ne0' (j := 6) (by decide)), he4, st_ne _ _ (off_ne0' (j := 6) (by decide)), he3, st_ne _ _ (off_ne0' (j := 6) (by decide)), he2 _ (off_out (j := 6) (k := 78) (n := 5) (by decide)), he1, st_ne _ _ (off_ne (i := 6) (j := 78) (by decide))]]; exact f_P6
  · rw [show S72 (a + 7) = S (a + 7) from by rw [he9, st_ne _ _ (off_ne (i := 7) (j := 23) (by decide)), he8 _ (off_out (j := 7) (k := 83) (n := 7) (by decide)), he7, st_ne _ _ (off_ne (i := 7) (j := 83) (by decide)), he6, st_ne _ _ (off_ne0' (j := 7) (by decide)), he5, st_ne _ _ (off_ne0' (j := 7) (by decide)), he4, st_ne _ _ (off_ne0' (j := 7) (by decide)), he3, st_ne _ _ (off_ne0' (j := 7) (by decide)), he2 _ (off_out (j := 7) (k := 78) (n := 5) (by decide)), he1, st_ne _ _ (off_ne (i := 7) (j := 78) (by decide))]]; exact f_P7
  · rw [h0]; simp only [eV4, eV3, eV2, eV1, gC_sR, gC_sI, gC_sJ, gR_sR, gR_sI, gR_sJ, gI_sR, gI_sI, gI_sJ, Nat.reduceEqDiff, ↓reduceIte]; exact f_R1
  · rw [show S72 (a + 9) = S (a + 9) from by rw [he9, st_ne _ _ (off_ne (i := 9) (j := 23) (by decide)), he8 _ (off_out (j := 9) (k := 83) (n := 7) (by decide)), he7, st_ne _ _ (off_ne (i := 9) (j := 83) (by decide)), he6, st_ne _ _ (off_ne0' (j := 9) (by decide)), he5, st_ne _ _ (off_ne0' (j := 9) (by decide)), he4, st_ne _ _ (off_ne0' (j := 9) (by decide)), he3, st_ne _ _ (off_ne0' (j := 9) (by decide)), he2 _ (off_out (j := 9) (k := 78) (n := 5) (by decide)), he1, st_ne _ _ (off_ne (i := 9) (j := 78) (by decide))]]; exact f_P9
  · rw [h0]; simp only [eV4, eV3, eV2, eV1, gC_sR, gC_sI, gC_sJ, gR_sR, gR_sI, gR_sJ, gI_sR, gI_sI, gI_sJ, Nat.reduceEqDiff, ↓reduceIte]; exact f_R2
  · rw [show S72 (a + 16) = S (a + 16) from by rw [he9, st_ne _ _ (off_ne (i := 16) (j := 23) (by decide)), he8 _ (off_out (j := 16) (k := 83) (n := 7) (by decide)), he7, st_ne _ _ (off_ne (i := 16) (j := 83) (by decide)), he6, st_ne _ _ (off_ne0' (j := 16) (by decide)), he5, st_ne _ _ (off_ne0' (j := 16) (by decide)), he4, st_ne _ _ (off_ne0' (j := 16) (by decide)), he3, st_ne _ _ (off_ne0' (j := 16) (by decide)), he2 _ (off_out (j := 16) (k := 78) (n := 5) (by decide)), he1, st_ne _ _ (off_ne (i := 16) (j := 78) (by decide))]]; exact f_P16
  · rw [h0]; simp only [eV4, eV3, eV2, eV1, gC_sR, gC_sI, gC_sJ, gR_sR, gR_sI, gR_sJ, gI_sR, gI_sI, gI_sJ, Nat.reduceEqDiff, ↓reduceIte]; exact f_R3
  · rw [h0]; simp only [eV4, eV3, eV2, eV1, gC_sR, gC_sI, gC_sJ, gR_sR, gR_sI, gR_sJ, gI_sR, gI_sI, gI_sJ, Nat.reduceEqDiff, ↓reduceIte]; exact f_R4
  · rw [h0]; simp only [eV4, eV3, eV2, eV1, gC_sR, gC_sI, gC_sJ, gR_sR, gR_sI, gR_sJ, gI_sR, gI_sI, gI_sJ, Nat.reduceEqDiff, ↓reduceIte]; exact f_R5
  · rw [show S72 (a + 25) = S (a + 25) from by rw [he9, st_ne _ _ (off_ne (i := 25) (j := 23) (by decide)), he8 _ (off_out (j := 25) (k := 83) (n := 7) (by decide)), he7, st_ne _ _ (off_ne (i := 25) (j := 83) (by decide)), he6, st_ne _ _ (off_ne0' (j := 25) (by decide)), he5, st_ne _ _ (off_ne0' (j := 25) (by decide)), he4, st_ne _ _ (off_ne0' (j := 25) (by decide)), he3, st_ne _ _ (off_ne0' (j := 25) (by decide)), he2 _ (off_out (j := 25) (k := 78) (n := 5) (by decide)), he1, st_ne _ _ (off_ne (i := 25) (j := 78) (by decide))]]; exact f_P25
  · rw [h0]; simp only [eV4, eV3, eV2, eV1, gC_sR, gC_sI, gC_sJ, gR_sR, gR_sI, gR_sJ, gI_sR, gI_sI, gI_sJ, Nat.reduceEqDiff, ↓reduceIte]; exact f_R6
  · rw [h23]; exact w_C23
  · rw [h23]; exact w_N23
  · rw [show S72 (a + 24) = S (a + 24) from by rw [he9, st_ne _ _ (off_ne (i := 24) (j := 23) (by decide)), he8 _ (off_out (j := 24) (k := 83) (n := 7) (by decide)), he7, st_ne _ _ (off_ne (i := 24) (j := 83) (by decide)), he6, st_ne _ _ (off_ne0' (j := 24) (by decide)), he5, st_ne _ _ (off_ne0' (j := 24) (by decide)), he4, st_ne _ _ (off_ne0' (j := 24) (by decide)), he3, st_ne _ _ (off_ne0' (j := 24) (by decide)), he2 _ (off_out (j := 24) (k := 78) (n := 5) (by decide)), he1, st_ne _ _ (off_ne (i := 24) (j := 78) (by decide))]]; exact f_C24
  · rw [show S72 (a + 24) = S (a + 24) from by rw [he9, st_ne _ _ (off_ne (i := 24) (j := 23) (by decide)), he8 _ (off_out (j := 24) (k := 83) (n := 7) (by decide)), he7, st_ne _ _ (off_ne (i := 24) (j := 83) (by decide)), he6, st_ne _ _ (off_ne0' (j := 24) (by decide)), he5, st_ne _ _ (off_ne0' (j := 24) (by decide)), he4, st_ne _ _ (off_ne0' (j := 24) (by decide)), he3, st_ne _ _ (off_ne0' (j := 24) (by decide)), he2 _ (off_out (j := 24) (k := 78) (n := 5) (by decide)), he1, st_ne _ _ (off_ne (i := 24) (j := 78) (by decide))]]; exact f_N24
  · rw [show S72 (a + 29) = S (a + 29) from by rw [he9, st_ne _ _ (off_ne (i := 29) (j := 23) (by decide)), he8 _ (off_out (j := 29) (k := 83) (n := 7) (by decide)), he7, st_ne _ _ (off_ne (i := 29) (j := 83) (by decide)), he6, st_ne _ _ (off_ne0' (j := 29) (by decide)), he5, st_ne _ _ (off_ne0' (j := 29) (by decide)), he4, st_ne _ _ (off_ne0' (j := 29) (by decide)), he3, st_ne _ _ (off_ne0' (j := 29) (by decide)), he2 _ (off_out (j := 29) (k := 78) (n := 5) (by decide)), he1, st_ne _ _ (off_ne (i := 29) (j := 78) (by decide))]]; exact f_P29
  · rw [h0]; simp only [eV4, eV3, eV2, eV1, gC_sR, gC_sI, gC_sJ, gR_sR, gR_sI, gR_sJ, gI_sR, gI_sI, gI_sJ, Nat.reduceEqDiff, ↓reduceIte]; exact f_R7
  · rw [show S72 (a + 32) = S (a + 32) from by rw [he9, st_ne _ _ (off_ne (i := 32) (j := 23) (by decide)), he8 _ (off_out (j := 32) (k := 83) (n := 7) (by decide)), he7, st_ne _ _ (off_ne (i := 32) (j := 83) (by decide)), he6, st_ne _ _ (off_ne0' (j := 32) (by decide)), he5, st_ne _ _ (off_ne0' (j := 32) (by decide)), he4, st_ne _ _ (off_ne0' (j := 32) (by decide)), he3, st_ne _ _ (off_ne0' (j := 32) (by decide)), he2 _ (off_out (j := 32) (k := 78) (n := 5) (by decide)), he1, st_ne _ _ (off_ne (i := 32) (j := 78) (by decide))]]; exact f_P32
  · rw [show S72 (a + 33) = S (a + 33) from by rw [he9, st_ne _ _ (off_ne (i := 33) (j := 23) (by decide)), he8 _ (off_out (j := 33) (k := 83) (n := 7) (by decide)), he7, st_ne _ _ (off_ne (i := 33) (j := 83) (by decide)), he6, st_ne _ _ (off_ne0' (j := 33) (by decide)), he5, st_ne _ _ (off_ne0' (j := 33) (by decide)), he4, st_ne _ _ (off_ne0' (j := 33) (by decide)), he3, st_ne _ _ (off_ne0' (j := 33) (by decide)), he2 _ (off_out (j := 33) (k := 78) (n := 5) (by decide)), he1, st_ne _ _ (off_ne (i := 33) (j := 78) (by decide))]]; exact f_P33
  · rw [h0]; simp only [eV4, eV3, eV2, eV1, gC_sR, gC_sI, gC_sJ, gR_sR, gR_sI, gR_sJ, gI_sR, gI_sI, gI_sJ, Nat.reduceEqDiff, ↓reduceIte]; exact f_R8
  · rw [show S72 (a + 40) = S (a + 40) from by rw [he9, st_ne _ _ (off_ne (i := 40) (j := 23) (by decide)), he8 _ (off_out (j := 40) (k := 83) (n := 7) (by decide)), he7, st_ne _ _ (off_ne (i := 40) (j := 83) (by decide)), he6, st_ne _ _ (off_ne0' (j := 40) (by decide)), he5, st_ne _ _ (off_ne0' (j := 40) (by decide)), he4, st_ne _ _ (off_ne0' (j := 40) (by decide)), he3, st_ne _ _ (off_ne0' (j := 40) (by decide)), he2 _ (off_out (j := 40) (k := 78) (n := 5) (by decide)), he1, st_ne _ _ (off_ne (i := 40) (j := 78) (by decide))]]; exact f_A40
  · rw [h0]; simp only [eV4, eV3, eV2, eV1, gC_sR, gC_sI, gC_sJ, gR_sR, gR_sI, gR_sJ, gI_sR, gI_sI, gI_sJ, Nat.reduceEqDiff, ↓reduceIte]; exact f_R9
  · rw [show S72 (a + 41) = S (a + 41) from by rw [he9, st_ne _ _ (off_ne (i := 41) (j := 23) (by decide)), he8 _ (off_out (j := 41) (k := 83) (n := 7) (by decide)), he7, st_ne _ _ (off_ne (i := 41) (j := 83) (by decide)), he6, st_ne _ _ (off_ne0' (j := 41) (by decide)), he5, st_ne _ _ (off_ne0' (j := 41) (by decide)), he4, st_ne _ _ (off_ne0' (j := 41) (by decide)), he3, st_ne _ _ (off_ne0' (j := 41) (by decide)), he2 _ (off_out (j := 41) (k := 78) (n := 5) (by decide)), he1, st_ne _ _ (off_ne (i := 41) (j := 78) (by decide))]]; exact f_A41
  · rw [h0]; simp only [eV4, eV3, eV2, eV1, gC_sR, gC_sI, gC_sJ, gR_sR, gR_sI, gR_sJ, gI_sR, gI_sI, gI_sJ, Nat.reduceEqDiff, ↓reduceIte]; exact f_R10
  · rw [show S72 (a + 42) = S (a + 42) from by rw [he9, st_ne _ _ (off_ne (i := 42) (j := 23) (by decide)), he8 _ (off_out (j := 42) (k := 83) (n := 7) (by decide)), he7, st_ne _ _ (off_ne (i := 42) (j := 83) (by decide)), he6, st_ne _ _ (off_ne0' (j := 42) (by decide)), he5, st_ne _ _ (off_ne0' (j := 42) (by decide)), he4, st_ne _ _ (off_ne0' (j := 42) (by decide)), he3, st_ne _ _ (off_ne0' (j := 42) (by decide)), he2 _ (off_out (j := 42) (k := 78) (n := 5) (by decide)), he1, st_ne _ _ (off_ne (i := 42) (j := 78) (by decide))]]; exact f_A42
  · rw [h0]; simp only [eV4, eV3, eV2, eV1, gC_sR, gC_sI, gC_sJ, gR_sR, gR_sI, gR_sJ, gI_sR, gI_sI, gI_sJ, Nat.reduceEqDiff, ↓reduceIte]; exact f_R11
  · rw [show S72 (a + 43) = S (a + 43) from by rw [he9, st_ne _ _ (off_ne (i := 43) (j := 23) (by decide)), he8 _ (off_out (j := 43) (k := 83) (n := 7) (by decide)), he7, st_ne _ _ (off_ne (i := 43) (j := 83) (by decide)), he6, st_ne _ _ (off_ne0' (j := 43) (by decide)), he5, st_ne _ _ (off_ne0' (j := 43) (by decide)), he4, st_ne _ _ (off_ne0' (j := 43) (by decide)), he3, st_ne _ _ (off_ne0' (j := 43) (by decide)), he2 _ (off_out (j := 43) (k := 78) (n := 5) (by decide)), he1, st_ne _ _ (off_ne (i := 43) (j := 78) (by decide))]]; exact f_P43
  · rw [show S72 (a + 51) = S (a + 51) from by rw [he9, st_ne _ _ (off_ne (i := 51) (j := 23) (by decide)), he8 _ (off_out (j := 51) (k := 83) (n := 7) (by decide)), he7, st_ne _ _ (off_ne (i := 51) (j := 83) (by decide)), he6, st_ne _ _ (off_ne0' (j := 51) (by decide)), he5, st_ne _ _ (off_ne0' (j := 51) (by decide)), he4, st_ne _ _ (off_ne0' (j := 51) (by decide)), he3, st_ne _ _ (off_ne0' (j := 51) (by decide)), he2 _ (off_out (j := 51) (k := 78) (n := 5) (by decide)), he1, st_ne _ _ (off_ne (i := 51) (j := 78) (by decide))]]; exact f_P51
  · rw [h0]; simp only [eV4, eV3, eV2, eV1, gC_sR, gC_sI, gC_sJ, gR_sR, gR_sI, gR_sJ, gI_sR, gI_sI, gI_sJ, Nat.reduceEqDiff, ↓reduceIte]; exact f_R12
  · rw [show S72 (a + 58) = S (a + 58) from by rw [he9, st_ne _ _ (off_ne (i := 58) (j := 23) (by decide)), he8 _ (off_out (j := 58) (k := 83) (n := 7) (by decide)), he7, st_ne _ _ (off_ne (i := 58) (j := 83) (by decide)), he6, st_ne _ _ (off_ne0' (j := 58) (by decide)), he5, st_ne _ _ (off_ne0' (j := 58) (by decide)), he4, st_ne _ _ (off_ne0' (j := 58) (by decide)), he3, st_ne _ _ (off_ne0' (j := 58) (by decide)), he2 _ (off_out (j := 58) (k := 78) (n := 5) (by decide)), he1, st_ne _ _ (off_ne (i := 58) (j := 78) (by decide))]]; exact f_P58
  · rw [show S72 (a + 66) = S (a + 66) from by rw [he9, st_ne _ _ (off_ne (i := 66) (j := 23) (by decide)), he8 _ (off_out (j := 66) (k := 83) (n := 7) (by decide)), he7, st_ne _ _ (off_ne (i := 66) (j := 83) (by decide)), he6, st_ne _ _ (off_ne0' (j := 66) (by decide)), he5, st_ne _ _ (off_ne0' (j := 66) (by decide)), he4, st_ne _ _ (off_ne0' (j := 66) (by decide)), he3, st_ne _ _ (off_ne0' (j := 66) (by decide)), he2 _ (off_out (j := 66) (k := 78) (n := 5) (by decide)), he1, st_ne _ _ (off_ne (i := 66) (j := 78) (by decide))]]; exact f_P66
  · rw [h0]; simp only [eV4, eV3, eV2, eV1, gC_sR, gC_sI, gC_sJ, gR_sR, gR_sI, gR_sJ, gI_sR, gI_sI, gI_sJ, Nat.reduceEqDiff, ↓reduceIte]; exact f_R13
  · rw [show S72 (a + 73) = S (a + 73) from by rw [he9, st_ne _ _ (off_ne (i := 73) (j := 23) (by decide)), he8 _ (off_out (j := 73) (k := 83) (n := 7) (by decide)), he7, st_ne _ _ (off_ne (i := 73) (j := 83) (by decide)), he6, st_ne _ _ (off_ne0' (j := 73) (by decide)), he5, st_ne _ _ (off_ne0' (j := 73) (by decide)), he4, st_ne _ _ (off_ne0' (j := 73) (by decide)), he3, st_ne _ _ (off_ne0' (j := 73) (by decide)), he2 _ (off_out (j := 73) (k := 78) (n := 5) (by decide)), he1, st_ne _ _ (off_ne (i := 73) (j := 78) (by decide))]]; exact f_P73
  · rw [h0]; simp only [eV4, eV3, eV2, eV1, gC_sR, gC_sI, gC_sJ, gR_sR, gR_sI, gR_sJ, gI_sR, gI_sI, gI_sJ, Nat.reduceEqDiff, ↓reduceIte]; exact f_R14
  · rw [show S72 (a + 78) = S59 (a + 78) from by rw [he9, st_ne _ _ (off_ne (i := 78) (j := 23) (by decide)), he8 _ (off_out (j := 78) (k := 83) (n := 7) (by decide)), he7, st_ne _ _ (off_ne (i := 78) (j := 83) (by decide)), he6, st_ne _ _ (off_ne0' (j := 78) (by decide)), he5, st_ne _ _ (off_ne0' (j := 78) (by decide)), he4, st_ne _ _ (off_ne0' (j := 78) (by decide)), he3, st_ne _ _ (off_ne0' (j := 78) (by decide))]]; exact p78
  · rw [h0]; simp only [eV4, eV3, eV2, eV1, gC_sR, gC_sI, gC_sJ, gR_sR, gR_sI, gR_sJ, gI_sR, gI_sI, gI_sJ, Nat.reduceEqDiff, ↓reduceIte]
  · rw [h0]; simp only [eV4, eV3, eV2, eV1, gC_sR, gC_sI, gC_sJ, gR_sR, gR_sI, gR_sJ, gI_sR, gI_sI, gI_sJ, Nat.reduceEqDiff, ↓reduceIte] <;> rfl
  · rw [h0]; simp only [eV4, eV3, eV2, eV1, gC_sR, gC_sI, gC_sJ, gR_sR, gR_sI, gR_sJ, gI_sR, gI_sI, gI_sJ, Nat.reduceEqDiff, ↓reduceIte] <;> rfl
  · rw [h0]; simp only [eV4, eV3, eV2, eV1, gC_sR, gC_sI, gC_sJ, gR_sR, gR_sI, gR_sJ, gI_sR, gI_sI, gI_sJ, Nat.reduceEqDiff, ↓reduceIte] <;> rfl
  · rw [show S72 (a + 83) = S71 (a + 83) from by rw [he9, st_ne _ _ (off_ne (i := 83) (j := 23) (by decide))]]; exact p83
  · rw [h23]; exact w_Q23
set_option maxHeartbeats 4000000 in
theorem sg12_5 {fu : Nat} {G : GG} {S : ST} {a : Nat} {P : ST → Prop} (hJ : J12_5 a S) (nx : ∀ S', J12_6 a S' → ∃ z, f_X12_init_g6 fu G S' a = some z ∧ P z) : ∃ z, f_X12_init_g5 fu G S a = some z ∧ P z := by
  obtain ⟨f_C, f_P1, f_R0, f_P6, f_P7, f_R1, f_P9, f_R2, f_P16, f_R3, f_R4, f_R5, f_P25, f_R6, f_C23, f_N23, f_C24, f_N24, f_P29, f_R7, f_P32, f_P33, f_R8, f_A40, f_R9, f_A41, f_R10, f_A42, f_R11, f_P43, f_P51, f_R12, f_P58, f_P66, f_R13, f_P73, f_R14, f_P78, f_R15, f_I16, f_I17, f_I18, f_P83, f_Q23⟩ := hJ
  unfold f_X12_init_g5
  obtain ⟨V0, h0⟩ : ∃ y, S a = y := ⟨_, rfl⟩
  rw [h0] at f_C f_R0 f_R1 f_R2 f_R3 f_R4 f_R5 f_R6 f_R7 f_R8 f_R9 f_R10 f_R11 f_R12 f_R13 f_R14 f_R15 f_I16 f_I17 f_I18
  refine ex_ck (decide_eq_true (by rw [h0]; exact f_C)) ?_
  refine ex_bd (x := a + 23) (by rw [h0]; exact f_R4) ?_
  refine ex_nm (fun S78 he1 => ?_)
  have h0 := (st_at he1 (off_ne0 (j := 90) (by decide))).trans h0
  obtain ⟨S79, e1, e2, he2⟩ := i_X3 (fu := fu) (G := G) (S := S78) (a := a + 90) (by rw [he1, st_same]; rfl)
  refine ex_bd e1 ?_
  have h0 : S79 a = V0 := (sub_at (k := 90) (n := 7) (j := 0) he2 (by decide)).trans h0
  have p90 : gC (S79 (a + 90)) = 3 ∧ CHL (S79 (a + 90)) (q00, lk0) := e2
  obtain ⟨W23, h23⟩ : ∃ y, S79 (a + 23) = y := ⟨_, rfl⟩
  have w_C23 := f_C23
  rw [← (show S79 (a + 23) = S (a + 23) from by rw [he2 _ (off_out (j := 23) (k := 90) (n := 7) (by decide)), he1, st_ne _ _ (off_ne (i := 23) (j := 90) (by decide))]), h23] at w_C23
  have w_N23 := f_N23
  rw [← (show S79 (a + 23) = S (a + 23) from by rw [he2 _ (off_out (j := 23) (k := 90) (n := 7) (by decide)), he1, st_ne _ _ (off_ne (i := 23) (j := 90) (by decide))]), h23] at w_N23
  have w_Q23 := f_Q23
  rw [← (show S79 (a + 23) = S (a + 23) from by rw [he2 _ (off_out (j := 23) (k := 90) (n := 7) (by decide)), he1, st_ne _ _ (off_ne (i := 23) (j := 90) (by decide))]), h23] at w_Q23
  refine ex_ck (decide_eq_true (by rw [h23]; exact w_C23)) ?_
  refine ex_ck (decide_eq_true p90.1) ?_
  refine ex_ck (by rw [h23, w_N23]; decide) ?_
  refine ex_nm (fun S80 he3 => ?_)
  have h0 := (st_at he3 (off_ne0 (j := 23) (by decide))).trans h0
  rw [h23, show (1 : Int32).toNatClampNeg = 1 by decide] at he3
  have h23 := (congrFun he3 (a + 23)).trans (st_same _ _ _)
  have w_Q23 := gQ_step (x := a + 90) w_Q23 (by omega)
  have w_C23 : gC (sQ W23 0 1 (some (a + 90))) = 29 := w_C23
  have w_N23 : gN (sQ W23 0 1 (some (a + 90))) 0 = 17 := w_N23
  obtain ⟨W23_3, eW⟩ : ∃ y, sQ W23 0 1 (some (a + 90)) = y := ⟨_, rfl⟩
  rw [eW] at h23 w_Q23 w_C23 w_N23 he3
  clear eW
  refine ex_ck (decide_eq_true (by rw [h0]; exact f_C)) ?_
  refine ex_bd (x := a + 23) (by rw [h0]; exact f_R4) ?_
  refine ex_nm (fun S86 he4 => ?_)
  have h0 := (st_at he4 (off_ne0 (j := 97) (by decide))).trans h0
  have h23 := (st_at he4 (off_ne (i := 23) (j := 97) (by decide))).trans h23
  obtain ⟨S87, e1, e2, he5⟩ := i_X3 (fu := fu) (G := G) (S := S86) (a := a + 97) (by rw [he4, st_same]; rfl)
  refine ex_bd e1 ?_
  have h0 : S87 a = V0 := (sub_at (k := 97) (n := 7) (j := 0) he5 (by decide)).trans h0
  have h23 := (sub_at (k := 97) (n := 7) (j := 23) he5 (by decide)).trans h23
  have p97 : gC (S87 (a + 97)) = 3 ∧ CHL (S87 (a + 97)) (q00, lk0) := e2
  refine ex_ck (decide_eq_true (by rw [h23]; exact w_C23)) ?_
  refine ex_ck (decide_eq_true p97.1) ?_
  refine ex_ck (by rw [h23, w_N23]; decide) ?_
  refine ex_nm (fun S88 he6 => ?_)
  have h0 := (st_at he6 (off_ne0 (j := 23) (by decide))).trans h0
  rw [h23, show (2 : Int32).toNatClampNeg = 2 by decide] at he6
  have h23 := (congrFun he6 (a + 23)).trans (st_same _ _ _)
  have w_Q23 := gQ_step (x := a + 97) w_Q23 (by omega)
  have w_C23 : gC (sQ W23_3 0 2 (some (a + 97))) = 29 := w_C23
  have w_N23 : gN (sQ W23_3 0 2 (some (a + 97))) 0 = 17 := w_N23
  obtain ⟨W23_6, eW⟩ : ∃ y, sQ W23_3 0 2 (some (a + 97)) = y := ⟨_, rfl⟩
  rw [eW] at h23 w_Q23 w_C23 w_N23 he6
  clear eW
  refine nx S88 ⟨?_, ?_, ?_, ?_, ?_, ?_, ?_, ?_, ?_, ?_, ?_, ?_, ?_, ?_, ?_, ?_, ?_, ?_, ?_, ?_, ?_, ?_, ?_, ?_, ?_, ?_, ?_, ?_, ?_, ?_, ?_, ?_, ?_, ?_, ?_, ?_, ?_, ?_, ?_, ?_, ?_, ?_, ?_, ?_, ?_, ?_⟩
  · rw [h0]; exact f_C
  · rw [show S88 (a + 1) = S (a + 1) from by rw [he6, st_ne _ _ (off_ne (i := 1) (j := 23) (by decide)), he5 _ (off_out (j := 1) (k := 97) (n := 7) (by decide)), he4, st_ne _ _ (off_ne (i := 1) (j := 97) (by decide)), he3, st_ne _ _ (off_ne (i := 1) (j := 23) (by decide)), he2 _ (off_out (j := 1) (k := 90) (n := 7) (by decide)), he1, st_ne _ _ (off_ne (i := 1) (j := 90) (by decide))]]; exact f_P1
  · rw [h0]; exact f_R0
  · rw [show S88 (a + 6) = S (a + 6) from by rw [he6, st_ne _ _ (off_ne (i := 6) (j := 23) (by decide)), he5 _ (off_out (j := 6) (k := 97) (n := 7) (by decide)), he4, st_ne _ _ (off_ne (i := 6) (j := 97) (by decide)), he3, st_ne _ _ (off_ne (i := 6) (j := 23) (by decide)), he2 _ (off_out (j := 6) (k := 90) (n := 7) (by decide)), he1, st_ne _ _ (off_ne (i := 6) (j := 90) (by decide))]]; exact f_P6
  · rw [show S88 (a + 7) = S (a + 7) from by rw [he6, st_ne _ _ (off_ne (i := 7) (j := 23) (by decide)), he5 _ (off_out (j := 7) (k := 97) (n := 7) (by decide)), he4, st_ne _ _ (off_ne (i := 7) (j := 97) (by decide)), he3, st_ne _ _ (off_ne (i := 7) (j := 23) (by decide)), he2 _ (off_out (j := 7) (k := 90) (n := 7) (by decide)), he1, st_ne _ _ (off_ne (i := 7) (j := 90) (by decide))]]; exact f_P7
  · rw [h0]; exact f_R1
  · rw [show S88 (a + 9) = S (a + 9) from by rw [he6, st_ne _ _ (off_ne (i := 9) (j := 23) (by decide)), he5 _ (off_out (j := 9) (k := 97) (n := 7) (by decide)), he4, st_ne _ _ (off_ne (i := 9) (j := 97) (by decide)), he3, st_ne _ _ (off_ne (i := 9) (j := 23) (by decide)), he2 _ (off_out (j := 9) (k := 90) (n := 7) (by decide)), he1, st_ne _ _ (off_ne (i := 9) (j := 90) (by decide))]]; exact f_P9
  · rw [h0]; exact f_R2
  · rw [show S88 (a + 16) = S (a + 16) from by rw [he6, st_ne _ _ (off_ne (i := 16) (j := 23) (by decide)), he5 _ (off_out (j := 16) (k := 97) (n := 7) (by decide)), he4, st_ne _ _ (off_ne (i := 16) (j := 97) (by decide)), he3, st_ne _ _ (off_ne (i := 16) (j := 23) (by decide)), he2 _ (off_out (j := 16) (k := 90) (n := 7) (by decide)), he1, st_ne _ _ (off_ne (i := 16) (j := 90) (by decide))]]; exact f_P16
  · rw [h0]; exact f_R3
  · rw [h0]; exact f_R4
  · rw [h0]; exact f_R5
  · rw [show S88 (a + 25) = S (a + 25) from by rw [he6, st_ne _ _ (off_ne (i := 25) (j := 23) (by decide)), he5 _ (off_out (j := 25) (k := 97) (n := 7) (by decide)), he4, st_ne _ _ (off_ne (i := 25) (j := 97) (by decide)), he3, st_ne _ _ (off_ne (i := 25) (j := 23) (by decide)), he2 _ (off_out (j := 25) (k := 90) (n := 7) (by decide)), he1, st_ne _ _ (off_ne (i := 25) (j := 90) (by decide))]]; exact f_P25
  · rw [h0]; exact f_R6
  · rw [h23]; exact w_C23
  · rw [h23]; exact w_N23
  · rw [show S88 (a + 24) = S (a + 24) from by rw [he6, st_ne _ _ (off_ne (i := 24) (j := 23) (by decide)), he5 _ (off_out (j := 24) (k := 97) (n := 7) (by decide)), he4, st_ne _ _ (off_ne (i := 24) (j := 97) (by decide)), he3, st_ne _ _ (off_ne (i := 24) (j := 23) (by decide)), he2 _ (off_out (j := 24) (k := 90) (n := 7) (by decide)), he1, st_ne _ _ (off_ne (i := 24) (j := 90) (by decide))]]; exact f_C24
  · rw [show S88 (a + 24) = S (a + 24) from by rw [he6, st_ne _ _ (off_ne (i := 24) (j := 23) (by decide)), he5 _ (off_out (j := 24) (k := 97) (n := 7) (by decide)), he4, st_ne _ _ (off_ne (i := 24) (j := 97) (by decide)), he3, st_ne _ _ (off_ne (i := 24) (j := 23) (by decide)), he2 _ (off_out (j := 24) (k := 90) (n := 7) (by decide)), he1, st_ne _ _ (off_ne (i := 24) (j := 90) (by decide))]]; exact f_N24
  · rw [show S88 (a + 29) = S (a + 29) from by rw [he6, st_ne _ _ (off_ne (i := 29) (j := 23) (by decide)), he5 _ (off_out (j := 29) (k := 97) (n := 7) (by decide)), he4, st_ne _ _ (off_ne (i := 29) (j := 97) (by decide)), he3, st_ne _ _ (off_ne (i := 29) (j := 23) (by decide)), he2 _ (off_out (j := 29) (k := 90) (n := 7) (by decide)), he1, st_ne _ _ (off_ne (i := 29) (j := 90) (by decide))]]; exact f_P29
  · rw [h0]; exact f_R7
  · rw [show S88 (a + 32) = S (a + 32) from by rw [he6, st_ne _ _ (off_ne (i := 32) (j := 23) (by decide)), he5 _ (off_out (j := 32) (k := 97) (n := 7) (by decide)), he4, st_ne _ _ (off_ne (i := 32) (j := 97) (by decide)), he3, st_ne _ _ (off_ne (i := 32) (j := 23) (by decide)), he2 _ (off_out (j := 32) (k := 90) (n := 7) (by decide)), he1, st_ne _ _ (off_ne (i := 32) (j := 90) (by decide))]]; exact f_P32
  · rw [show S88 (a + 33) = S (a + 33) from by rw [he6, st_ne _ _ (off_ne (i := 33) (j := 23) (by decide)), he5 _ (off_out (j := 33) (k := 97) (n := 7) (by decide)), he4, st_ne _ _ (off_ne (i := 33) (j := 97) (by decide)), he3, st_ne _ _ (off_ne (i := 33) (j := 23) (by decide)), he2 _ (off_out (j := 33) (k := 90) (n := 7) (by decide)), he1, st_ne _ _ (off_ne (i := 33) (j := 90) (by decide))]]; exact f_P33
  · rw [h0]; exact f_R8
  · rw [show S88 (a + 40) = S (a + 40) from by rw [he6, st_ne _ _ (off_ne (i := 40) (j := 23) (by decide)), he5 _ (off_out (j := 40) (k := 97) (n := 7) (by decide)), he4, st_ne _ _ (off_ne (i := 40) (j := 97) (by decide)), he3, st_ne _ _ (off_ne (i := 40) (j := 23) (by decide)), he2 _ (off_out (j := 40) (k := 90) (n := 7) (by decide)), he1, st_ne _ _ (off_ne (i := 40) (j := 90) (by decide))]]; exact f_A40
  · rw [h0]; exact f_R9
  · rw [show S88 (a + 41) = S (a + 41) from by rw [he6, st_ne _ _ (off_ne (i := 41) (j := 23) (by decide)), he5 _ (off_out (j := 41) (k := 97) (n := 7) (by decide)), he4, st_ne _ _ (off_ne (i := 41) (j := 97) (by decide)), he3, st_ne _ _ (off_ne (i := 41) (j := 23) (by decide)), he2 _ (off_out (j := 41) (k := 90) (n := 7) (by decide)), he1, st_ne _ _ (off_ne (i := 41) (j := 90) (by decide))]]; exact f_A41
  · rw [h0]; exact f_R10
  · rw [show S88 (a + 42) = S (a + 42) from by rw [he6, st_ne _ _ (off_ne (i := 42) (j := 23) (by decide)), he5 _ (off_out (j := 42) (k := 97) (n := 7) (by decide)), he4, st_ne _ _ (off_ne (i := 42) (j := 97) (by decide)), he3, st_ne _ _ (off_ne (i := 42) (j := 23) (by decide)), he2 _ (off_out (j := 42) (k := 90) (n := 7) (by decide)), he1, st_ne _ _ (off_ne (i := 42) (j := 90) (by decide))]]; exact f_A42
  · rw [h0]; exact f_R11
  · rw [show S88 (a + 43) = S (a + 43) from by rw [he6, st_ne _ _ (off_ne (i := 43) (j := 23) (by decide)), he5 _ (off_out (j := 43) (k := 97) (n := 7) (by decide)), he4, st_ne _ _ (off_ne (i := 43) (j := 97) (by decide)), he3, st_ne _ _ (off_ne (i := 43) (j := 23) (by decide)), he2 _ (off_out (j := 43) (k := 90) (n := 7) (by decide)), he1, st_ne _ _ (off_ne (i := 43) (j := 90) (by decide))]]; exact f_P43
  · rw [show S88 (a + 51) = S (a + 51) from by rw [he6, st_ne _ _ (off_ne (i := 51) (j := 23) (by decide)), he5 _ (off_out (j := 51) (k := 97) (n := 7) (by decide)), he4, st_ne _ _ (off_ne (i := 51) (j := 97) (by decide)), he3, st_ne _ _ (off_ne (i := 51) (j := 23) (by decide)), he2 _ (off_out (j := 51) (k := 90) (n := 7) (by decide)), he1, st_ne _ _ (off_ne (i := 51) (j := 90) (by decide))]]; exact f_P51
  · rw [h0]; exact f_R12
  · rw [show S88 (a + 58) = S (a + 58) from by rw [he6, st_ne _ _ (off_ne (i := 58) (j := 23) (by decide)), he5 _ (off_out (j := 58) (k := 97) (n := 7) (by decide)), he4, st_ne _ _ (off_ne (i := 58) (j := 97) (by decide)), he3, st_ne _ _ (off_ne (i := 58) (j := 23) (by decide)), he2 _ (off_out (j := 58) (k := 90) (n := 7) (by decide)), he1, st_ne _ _ (off_ne (i := 58) (j := 90) (by decide))]]; exact f_P58
  · rw [show S88 (a + 66) = S (a + 66) from by rw [he6, st_ne _ _ (off_ne (i := 66) (j := 23) (by decide)), he5 _ (off_out (j := 66) (k := 97) (n := 7) (by decide)), he4, st_ne _ _ (off_ne (i := 66) (j := 97) (by decide)), he3, st_ne _ _ (off_ne (i := 66) (j := 23) (by decide)), he2 _ (off_out (j := 66) (k := 90) (n := 7) (by decide)), he1, st_ne _ _ (off_ne (i := 66) (j := 90) (by decide))]]; exact f_P66
  · rw [h0]; exact f_R13
  · rw [show S88 (a + 73) = S (a + 73) from by rw [he6, st_ne _ _ (off_ne (i := 73) (j := 23) (by decide)), he5 _ (off_out (j := 73) (k := 97) (n := 7) (by decide)), he4, st_ne _ _ (off_ne (i := 73) (j := 97) (by decide)), he3, st_ne _ _ (off_ne (i := 73) (j := 23) (by decide)), he2 _ (off_out (j := 73) (k := 90) (n := 7) (by decide)), he1, st_ne _ _ (off_ne (i := 73) (j := 90) (by decide))]]; exact f_P73
  · rw [h0]; exact f_R14
  · rw [show S88 (a + 78) = S (a + 78) from by rw [he6, st_ne _ _ (off_ne (i := 78) (j := 23) (by decide)), he5 _ (off_out (j := 78) (k := 97) (n := 7) (by decide)), he4, st_ne _ _ (off_ne (i := 78) (j := 97) (by decide)), he3, st_ne _ _ (off_ne (i := 78) (j := 23) (by decide)), he2 _ (off_out (j := 78) (k := 90) (n := 7) (by decide)), he1, st_ne _ _ (off_ne (i := 78) (j := 90) (by decide))]]; exact f_P78
  · rw [h0]; exact f_R15
  · rw [h0]; exact f_I16
  · rw [h0]; exact f_I17
  · rw [h0]; exact f_I18
  · rw [show S88 (a + 83) = S (a + 83) from by rw [he6, st_ne _ _ (off_ne (i := 83) (j := 23) (by decide)), he5 _ (off_out (j := 83) (k := 97) (n := 7) (by decide)), he4, st_ne _ _ (off_ne (i := 83) (j := 97) (by decide)), he3, st_ne _ _ (off_ne (i := 83) (j := 23) (by decide)), he2 _ (off_out (j := 83) (k := 90) (n := 7) (by decide)), he1, st_ne _ _ (off_ne (i := 83) (j := 90) (by decide))]]; exact f_P83
  · rw [h23]; exact w_Q23
  · rw [show S88 (a + 90) = S79 (a + 90) from by rw [he6, st_ne _ _ (off_ne (i := 90) (j := 23) (by decide)), he5 _ (off_out (j := 90) (k := 97) (n := 7) (by decide)), he4, st_ne _ _ (off_ne (i := 90) (j := 97) (by decide)), he3, st_ne _ _ (off_ne (i := 90) (j := 23) (by decide))]]; exact p90
  · rw [show S88 (a + 97) = S87 (a + 97) from by rw [he6, st_ne _ _ (off_ne (i := 97) (j := 23) (by decide))]]; exact p97
set_option maxHeartbeats 4000000 in
theorem sg12_6 {fu : Nat} {G : GG} {S : ST} {a : Nat} {P : ST → Prop} (hJ : J12_6 a S) (nx : ∀ S', J12_7 a S' → ∃ z, f_X12_init_g7 fu G S' a = some z ∧ P z) : ∃ z, f_X12_init_g6 fu G S a = some z ∧ P z := by
  obtain ⟨f_C, f_P1, f_R0, f_P6, f_P7, f_R1, f_P9, f_R2, f_P16, f_R3, f_R4, f_R5, f_P25, f_R6, f_C23, f_N23, f_C24, f_N24, f_P29, f_R7, f_P32, f_P33, f_R8, f_A40, f_R9, f_A41, f_R10, f_A42, f_R11, f_P43, f_P51, f_R12, f_P58, f_P66, f_R13, f_P73, f_R14, f_P78, f_R15, f_I16, f_I17, f_I18, f_P83, f_Q23, f_P90, f_P97⟩ := hJ
  unfold f_X12_init_g6
  obtain ⟨V0, h0⟩ : ∃ y, S a = y := ⟨_, rfl⟩
  rw [h0] at f_C f_R0 f_R1 f_R2 f_R3 f_R4 f_R5 f_R6 f_R7 f_R8 f_R9 f_R10 f_R11 f_R12 f_R13 f_R14 f_R15 f_I16 f_I17 f_I18
  refine ex_ck (decide_eq_true (by rw [h0]; exact f_C)) ?_
  refine ex_bd (x := a + 23) (by rw [h0]; exact f_R4) ?_
  refine ex_nm (fun S94 he1 => ?_)
  have h0 := (st_at he1 (off_ne0 (j := 104) (by decide))).trans h0
  obtain ⟨S95, e1, e2, he2⟩ := i_X3 (fu := fu) (G := G) (S := S94) (a := a + 104) (by rw [he1, st_same]; rfl)
  refine ex_bd e1 ?_
  have h0 : S95 a = V0 := (sub_at (k := 104) (n := 7) (j := 0) he2 (by decide)).trans h0
  have p104 : gC (S95 (a + 104)) = 3 ∧ CHL (S95 (a + 104)) (q00, lk0) := e2
  obtain ⟨W23, h23⟩ : ∃ y, S95 (a + 23) = y := ⟨_, rfl⟩
  have w_C23 := f_C23
  rw [← (show S95 (a + 23) = S (a + 23) from by rw [he2 _ (off_out (j := 23) (k := 104) (n := 7) (by decide)), he1, st_ne _ _ (off_ne (i := 23) (j := 104) (by decide))]), h23] at w_C23
  have w_N23 := f_N23
  rw [← (show S95 (a + 23) = S (a + 23) from by rw [he2 _ (off_out (j := 23) (k := 104) (n := 7) (by decide)), he1, st_ne _ _ (off_ne (i := 23) (j := 104) (by decide))]), h23] at w_N23
  have w_Q23 := f_Q23
  rw [← (show S95 (a + 23) = S (a + 23) from by rw [he2 _ (off_out (j := 23) (k := 104) (n := 7) (by decide)), he1, st_ne _ _ (off_ne (i := 23) (j := 104) (by decide))]), h23] at w_Q23
  refine ex_ck (decide_eq_true (by rw [h23]; exact w_C23)) ?_
  refine ex_ck (decide_eq_true p104.1) ?_
  refine ex_ck (by rw [h23, w_N23]; decide) ?_
  refine ex_nm (fun S96 he3 => ?_)
  have h0 := (st_at he3 (off_ne0 (j := 23) (by decide))).trans h0
  rw [h23, show (3 : Int32).toNatClampNeg = 3 by decide] at he3
  have h23 := (congrFun he3 (a + 23)).trans (st_same _ _ _)
  have w_Q23 := gQ_step (x := a + 104) w_Q23 (by omega)
  have w_C23 : gC (sQ W23 0 3 (some (a + 104))) = 29 := w_C23
  have w_N23 : gN (sQ W23 0 3 (some (a + 104))) 0 = 17 := w_N23
  obtain ⟨W23_3, eW⟩ : ∃ y, sQ W23 0 3 (some (a + 104)) = y := ⟨_, rfl⟩
  rw [eW] at h23 w_Q23 w_C23 w_N23 he3
  clear eW
  refine ex_ck (decide_eq_true (by rw [h0]; exact f_C)) ?_
  refine ex_bd (x := a + 23) (by rw [h0]; exact f_R4) ?_
  refine ex_nm (fun S102 he4 => ?_)
  have h0 := (st_at he4 (off_ne0 (j := 111) (by decide))).trans h0
  have h23 := (st_at he4 (off_ne (i := 23) (j := 111) (by decide))).trans h23
  obtain ⟨S103, e1, e2, he5⟩ := i_X3 (fu := fu) (G := G) (S := S102) (a := a + 111) (by rw [he4, st_same]; rfl)
  refine ex_bd e1 ?_
  have h0 : S103 a = V0 := (sub_at (k := 111) (n := 7) (j := 0) he5 (by decide)).trans h0
  have h23 := (sub_at (k := 111) (n := 7) (j := 23) he5 (by decide)).trans h23
  have p111 : gC (S103 (a + 111)) = 3 ∧ CHL (S103 (a + 111)) (q00, lk0) := e2
  refine ex_ck (decide_eq_true (by rw [h23]; exact w_C23)) ?_
  refine ex_ck (decide_eq_true p111.1) ?_
  refine ex_ck (by rw [h23, w_N23]; decide) ?_
  refine ex_nm (fun S104 he6 => ?_)
  have h0 := (st_at he6 (off_ne0 (j := 23) (by decide))).trans h0
  rw [h23, show (4 : Int32).toNatClampNeg = 4 by decide] at he6
  have h23 := (congrFun he6 (a + 23)).trans (st_same _ _ _)
  have w_Q23 := gQ_step (x := a + 111) w_Q23 (by omega)
  have w_C23 : gC (sQ W23_3 0 4 (some (a + 111))) = 29 := w_C23
  have w_N23 : gN (sQ W23_3 0 4 (some (a + 111))) 0 = 17 := w_N23
  obtain ⟨W23_6, eW⟩ : ∃ y, sQ W23_3 0 4 (some (a + 111)) = y := ⟨_, rfl⟩
  rw [eW] at h23 w_Q23 w_C23 w_N23 he6
  clear eW
  refine nx S104 ⟨?_, ?_, ?_, ?_, ?_, ?_, ?_, ?_, ?_, ?_, ?_, ?_, ?_, ?_, ?_, ?_, ?_, ?_, ?_, ?_, ?_, ?_, ?_, ?_, ?_, ?_, ?_, ?_, ?_, ?_, ?_, ?_, ?_, ?_, ?_, ?_, ?_, ?_, ?_, ?_, ?_, ?_, ?_, ?_, ?_, ?_, ?_, ?_⟩
  · rw [h0]; exact f_C
  · rw [show S104 (a + 1) = S (a + 1) from by rw [he6, st_ne _ _ (off_ne (i := 1) (j := 23) (by decide)), he5 _ (off_out (j := 1) (k := 111) (n := 7) (by decide)), he4, st_ne _ _ (off_ne (i := 1) (j := 111) (by decide)), he3, st_ne _ _ (off_ne (i := 1) (j := 23) (by decide)), he2 _ (off_out (j := 1) (k := 104) (n := 7) (by decide)), he1, st_ne _ _ (off_ne (i := 1) (j := 104) (by decide))]]; exact f_P1
  · rw [h0]; exact f_R0
  · rw [show S104 (a + 6) = S (a + 6) from by rw [he6, st_ne _ _ (off_ne (i := 6) (j := 23) (by decide)), he5 _ (off_out (j := 6) (k := 111) (n := 7) (by decide)), he4, st_ne _ _ (off_ne (i := 6) (j := 111) (by decide)), he3, st_ne _ _ (off_ne (i := 6) (j := 23) (by decide)), he2 _ (off_out (j := 6) (k := 104) (n := 7) (by decide)), he1, st_ne _ _ (off_ne (i := 6) (j := 104) (by decide))]]; exact f_P6
  · rw [show S104 (a + 7) = S (a + 7) from by rw [he6, st_ne _ _ (off_ne (i := 7) (j := 23) (by decide)), he5 _ (off_out (j := 7) (k := 111) (n := 7) (by decide)), he4, st_ne _ _ (off_ne (i := 7) (j := 111) (by decide)), he3, st_ne _ _ (off_ne (i := 7) (j := 23) (by decide)), he2 _ (off_out (j := 7) (k := 104) (n := 7) (by decide)), he1, st_ne _ _ (off_ne (i := 7) (j := 104) (by decide))]]; exact f_P7
  · rw [h0]; exact f_R1
  · rw [show S104 (a + 9) = S (a + 9) from by rw [he6, st_ne _ _ (off_ne (i := 9) (j := 23) (by decide)), he5 _ (off_out (j := 9) (k := 111) (n := 7) (by decide)), he4, st_ne _ _ (off_ne (i := 9) (j := 111) (by decide)), he3, st_ne _ _ (off_ne (i := 9) (j := 23) (by decide)), he2 _ (off_out (j := 9) (k := 104) (n := 7) (by decide)), he1, st_ne _ _ (off_ne (i := 9) (j := 104) (by decide))]]; exact f_P9
  · rw [h0]; exact f_R2
  · rw [show S104 (a + 16) = S (a + 16) from by rw [he6, st_ne _ _ (off_ne (i := 16) (j := 23) (by decide)), he5 _ (off_out (j := 16) (k := 111) (n := 7) (by decide)), he4, st_ne _ _ (off_ne (i := 16) (j := 111) (by decide)), he3, st_ne _ _ (off_ne (i := 16) (j := 23) (by decide)), he2 _ (off_out (j := 16) (k := 104) (n := 7) (by decide)), he1, st_ne _ _ (off_ne (i := 16) (j := 104) (by decide))]]; exact f_P16
  · rw [h0]; exact f_R3
  · rw [h0]; exact f_R4
  · rw [h0]; exact f_R5
  · rw [show S104 (a + 25) = S (a + 25) from by rw [he6, st_ne _ _ (off_ne (i := 25) (j := 23) (by decide)), he5 _ (off_out (j := 25) (k := 111) (n := 7) (by decide)), he4, st_ne _ _ (off_ne (i := 25) (j := 111) (by decide)), he3, st_ne _ _ (off_ne (i := 25) (j := 23) (by decide)), he2 _ (off_out (j := 25) (k := 104) (n := 7) (by decide)), he1, st_ne _ _ (off_ne (i := 25) (j := 104) (by decide))]]; exact f_P25
  · rw [h0]; exact f_R6
  · rw [h23]; exact w_C23
  · rw [h23]; exact w_N23
  · rw [show S104 (a + 24) = S (a + 24) from by rw [he6, st_ne _ _ (off_ne (i := 24) (j := 23) (by decide)), he5 _ (off_out (j := 24) (k := 111) (n := 7) (by decide)), he4, st_ne _ _ (off_ne (i := 24) (j := 111) (by decide)), he3, st_ne _ _ (off_ne (i := 24) (j := 23) (by decide)), he2 _ (off_out (j := 24) (k := 104) (n := 7) (by decide)), he1, st_ne _ _ (off_ne (i := 24) (j := 104) (by decide))]]; exact f_C24
  · rw [show S104 (a + 24) = S (a + 24) from by rw [he6, st_ne _ _ (off_ne (i := 24) (j := 23) (by decide)), he5 _ (off_out (j := 24) (k := 111) (n := 7) (by decide)), he4, st_ne _ _ (off_ne (i := 24) (j := 111) (by decide)), he3, st_ne _ _ (off_ne (i := 24) (j := 23) (by decide)), he2 _ (off_out (j := 24) (k := 104) (n := 7) (by decide)), he1, st_ne _ _ (off_ne (i := 24) (j := 104) (by decide))]]; exact f_N24
  · rw [show S104 (a + 29) = S (a + 29) from by rw [he6, st_ne _ _ (off_ne (i := 29) (j := 23) (by decide)), he5 _ (off_out (j := 29) (k := 111) (n := 7) (by decide)), he4, st_ne _ _ (off_ne (i := 29) (j := 111) (by decide)), he3, st_ne _ _ (off_ne (i := 29) (j := 23) (by decide)), he2 _ (off_out (j := 29) (k := 104) (n := 7) (by decide)), he1, st_ne _ _ (off_ne (i := 29) (j := 104) (by decide))]]; exact f_P29
  · rw [h0]; exact f_R7
  · rw [show S104 (a + 32) = S (a + 32) from by rw [he6, st_ne _ _ (off_ne (i := 32) (j := 23) (by decide)), he5 _ (off_out (j := 32) (k := 111) (n := 7) (by decide)), he4, st_ne _ _ (off_ne (i := 32) (j := 111) (by decide)), he3, st_ne _ _ (off_ne (i := 32) (j := 23) (by decide)), he2 _ (off_out (j := 32) (k := 104) (n := 7) (by decide)), he1, st_ne _ _ (off_ne (i := 32) (j := 104) (by decide))]]; exact f_P32
  · rw [show S104 (a + 33) = S (a + 33) from by rw [he6, st_ne _ _ (off_ne (i := 33) (j := 23) (by decide)), he5 _ (off_out (j := 33) (k := 111) (n := 7) (by decide)), he4, st_ne _ _ (off_ne (i := 33) (j := 111) (by decide)), he3, st_ne _ _ (off_ne (i := 33) (j := 23) (by decide)), he2 _ (off_out (j := 33) (k := 104) (n := 7) (by decide)), he1, st_ne _ _ (off_ne (i := 33) (j := 104) (by decide))]]; exact f_P33
  · rw [h0]; exact f_R8
  · rw [show S104 (a + 40) = S (a + 40) from by rw [he6, st_ne _ _ (off_ne (i := 40) (j := 23) (by decide)), he5 _ (off_out (j := 40) (k := 111) (n := 7) (by decide)), he4, st_ne _ _ (off_ne (i := 40) (j := 111) (by decide)), he3, st_ne _ _ (off_ne (i := 40) (j := 23) (by decide)), he2 _ (off_out (j := 40) (k := 104) (n := 7) (by decide)), he1, st_ne _ _ (off_ne (i := 40) (j := 104) (by decide))]]; exact f_A40
  · rw [h0]; exact f_R9
  · rw [show S104 (a + 41) = S (a + 41) from by rw [he6, st_ne _ _ (off_ne (i := 41) (j := 23) (by decide)), he5 _ (off_out (j := 41) (k := 111) (n := 7) (by decide)), he4, st_ne _ _ (off_ne (i := 41) (j := 111) (by decide)), he3, st_ne _ _ (off_ne (i := 41) (j := 23) (by decide)), he2 _ (off_out (j := 41) (k := 104) (n := 7) (by decide)), he1, st_ne _ _ (off_ne (i := 41) (j := 104) (by decide))]]; exact f_A41
  · rw [h0]; exact f_R10
  · rw [show S104 (a + 42) = S (a + 42) from by rw [he6, st_ne _ _ (off_ne (i := 42) (j := 23) (by decide)), he5 _ (off_out (j := 42) (k := 111) (n := 7) (by decide)), he4, st_ne _ _ (off_ne (i := 42) (j := 111) (by decide)), he3, st_ne _ _ (off_ne (i := 42) (j := 23) (by decide)), he2 _ (off_out (j := 42) (k := 104) (n := 7) (by decide)), he1, st_ne _ _ (off_ne (i := 42) (j := 104) (by decide))]]; exact f_A42
  · rw [h0]; exact f_R11
  · rw [show S104 (a + 43) = S (a + 43) from by rw [he6, st_ne _ _ (off_ne (i := 43) (j := 23) (by decide)), he5 _ (off_out (j := 43) (k := 111) (n := 7) (by decide)), he4, st_ne _ _ (off_ne (i := 43) (j := 111) (by decide)), he3, st_ne _ _ (off_ne (i := 43) (j := 23) (by decide)), he2 _ (off_out (j := 43) (k := 104) (n := 7) (by decide)), he1, st_ne _ _ (off_ne (i := 43) (j := 104) (by decide))]]; exact f_P43
  · rw [show S104 (a + 51) = S (a + 51) from by rw [he6, st_ne _ _ (off_ne (i := 51) (j := 23) (by decide)), he5 _ (off_out (j := 51) (k := 111) (n := 7) (by decide)), he4, st_ne _ _ (off_ne (i := 51) (j := 111) (by decide)), he3, st_ne _ _ (off_ne (i := 51) (j := 23) (by decide)), he2 _ (off_out (j := 51) (k := 104) (n := 7) (by decide)), he1, st_ne _ _ (off_ne (i := 51) (j := 104) (by decide))]]; exact f_P51
  · rw [h0]; exact f_R12
  · rw [show S104 (a + 58) = S (a + 58) from by rw [he6, st_ne _ _ (off_ne (i := 58) (j := 23) (by decide)), he5 _ (off_out (j := 58) (k := 111) (n := 7) (by decide)), he4, st_ne _ _ (off_ne (i := 58) (j := 111) (by decide)), he3, st_ne _ _ (off_ne (i := 58) (j := 23) (by decide)), he2 _ (off_out (j := 58) (k := 104) (n := 7) (by decide)), he1, st_ne _ _ (off_ne (i := 58) (j := 104) (by decide))]]; exact f_P58
  · rw [show S104 (a + 66) = S (a + 66) from by rw [he6, st_ne _ _ (off_ne (i := 66) (j := 23) (by decide)), he5 _ (off_out (j := 66) (k := 111) (n := 7) (by decide)), he4, st_ne _ _ (off_ne (i := 66) (j := 111) (by decide)), he3, st_ne _ _ (off_ne (i := 66) (j := 23) (by decide)), he2 _ (off_out (j := 66) (k := 104) (n := 7) (by decide)), he1, st_ne _ _ (off_ne (i := 66) (j := 104) (by decide))]]; exact f_P66
  · rw [h0]; exact f_R13
  · rw [show S104 (a + 73) = S (a + 73) from by rw [he6, st_ne _ _ (off_ne (i := 73) (j := 23) (by decide)), he5 _ (off_out (j := 73) (k := 111) (n := 7) (by decide)), he4, st_ne _ _ (off_ne (i := 73) (j := 111) (by decide)), he3, st_ne _ _ (off_ne (i := 73) (j := 23) (by decide)), he2 _ (off_out (j := 73) (k := 104) (n := 7) (by decide)), he1, st_ne _ _ (off_ne (i := 73) (j := 104) (by decide))]]; exact f_P73
  · rw [h0]; exact f_R14
  · rw [show S104 (a + 78) = S (a + 78) from by rw [he6, st_ne _ _ (off_ne (i := 78) (j := 23) (by decide)), he5 _ (off_out (j := 78) (k := 111) (n := 7) (by decide)), he4, st_ne _ _ (off_ne (i := 78) (j := 111) (by decide)), he3, st_ne _ _ (off_ne (i := 78) (j := 23) (by decide)), he2 _ (off_out (j := 78) (k := 104) (n := 7) (by decide)), he1, st_ne _ _ (off_ne (i := 78) (j := 104) (by decide))]]; exact f_P78
  · rw [h0]; exact f_R15
  · rw [h0]; exact f_I16
  · rw [h0]; exact f_I17
  · rw [h0]; exact f_I18
  · rw [show S104 (a + 83) = S (a + 83) from by rw [he6, st_ne _ _ (off_ne (i := 83) (j := 23) (by decide)), he5 _ (off_out (j := 83) (k := 111) (n := 7) (by decide)), he4, st_ne _ _ (off_ne (i := 83) (j := 111) (by decide)), he3, st_ne _ _ (off_ne (i := 83) (j := 23) (by decide)), he2 _ (off_out (j := 83) (k := 104) (n := 7) (by decide)), he1, st_ne _ _ (off_ne (i := 83) (j := 104) (by decide))]]; exact f_P83
  · rw [h23]; exact w_Q23
  · rw [show S104 (a + 90) = S (a + 90) from by rw [he6, st_ne _ _ (off_ne (i := 90) (j := 23) (by decide)), he5 _ (off_out (j := 90) (k := 111) (n := 7) (by decide)), he4, st_ne _ _ (off_ne (i := 90) (j := 111) (by decide)), he3, st_ne _ _ (off_ne (i := 90) (j := 23) (by decide)), he2 _ (off_out (j := 90) (k := 104) (n := 7) (by decide)), he1, st_ne _ _ (off_ne (i := 90) (j := 104) (by decide))]]; exact f_P90
  · rw [show S104 (a + 97) = S (a + 97) from by rw [he6, st_ne _ _ (off_ne (i := 97) (j := 23) (by decide)), he5 _ (off_out (j := 97) (k := 111) (n := 7) (by decide)), he4, st_ne _ _ (off_ne (i := 97) (j := 111) (by decide)), he3, st_ne _ _ (off_ne (i := 97) (j := 23) (by decide)), he2 _ (off_out (j := 97) (k := 104) (n := 7) (by decide)), he1, st_ne _ _ (off_ne (i := 97) (j := 104) (by decide))]]; exact f_P97
  · rw [show S104 (a + 104) = S95 (a + 104) from by rw [he6, st_ne _ _ (off_ne (i := 104) (j := 23) (by decide)), he5 _ (off_out (j := 104) (k := 111) (n := 7) (by decide)), he4, st_ne _ _ (off_ne (i := 104) (j := 111) (by decide)), he3, st_ne _ _ (off_ne (i := 104) (j := 23) (by decide))]]; exact p104
  · rw [show S104 (a + 111) = S103 (a + 111) from by rw [he6, st_ne _ _ (off_ne (i := 111) (j := 23) (by decide))]]; exact p111
set_option maxHeartbeats 4000000 in
theorem sg12_7 {fu : Nat} {G : GG} {S : ST} {a : Nat} {P : ST → Prop} (hJ : J12_7 a S) (nx : ∀ S', J12_8 a S' → ∃ z, f_X12_init_g8 fu G S' a = some z ∧ P z) : ∃ z, f_X12_init_g7 fu G S a = some z ∧ P z := by
  obtain ⟨f_C, f_P1, f_R0, f_P6, f_P7, f_R1, f_P9, f_R2, f_P16, f_R3, f_R4, f_R5, f_P25, f_R6, f_C23, f_N23, f_C24, f_N24, f_P29, f_R7, f_P32, f_P33, f_R8, f_A40, f_R9, f_A41, f_R10, f_A42, f_R11, f_P43, f_P51, f_R12, f_P58, f_P66, f_R13, f_P73, f_R14, f_P78, f_R15, f_I16, f_I17, f_I18, f_P83, f_Q23, f_P90, f_P97, f_P104, f_P111⟩ := hJ
  unfold f_X12_init_g7
  obtain ⟨V0, h0⟩ : ∃ y, S a = y := ⟨_, rfl⟩
  rw [h0] at f_C f_R0 f_R1 f_R2 f_R3 f_R4 f_R5 f_R6 f_R7 f_R8 f_R9 f_R10 f_R11 f_R12 f_R13 f_R14 f_R15 f_I16 f_I17 f_I18
  refine ex_ck (decide_eq_true (by rw [h0]; exact f_C)) ?_
  refine ex_bd (x := a + 23) (by rw [h0]; exact f_R4) ?_
  refine ex_nm (fun S110 he1 => ?_)
  have h0 := (st_at he1 (off_ne0 (j := 118) (by decide))).trans h0
  obtain ⟨S111, e1, e2, he2⟩ := i_X3 (fu := fu) (G := G) (S := S110) (a := a + 118) (by rw [he1, st_same]; rfl)
  refine ex_bd e1 ?_
  have h0 : S111 a = V0 := (sub_at (k := 118) (n := 7) (j := 0) he2 (by decide)).trans h0
  have p118 : gC (S111 (a + 118)) = 3 ∧ CHL (S111 (a + 118)) (q00, lk0) := e2
  obtain ⟨W23, h23⟩ : ∃ y, S111 (a + 23) = y := ⟨_, rfl⟩
  have w_C23 := f_C23
  rw [← (show S111 (a + 23) = S (a + 23) from by rw [he2 _ (off_out (j := 23) (k := 118) (n := 7) (by decide)), he1, st_ne _ _ (off_ne (i := 23) (j := 118) (by decide))]), h23] at w_C23
  have w_N23 := f_N23
  rw [← (show S111 (a + 23) = S (a + 23) from by rw [he2 _ (off_out (j := 23) (k := 118) (n := 7) (by decide)), he1, st_ne _ _ (off_ne (i := 23) (j := 118) (by decide))]), h23] at w_N23
  have w_Q23 := f_Q23
  rw [← (show S111 (a + 23) = S (a + 23) from by rw [he2 _ (off_out (j := 23) (k := 118) (n := 7) (by decide)), he1, st_ne _ _ (off_ne (i := 23) (j := 118) (by decide))]), h23] at w_Q23
  refine ex_ck (decide_eq_true (by rw [h23]; exact w_C23)) ?_
  refine ex_ck (decide_eq_true p118.1) ?_
  refine ex_ck (by rw [h23, w_N23]; decide) ?_
  refine ex_nm (fun S112 he3 => ?_)
  have h0 := (st_at he3 (off_ne0 (j := 23) (by decide))).trans h0
  rw [h23, show (5 : Int32).toNatClampNeg = 5 by decide] at he3
  have h23 := (congrFun he3 (a + 23)).trans (st_same _ _ _)
  have w_Q23 := gQ_step (x := a + 118) w_Q23 (by omega)
  have w_C23 : gC (sQ W23 0 5 (some (a + 118))) = 29 := w_C23
  have w_N23 : gN (sQ W23 0 5 (some (a + 118))) 0 = 17 := w_N23
  obtain ⟨W23_3, eW⟩ : ∃ y, sQ W23 0 5 (some (a + 118)) = y := ⟨_, rfl⟩
  rw [eW] at h23 w_Q23 w_C23 w_N23 he3
  clear eW
  refine ex_ck (decide_eq_true (by rw [h0]; exact f_C)) ?_
  refine ex_bd (x := a + 23) (by rw [h0]; exact f_R4) ?_
  refine ex_nm (fun S118 he4 => ?_)
  have h0 := (st_at he4 (off_ne0 (j := 125) (by decide))).trans h0
  have h23 := (st_at he4 (off_ne (i := 23) (j := 125) (by decide))).trans h23
  obtain ⟨S119, e1, e2, he5⟩ := i_X3 (fu := fu) (G := G) (S := S118) (a := a + 125) (by rw [he4, st_same]; rfl)
  refine ex_bd e1 ?_
  have h0 : S119 a = V0 := (sub_at (k := 125) (n := 7) (j := 0) he5 (by decide)).trans h0
  have h23 := (sub_at (k := 125) (n := 7) (j := 23) he5 (by decide)).trans h23
  have p125 : gC (S119 (a + 125)) = 3 ∧ CHL (S119 (a + 125)) (q00, lk0) := e2
  refine ex_ck (decide_eq_true (by rw [h23]; exact w_C23)) ?_
  refine ex_ck (decide_eq_true p125.1) ?_
  refine ex_ck (by rw [h23, w_N23]; decide) ?_
  refine ex_nm (fun S120 he6 => ?_)
  have h0 := (st_at he6 (off_ne0 (j := 23) (by decide))).trans h0
  rw [h23, show (6 : Int32).toNatClampNeg = 6 by decide] at he6
  have h23 := (congrFun he6 (a + 23)).trans (st_same _ _ _)
  have w_Q23 := gQ_step (x := a + 125) w_Q23 (by omega)
  have w_C23 : gC (sQ W23_3 0 6 (some (a + 125))) = 29 := w_C23
  have w_N23 : gN (sQ W23_3 0 6 (some (a + 125))) 0 = 17 := w_N23
  obtain ⟨W23_6, eW⟩ : ∃ y, sQ W23_3 0 6 (some (a + 125)) = y := ⟨_, rfl⟩
  rw [eW] at h23 w_Q23 w_C23 w_N23 he6
  clear eW
  refine nx S120 ⟨?_, ?_, ?_, ?_, ?_, ?_, ?_, ?_, ?_, ?_, ?_, ?_, ?_, ?_, ?_, ?_, ?_, ?_, ?_, ?_, ?_, ?_, ?_, ?_, ?_, ?_, ?_, ?_, ?_, ?_, ?_, ?_, ?_, ?_, ?_, ?_, ?_, ?_, ?_, ?_, ?_, ?_, ?_, ?_, ?_, ?_, ?_, ?_, ?_, ?_⟩
  · rw [h0]; exact f_C
  · rw [show S120 (a + 1) = S (a + 1) from by rw [he6, st_ne _ _ (off_ne (i := 1) (j := 23) (by decide)), he5 _ (off_out (j := 1) (k := 125) (n := 7) (by decide)), he4, st_ne _ _ (off_ne (i := 1) (j := 125) (by decide)), he3, st_ne _ _ (off_ne (i := 1) (j := 23) (by decide)), he2 _ (off_out (j := 1) (k := 118) (n := 7) (by decide)), he1, st_ne _ _ (off_ne (i := 1) (j := 118) (by decide))]]; exact f_P1
  · rw [h0]; exact f_R0
  · rw [show S120 (a + 6) = S (a + 6) from by rw [he6, st_ne _ _ (off_ne (i := 6) (j := 23) (by decide)), he5 _ (off_out (j := 6) (k := 125) (n := 7) (by decide)), he4, st_ne _ _ (off_ne (i := 6) (j := 125) (by decide)), he3, st_ne _ _ (off_ne (i := 6) (j := 23) (by decide)), he2 _ (off_out (j := 6) (k := 118) (n := 7) (by decide)), he1, st_ne _ _ (off_ne (i := 6) (j := 118) (by decide))]]; exact f_P6
  · rw [show S120 (a + 7) = S (a + 7) from by rw [he6, st_ne _ _ (off_ne (i := 7) (j := 23) (by decide)), he5 _ (off_out (j := 7) (k := 125) (n := 7) (by decide)), he4, st_ne _ _ (off_ne (i := 7) (j := 125) (by decide)), he3, st_ne _ _ (off_ne (i := 7) (j := 23) (by decide)), he2 _ (off_out (j := 7) (k := 118) (n := 7) (by decide)), he1, st_ne _ _ (off_ne (i := 7) (j := 118) (by decide))]]; exact f_P7
  · rw [h0]; exact f_R1
  · rw [show S120 (a + 9) = S (a + 9) from by rw [he6, st_ne _ _ (off_ne (i := 9) (j := 23) (by decide)), he5 _ (off_out (j := 9) (k := 125) (n := 7) (by decide)), he4, st_ne _ _ (off_ne (i := 9) (j := 125) (by decide)), he3, st_ne _ _ (off_ne (i := 9) (j := 23) (by decide)), he2 _ (off_out (j := 9) (k := 118) (n := 7) (by decide)), he1, st_ne _ _ (off_ne (i := 9) (j := 118) (by decide))]]; exact f_P9
  · rw [h0]; exact f_R2
  · rw [show S120 (a + 16) = S (a + 16) from by rw [he6, st_ne _ _ (off_ne (i := 16) (j := 23) (by decide)), he5 _ (off_out (j := 16) (k := 125) (n := 7) (by decide)), he4, st_ne _ _ (off_ne (i := 16) (j := 125) (by decide)), he3, st_ne _ _ (off_ne (i := 16) (j := 23) (by decide)), he2 _ (off_out (j := 16) (k := 118) (n := 7) (by decide)), he1, st_ne _ _ (off_ne (i := 16) (j := 118) (by decide))]]; exact f_P16
  · rw [h0]; exact f_R3
  · rw [h0]; exact f_R4
  · rw [h0]; exact f_R5
  · rw [show S120 (a + 25) = S (a + 25) from by rw [he6, st_ne _ _ (off_ne (i := 25) (j := 23) (by decide)), he5 _ (off_out (j := 25) (k := 125) (n := 7) (by decide)), he4, st_ne _ _ (off_ne (i := 25) (j := 125) (by decide)), he3, st_ne _ _ (off_ne (i := 25) (j := 23) (by decide)), he2 _ (off_out (j := 25) (k := 118) (n := 7) (by decide)), he1, st_ne _ _ (off_ne (i := 25) (j := 118) (by decide))]]; exact f_P25
  · rw [h0]; exact f_R6
  · rw [h23]; exact w_C23
  · rw [h23]; exact w_N23
  · rw [show S120 (a + 24) = S (a + 24) from by rw [he6, st_ne _ _ (off_ne (i := 24) (j := 23) (by decide)), he5 _ (off_out (j := 24) (k := 125) (n := 7) (by decide)), he4, st_ne _ _ (off_ne (i := 24) (j := 125) (by decide)), he3, st_ne _ _ (off_ne (i := 24) (j := 23) (by decide)), he2 _ (off_out (j := 24) (k := 118) (n := 7) (by decide)), he1, st_ne _ _ (off_ne (i := 24) (j := 118) (by decide))]]; exact f_C24
  · rw [show S120 (a + 24) = S (a + 24) from by rw [he6, st_ne _ _ (off_ne (i := 24) (j := 23) (by decide)), he5 _ (off_out (j := 24) (k := 125) (n := 7) (by decide)), he4, st_ne _ _ (off_ne (i := 24) (j := 125) (by decide)), he3, st_ne _ _ (off_ne (i := 24) (j := 23) (by decide)), he2 _ (off_out (j := 24) (k := 118) (n := 7) (by decide)), he1, st_ne _ _ (off_ne (i := 24) (j := 118) (by decide))]]; exact f_N24
  · rw [show S120 (a + 29) = S (a + 29) from by rw [he6, st_ne _ _ (off_ne (i := 29) (j := 23) (by decide)), he5 _ (off_out (j := 29) (k := 125) (n := 7) (by decide)), he4, st_ne _ _ (off_ne (i := 29) (j := 125) (by decide)), he3, st_ne _ _ (off_ne (i := 29) (j := 23) (by decide)), he2 _ (off_out (j := 29) (k := 118) (n := 7) (by decide)), he1, st_ne _ _ (off_ne (i := 29) (j := 118) (by decide))]]; exact f_P29
  · rw [h0]; exact f_R7
  · rw [show S120 (a + 32) = S (a + 32) from by rw [he6, st_ne _ _ (off_ne (i := 32) (j := 23) (by decide)), he5 _ (off_out (j := 32) (k := 125) (n := 7) (by decide)), he4, st_ne _ _ (off_ne (i := 32) (j := 125) (by decide)), he3, st_ne _ _ (off_ne (i := 32) (j := 23) (by decide)), he2 _ (off_out (j := 32) (k := 118) (n := 7) (by decide)), he1, st_ne _ _ (off_ne (i := 32) (j := 118) (by decide))]]; exact f_P32
  · rw [show S120 (a + 33) = S (a + 33) from by rw [he6, st_ne _ _ (off_ne (i := 33) (j := 23) (by decide)), he5 _ (off_out (j := 33) (k := 125) (n := 7) (by decide)), he4, st_ne _ _ (off_ne (i := 33) (j := 125) (by decide)), he3, st_ne _ _ (off_ne (i := 33) (j := 23) (by decide)), he2 _ (off_out (j := 33) (k := 118) (n := 7) (by decide)), he1, st_ne _ _ (off_ne (i := 33) (j := 118) (by decide))]]; exact f_P33
  · rw [h0]; exact f_R8
  · rw [show S120 (a + 40) = S (a + 40) from by rw [he6, st_ne _ _ (off_ne (i := 40) (j := 23) (by decide)), he5 _ (off_out (j := 40) (k := 125) (n := 7) (by decide)), he4, st_ne _ _ (off_ne (i := 40) (j := 125) (by decide)), he3, st_ne _ _ (off_ne (i := 40) (j := 23) (by decide)), he2 _ (off_out (j := 40) (k := 118) (n := 7) (by decide)), he1, st_ne _ _ (off_ne (i := 40) (j := 118) (by decide))]]; exact f_A40
  · rw [h0]; exact f_R9
  · rw [show S120 (a + 41) = S (a + 41) from by rw [he6, st_ne _ _ (off_ne (i := 41) (j := 23) (by decide)), he5 _ (off_out (j := 41) (k := 125) (n := 7) (by decide)), he4, st_ne _ _ (off_ne (i := 41) (j := 125) (by decide)), he3, st_ne _ _ (off_ne (i := 41) (j := 23) (by decide)), he2 _ (off_out (j := 41) (k := 118) (n := 7) (by decide)), he1, st_ne _ _ (off_ne (i := 41) (j := 118) (by decide))]]; exact f_A41
  · rw [h0]; exact f_R10
  · rw [show S120 (a + 42) = S (a + 42) from by rw [he6, st_ne _ _ (off_ne (i := 42) (j := 23) (by decide)), he5 _ (off_out (j := 42) (k := 125) (n := 7) (by decide)), he4, st_ne _ _ (off_ne (i := 42) (j := 125) (by decide)), he3, st_ne _ _ (off_ne (i := 42) (j := 23) (by decide)), he2 _ (off_out (j := 42) (k := 118) (n := 7) (by decide)), he1, st_ne _ _ (off_ne (i := 42) (j := 118) (by decide))]]; exact f_A42
  · rw [h0]; exact f_R11
  · rw [show S120 (a + 43) = S (a + 43) from by rw [he6, st_ne _ _ (off_ne (i := 43) (j := 23) (by decide)), he5 _ (off_out (j := 43) (k := 125) (n := 7) (by decide)), he4, st_ne _ _ (off_ne (i := 43) (j := 125) (by decide)), he3, st_ne _ _ (off_ne (i := 43) (j := 23) (by decide)), he2 _ (off_out (j := 43) (k := 118) (n := 7) (by decide)), he1, st_ne _ _ (off_ne (i := 43) (j := 118) (by decide))]]; exact f_P43
  · rw [show S120 (a + 51) = S (a + 51) from by rw [he6, st_ne _ _ (off_ne (i := 51) (j := 23) (by decide)), he5 _ (off_out (j := 51) (k := 125) (n := 7) (by decide)), he4, st_ne _ _ (off_ne (i := 51) (j := 125) (by decide)), he3, st_ne _ _ (off_ne (i := 51) (j := 23) (by decide)), he2 _ (off_out (j := 51) (k := 118) (n := 7) (by decide)), he1, st_ne _ _ (off_ne (i := 51) (j := 118) (by decide))]]; exact f_P51
  · rw [h0]; exact f_R12
  · rw [show S120 (a + 58) = S (a + 58) from by rw [he6, st_ne _ _ (off_ne (i := 58) (j := 23) (by decide)), he5 _ (off_out (j := 58) (k := 125) (n := 7) (by decide)), he4, st_ne _ _ (off_ne (i := 58) (j := 125) (by decide)), he3, st_ne _ _ (off_ne (i := 58) (j := 23) (by decide)), he2 _ (off_out (j := 58) (k := 118) (n := 7) (by decide)), he1, st_ne _ _ (off_ne (i := 58) (j := 118) (by decide))]]; exact f_P58
  · rw [show S120 (a + 66) = S (a + 66) from by rw [he6, st_ne _ _ (off_ne (i := 66) (j := 23) (by decide)), he5 _ (off_out (j := 66) (k := 125) (n := 7) (by decide)), he4, st_ne _ _ (off_ne (i := 66) (j := 125) (by decide)), he3, st_ne _ _ (off_ne (i := 66) (j := 23) (by decide)), he2 _ (off_out (j := 66) (k := 118) (n := 7) (by decide)), he1, st_ne _ _ (off_ne (i := 66) (j := 118) (by decide))]]; exact f_P66
  · rw [h0]; exact f_R13
  · rw [show S120 (a + 73) = S (a + 73) from by rw [he6, st_ne _ _ (off_ne (i := 73) (j := 23) (by decide)), he5 _ (off_out (j := 73) (k := 125) (n := 7) (by decide)), he4, st_ne _ _ (off_ne (i := 73) (j := 125) (by decide)), he3, st_ne _ _ (off_ne (i := 73) (j := 23) (by decide)), he2 _ (off_out (j := 73) (k := 118) (n := 7) (by decide)), he1, st_ne _ _ (off_ne (i := 73) (j := 118) (by decide))]]; exact f_P73
  · rw [h0]; exact f_R14
  · rw [show S120 (a + 78) = S (a + 78) from by rw [he6, st_ne _ _ (off_ne (i := 78) (j := 23) (by decide)), he5 _ (off_out (j := 78) (k := 125) (n := 7) (by decide)), he4, st_ne _ _ (off_ne (i := 78) (j := 125) (by decide)), he3, st_ne _ _ (off_ne (i := 78) (j := 23) (by decide)), he2 _ (off_out (j := 78) (k := 118) (n := 7) (by decide)), he1, st_ne _ _ (off_ne (i := 78) (j := 118) (by decide))]]; exact f_P78
  · rw [h0]; exact f_R15
  · rw [h0]; exact f_I16
  · rw [h0]; exact f_I17
  · rw [h0]; exact f_I18
  · rw [show S120 (a + 83) = S (a + 83) from by rw [he6, st_ne _ _ (off_ne (i := 83) (j := 23) (by decide)), he5 _ (off_out (j := 83) (k := 125) (n := 7) (by decide)), he4, st_ne _ _ (off_ne (i := 83) (j := 125) (by decide)), he3, st_ne _ _ (off_ne (i := 83) (j := 23) (by decide)), he2 _ (off_out (j := 83) (k := 118) (n := 7) (by decide)), he1, st_ne _ _ (off_ne (i := 83) (j := 118) (by decide))]]; exact f_P83
  · rw [h23]; exact w_Q23
  · rw [show S120 (a + 90) = S (a + 90) from by rw [he6, st_ne _ _ (off_ne (i := 90) (j := 23) (by decide)), he5 _ (off_out (j := 90) (k := 125) (n := 7) (by decide)), he4, st_ne _ _ (off_ne (i := 90) (j := 125) (by decide)), he3, st_ne _ _ (off_ne (i := 90) (j := 23) (by decide)), he2 _ (off_out (j := 90) (k := 118) (n := 7) (by decide)), he1, st_ne _ _ (off_ne (i := 90) (j := 118) (by decide))]]; exact f_P90
  · rw [show S120 (a + 97) = S (a + 97) from by rw [he6, st_ne _ _ (off_ne (i := 97) (j := 23) (by decide)), he5 _ (off_out (j := 97) (k := 125) (n := 7) (by decide)), he4, st_ne _ _ (off_ne (i := 97) (j := 125) (by decide)), he3, st_ne _ _ (off_ne (i := 97) (j := 23) (by decide)), he2 _ (off_out (j := 97) (k := 118) (n := 7) (by decide)), he1, st_ne _ _ (off_ne (i := 97) (j := 118) (by decide))]]; exact f_P97
  · rw [show S120 (a + 104) = S (a + 104) from by rw [he6, st_ne _ _ (off_ne (i := 104) (j := 23) (by decide)), he5 _ (off_out (j := 104) (k := 125) (n := 7) (by decide)), he4, st_ne _ _ (off_ne (i := 104) (j := 125) (by decide)), he3, st_ne _ _ (off_ne (i := 104) (j := 23) (by decide)), he2 _ (off_out (j := 104) (k := 118) (n := 7) (by decide)), he1, st_ne _ _ (off_ne (i := 104) (j := 118) (by decide))]]; exact f_P104
  · rw [show S120 (a + 111) = S (a + 111) from by rw [he6, st_ne _ _ (off_ne (i := 111) (j := 23) (by decide)), he5 _ (off_out (j := 111) (k := 125) (n := 7) (by decide)), he4, st_ne _ _ (off_ne (i := 111) (j := 125) (by decide)), he3, st_ne _ _ (off_ne (i := 111) (j := 23) (by decide)), he2 _ (off_out (j := 111) (k := 118) (n := 7) (by decide)), he1, st_ne _ _ (off_ne (i := 111) (j := 118) (by decide))]]; exact f_P111
  · rw [show S120 (a + 118) = S111 (a + 118) from by rw [he6, st_ne _ _ (off_ne (i := 118) (j := 23) (by decide)), he5 _ (off_out (j := 118) (k := 125) (n := 7) (by decide)), he4, st_ne _ _ (off_ne (i := 118) (j := 125) (by decide)), he3, st_ne _ _ (off_ne (i := 118) (j := 23) (by decide))]]; exact p118
  · rw [show S120 (a + 125) = S119 (a + 125) from by rw [he6, st_ne _ _ (off_ne (i := 125) (j := 23) (by decide))]]; exact p125
