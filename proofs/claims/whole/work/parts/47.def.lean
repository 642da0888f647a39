def MitV (σ : am_H) : Prop := ∀ d j : Nat, d < 6 → (j : Int) < σ 87 d → σ 86 d = 50 ∨ σ 86 d = 51 → -32768 ≤ σ 88 (60 * d + j) ∧ σ 88 (60 * d + j) ≤ 32767
def md_book (σ : am_H) (a : Int) : Int := if ¬ (0 ≤ a ∧ a ≤ 5) then -1 else if σ 86 a.toNat < 0 then -11 else if σ 86 a.toNat = 51 then 1 else -12
def md_isSo (σ : am_H) (p q d : Int) : Prop := ((0 ≤ p ∧ p < σ 63 6) ∧ (0 ≤ q ∧ q < σ 63 6) ∧ p ≠ q) ∧ (d = -1 ∨ d = md_owed σ p q)
def md_so (σ : am_H) (d k : Nat) : Prop := ¬ 3 * (k : Int) + 2 ≥ σ 87 d ∧ md_isSo σ (σ 88 (60 * d + 3 * k)) (σ 88 (60 * d + 3 * k + 1)) (σ 88 (60 * d + 3 * k + 2))
def md_wetf (σ : am_H) (d : Nat) (p q : Int) (k : Nat) : Int := if σ 88 (60 * d + 3 * k) = p ∧ σ 88 (60 * d + 3 * k + 1) = q ∧ σ 88 (60 * d + 3 * k + 2) ≠ -1 then σ 88 (60 * d + 3 * k + 2) else 0
def md_img (σ : am_H) : am_H := am_cp (am_cp (am_cp (am_cp (am_cp (am_up (am_up (am_up (am_up σ 63 30 1) 63 31 (σ 63 7)) 63 32 (σ 63 20)) 63 33 (σ 63 9)) 68 79 0 0 100) 72 80 0 0 90) 73 81 0 0 8) 74 82 0 0 384) 75 83 0 0 384
def md_bck (σ : am_H) : am_H := am_cp (am_cp (am_cp (am_cp (am_cp (am_up (am_up (am_up σ 63 7 (σ 63 31)) 63 20 (σ 63 32)) 63 9 (σ 63 33)) 79 68 0 0 100) 80 72 0 0 90) 81 73 0 0 8) 82 74 0 0 384) 83 75 0 0 384
def md_row (σ : am_H) (d : Nat) (s n : Int) : am_H := md_zero (am_up (am_up σ 86 d (50 + s)) 87 d n) (60 * d) 60
