/-! what the reference's methods make of the table -/
def md_less (σ : am_H) (k : Nat) (b : Int) : am_H := am_up (am_up σ 68 (5 * k + 2) (σ 68 (5 * k + 2) - b)) 68 (5 * k + 4) (if σ 68 (5 * k + 2) - b = 0 then 0 else σ 68 (5 * k + 4))
def md_person (σ : am_H) (v : Int) : am_H := am_up (am_up σ 64 (12 + σ 63 6).toNat v) 63 6 (σ 63 6 + 1)
def md_adds (σ : am_H) (n : Nat) (p q d k : Int) : am_H := am_up (am_up (am_up (am_up (am_up (am_up σ 68 (5 * n) p) 68 (5 * n + 1) q) 68 (5 * n + 2) d) 68 (5 * n + 3) k) 68 (5 * n + 4) 0) 63 7 (σ 63 7 + 1)
def md_sh1 (σ : am_H) (k : Nat) : am_H := am_up (am_up (am_up σ 65 (k - 1) (σ 65 k)) 66 (k - 1) (σ 66 k)) 67 (k - 1) (σ 67 k)
def md_shift (σ : am_H) (n : Nat) : am_H := fun c k => if (c = 65 ∨ c = 66 ∨ c = 67) ∧ k + 1 < n then σ c (k + 1) else σ c k
def md_push (s : am_H) (w : Nat) (b a : Int) : am_H := am_up (am_up (am_up (am_up (am_up (am_up s 65 (s 63 5).toNat w) 66 (s 63 5).toNat b) 67 (s 63 5).toNat a) 63 5 (s 63 5 + 1)) 63 4 (s 63 5 + 1)) 64 w a
def md_becomes (σ : am_H) (w : Nat) (v : Int) : am_H := if σ 64 w = v then σ else md_push (if σ 63 5 = 40 then am_up (md_shift σ 40) 63 5 39 else σ) w (σ 64 w) v
theorem md_shift_1 (σ : am_H) : md_shift σ 1 = σ := by
  funext c k
  unfold md_shift
  rw [if_neg (by omega)]
theorem md_shift_s (σ : am_H) (k : Nat) (h : 1 ≤ k) : am_up (am_up (am_up (md_shift σ k) 65 (k - 1) (σ 65 k)) 66 (k - 1) (σ 66 k)) 67 (k - 1) (σ 67 k) = md_shift σ (k + 1) := by
  funext c j
  unfold am_up md_shift
  by_cases h1 : c = 67 ∧ j = k - 1
  · rw [if_pos h1, if_pos (by omega), h1.1, show j + 1 = k by omega]
  · rw [if_neg h1]
    by_cases h2 : c = 66 ∧ j = k - 1
    · rw [if_pos h2, if_pos (by omega), h2.1, show j + 1 = k by omega]
    · rw [if_neg h2]
      by_cases h3 : c = 65 ∧ j = k - 1
      · rw [if_pos h3, if_pos (by omega), h3.1, show j + 1 = k by omega]
      · rw [if_neg h3]
        by_cases h4 : (c = 65 ∨ c = 66 ∨ c = 67) ∧ j + 1 < k
        · rw [if_pos h4, if_pos (by omega)]
        · rw [if_neg h4, if_neg (by omega)]
theorem md_shift_at {σ : am_H} {k c j : Nat} (h : (c ≠ 65 ∧ c ≠ 66 ∧ c ≠ 67) ∨ k ≤ j + 1) : md_shift σ k c j = σ c j := by
  unfold md_shift
  rw [if_neg (by omega)]
def md_ofPers (σ : am_H) (k : Nat) (b : Int) : Int := if b = 10 then σ 64 (12 + k) else if b = 11 then am_sum (fun n : Nat => if σ 68 (5 * n + 0) = (k : Int) then σ 68 (5 * n + 2) else 0) (σ 63 7).toNat else if b = 12 then am_sum (fun n : Nat => if σ 68 (5 * n + 1) = (k : Int) then σ 68 (5 * n + 2) else 0) (σ 63 7).toNat else σ 73 k
