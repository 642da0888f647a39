theorem am_cp0_0 (σ : am_H) (a b : Nat) : am_cp σ a b 0 0 0 = σ := by
  funext c k
  unfold am_cp
  rw [if_neg (by omega)]
theorem am_cp0_at {σ : am_H} {a b n k : Nat} (h : a ≠ b) : am_cp σ a b 0 0 n a k = σ a k := by
  unfold am_cp
  rw [if_neg (by omega)]
theorem am_cp0_s {σ : am_H} {a b k : Nat} : am_up (am_cp σ a b 0 0 k) b k (σ a k) = am_cp σ a b 0 0 (k + 1) := by
  funext c j
  unfold am_up am_cp
  by_cases h1 : c = b ∧ j = k
  · rw [if_pos h1, if_pos (by omega), h1.2]
    simp
  · rw [if_neg h1]
    by_cases h2 : c = b ∧ 0 ≤ j ∧ j < 0 + k
    · rw [if_pos h2, if_pos (by omega)]
    · rw [if_neg h2, if_neg (by omega)]
def md_undo (σ : am_H) (k : Nat) : am_H := am_up (am_up σ 63 5 (σ 63 5 - 1)) 64 (σ 65 k).toNat (σ 66 k)
def md_redo (σ : am_H) (k : Nat) : am_H := am_up (am_up σ 64 (σ 65 k).toNat (σ 67 k)) 63 5 (σ 63 5 + 1)
def md_owed (σ : am_H) (p q : Int) : Int := am_sum (fun n : Nat => if σ 68 (5 * n) = p ∧ σ 68 (5 * n + 1) = q then σ 68 (5 * n + 2) else 0) (σ 63 7).toNat
def md_by (σ : am_H) (p : Int) : Int := am_sum (fun n : Nat => if σ 68 (5 * n + 0) = p then σ 68 (5 * n + 2) else 0) (σ 63 7).toNat
def md_to (σ : am_H) (p : Int) : Int := am_sum (fun n : Nat => if σ 68 (5 * n + 1) = p then σ 68 (5 * n + 2) else 0) (σ 63 7).toNat
abbrev md_pair (σ : am_H) (a : Int) : Prop := 0 ≤ a ∧ (0 ≤ a / 10 ∧ a / 10 < σ 63 6) ∧ (0 ≤ a % 10 ∧ a % 10 < σ 63 6) ∧ a / 10 ≠ a % 10
def md_ofP (σ : am_H) (a b : Int) : Int := if b = 10 then σ 64 (12 + a).toNat else if b = 11 then md_by σ a else if b = 12 then md_to σ a else σ 73 a.toNat
def md_of (σ : am_H) (a b : Int) : Int :=
  if 0 ≤ b ∧ b ≤ 4 then (if 0 ≤ a ∧ a < σ 63 7 then σ 68 (5 * a + b).toNat else -2000000000)
  else if 10 ≤ b ∧ b ≤ 13 then (if 0 ≤ a ∧ a < σ 63 6 then md_ofP σ a b else -2000000000)
  else if 40 ≤ b ∧ b ≤ 42 then (if 0 ≤ a ∧ a < σ 63 20 then σ 72 (3 * a + b - 40).toNat else -2000000000)
  else if b = 20 then (if 0 ≤ a ∧ a ≤ 11 then σ 64 a.toNat else -2000000000)
  else if b = 30 then (if md_pair σ a then md_owed σ (a / 10) (a % 10) else -2000000000)
  else if b = 50 ∨ b = 51 then (if a = 0 then σ 64 (20 + b - 50).toNat else -2000000000)
  else -2000000000
def md_ask (σ : am_H) (n : Nat) (d t : Int) : am_H := am_up (am_up (am_up (am_up σ 72 (3 * n) d) 72 (3 * n + 1) t) 72 (3 * n + 2) 0) 63 20 (σ 63 20 + 1)
