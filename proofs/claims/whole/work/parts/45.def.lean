def md_refusal (σ : am_H) (a i : Int) : Int := if ¬ (0 ≤ a ∧ a ≤ 5) then -1 else if σ 86 a.toNat < 0 then -11 else if σ 86 a.toNat < 50 then -12 else if 0 ≤ i ∧ i < σ 87 a.toNat then 0 else -13
def MshV (σ : am_H) : Prop := ∀ d : Nat, d < 6 → (-1 ≤ σ 86 d ∧ σ 86 d ≤ 54) ∧ (0 ≤ σ 87 d ∧ σ 87 d ≤ 60)
def md_above (k : Int) : Int := if k = 3 then 2 else if k = 4 then 1 else if k = 5 then 3 else if k = 7 then 4 else 0
theorem md_less_at {σ : am_H} {k c j : Nat} {b : Int} (h : c ≠ 68 ∨ (j ≠ 5 * k + 2 ∧ j ≠ 5 * k + 4)) : md_less σ k b c j = σ c j := by
  unfold md_less
  rw [am_up_k (by omega), am_up_k (by omega)]
def md_drop (p : Int) (n : Nat) (σ : am_H) : am_H := am_it (fun k s => if s 68 (5 * k) = p then md_less s k (s 68 (5 * k + 2)) else s) n σ
theorem md_drop_at {p : Int} {σ : am_H} {n c j : Nat} (h : c ≠ 68 ∨ 5 * n ≤ j) : md_drop p n σ c j = σ c j := by
  unfold md_drop
  induction n with
  | zero => rfl
  | succ n ih =>
    rw [am_it_succ]
    split
    · rw [md_less_at (by omega)]; exact ih (by omega)
    · exact ih (by omega)
def md_inh1 (p q : Int) (k : Nat) (s : am_H) : am_H := if 0 < s 68 (5 * k + 2) ∧ (s 68 (5 * k) = p ∨ s 68 (5 * k + 1) = p) then (if s 68 (5 * k) = q ∨ s 68 (5 * k + 1) = q then md_less s k (s 68 (5 * k + 2)) else am_up (am_up s 68 (5 * k) (if s 68 (5 * k) = p then q else s 68 (5 * k))) 68 (5 * k + 1) (if s 68 (5 * k + 1) = p then q else s 68 (5 * k + 1))) else s
def md_inh (p q : Int) (n : Nat) (σ : am_H) : am_H := am_it (md_inh1 p q) n σ
def md_moved (σ : am_H) (p q : Int) (k : Nat) : Int := if (0 < σ 68 (5 * k + 2) ∧ (σ 68 (5 * k) = p ∨ σ 68 (5 * k + 1) = p)) ∧ ¬ (σ 68 (5 * k) = q ∨ σ 68 (5 * k + 1) = q) then 1 else 0
theorem md_inh1_at {p q : Int} {s : am_H} {k c j : Nat} (h : c ≠ 68 ∨ j < 5 * k ∨ 5 * k + 5 ≤ j) : md_inh1 p q k s c j = s c j := by
  unfold md_inh1
  (repeat' split) <;> first | exact md_less_at (by omega) | rfl | rw [am_up_k (by omega), am_up_k (by omega)]
theorem md_inh_at {p q : Int} {σ : am_H} {n c j : Nat} (h : c ≠ 68 ∨ 5 * n ≤ j) : md_inh p q n σ c j = σ c j := by
  unfold md_inh
  induction n with
  | zero => rfl
  | succ n ih => rw [am_it_succ, md_inh1_at (by omega)]; exact ih (by omega)
def md_zero (σ : am_H) (a n : Nat) : am_H := fun c k => if c = 88 ∧ a ≤ k ∧ k < a + n then 0 else σ c k
theorem md_zero_0 (σ : am_H) (a : Nat) : md_zero σ a 0 = σ := by
  funext c k
  unfold md_zero
  rw [if_neg (by omega)]
theorem md_zero_s (σ : am_H) (a n : Nat) : am_up (md_zero σ a n) 88 (a + n) 0 = md_zero σ a (n + 1) := by
  funext c k
  unfold am_up md_zero
  by_cases h1 : c = 88 ∧ k = a + n
  · rw [if_pos h1, if_pos (by omega)]
  · rw [if_neg h1]
    by_cases h2 : c = 88 ∧ a ≤ k ∧ k < a + n
    · rw [if_pos h2, if_pos (by omega)]
    · rw [if_neg h2, if_neg (by omega)]
