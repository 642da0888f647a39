/-- kind a is b or under it -/
def bd_un (a b : Int) : Prop := (a = 0 ∧ b = 0) ∨ (a = 1 ∧ (b = 1 ∨ b = 0)) ∨ (a = 2 ∧ (b = 2 ∨ b = 0)) ∨ (a = 3 ∧ (b = 3 ∨ b = 2 ∨ b = 0)) ∨ (a = 4 ∧ (b = 4 ∨ b = 1 ∨ b = 0)) ∨ (a = 5 ∧ (b = 5 ∨ b = 3 ∨ b = 2 ∨ b = 0)) ∨ (a = 6 ∧ (b = 6 ∨ b = 0)) ∨ (a = 7 ∧ (b = 7 ∨ b = 4 ∨ b = 1 ∨ b = 0))
theorem bd_un_eq {a b : Int} (h : 0 ≤ a ∧ a ≤ 7) (e : a = b) : bd_un a b := by
  subst e; unfold bd_un; omega
theorem bd_un_no {a b : Int} (h : a = 0) (e : a ≠ b) : ¬ bd_un a b := by
  subst h; unfold bd_un; omega
theorem bd_un_st {a b : Int} (h : 0 < a ∧ a ≤ 7) (e : a ≠ b) : bd_un a b ↔ bd_un (md_above a) b := by
  rcases (show a = 1 ∨ a = 2 ∨ a = 3 ∨ a = 4 ∨ a = 5 ∨ a = 6 ∨ a = 7 by omega) with rfl | rfl | rfl | rfl | rfl | rfl | rfl <;> (unfold bd_un md_above; simp; omega)
theorem md_above_bd {a : Int} (h : 0 < a ∧ a ≤ 7) : 0 ≤ md_above a ∧ md_above a < a := by
  unfold md_above; (repeat' split) <;> omega
def md_c1 (σ : am_H) (a n : Nat) : am_H := fun c k => if c = 89 ∧ k < n then σ 88 (a + k) else σ c k
def md_c2 (σ : am_H) (b n : Nat) : am_H := fun c k => if c = 88 ∧ b ≤ k ∧ k < b + n then σ 89 (k - b) else σ c k
theorem md_c1_0 (σ : am_H) (a : Nat) : md_c1 σ a 0 = σ := by
  funext c k; unfold md_c1; rw [if_neg (by omega)]
theorem md_c2_0 (σ : am_H) (a : Nat) : md_c2 σ a 0 = σ := by
  funext c k; unfold md_c2; rw [if_neg (by omega)]
theorem md_c1_at {σ : am_H} {a n c k : Nat} (h : c ≠ 89) : md_c1 σ a n c k = σ c k := by
  unfold md_c1; rw [if_neg (by omega)]
theorem md_c2_at {σ : am_H} {a n c k : Nat} (h : c ≠ 88) : md_c2 σ a n c k = σ c k := by
  unfold md_c2; rw [if_neg (by omega)]
theorem md_c1_s {σ : am_H} {a n : Nat} : am_up (md_c1 σ a n) 89 n (σ 88 (a + n)) = md_c1 σ a (n + 1) := by
  funext c k
  unfold am_up md_c1
  by_cases h1 : c = 89 ∧ k = n
  · rw [if_pos h1, if_pos (by omega), h1.2]
  · rw [if_neg h1]
    by_cases h2 : c = 89 ∧ k < n
    · rw [if_pos h2, if_pos (by omega)]
    · rw [if_neg h2, if_neg (by omega)]
theorem md_c2_s {σ : am_H} {b n : Nat} : am_up (md_c2 σ b n) 88 (b + n) (σ 89 n) = md_c2 σ b (n + 1) := by
  funext c k
  unfold am_up md_c2
  by_cases h1 : c = 88 ∧ k = b + n
  · rw [if_pos h1, if_pos (by omega), h1.2, show b + n - b = n by omega]
  · rw [if_neg h1]
    by_cases h2 : c = 88 ∧ b ≤ k ∧ k < b + n
    · rw [if_pos h2, if_pos (by omega)]
    · rw [if_neg h2, if_neg (by omega)]
