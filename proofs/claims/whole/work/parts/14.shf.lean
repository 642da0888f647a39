/-! shelves and the diary: what their methods make of the table -/
theorem sh_sf {d : Nat} (h : d < 6) : SH[51 + 2 * d]? = some (16, 4, [some (52 + 2 * d), none, none, none]) := by
  rcases (show d = 0 ∨ d = 1 ∨ d = 2 ∨ d = 3 ∨ d = 4 ∨ d = 5 by omega) with rfl | rfl | rfl | rfl | rfl | rfl <;> rfl
theorem sh_el {d : Nat} (h : d < 6) : SH[52 + 2 * d]? = some (1, 60, []) := by
  rcases (show d = 0 ∨ d = 1 ∨ d = 2 ∨ d = 3 ∨ d = 4 ∨ d = 5 by omega) with rfl | rfl | rfl | rfl | rfl | rfl <;> rfl
def sf_day (σ : am_H) (c : Nat) (b : Int) : am_H := am_up (am_up (am_up σ c 1 b) c 2 (-1)) c 3 0
def sf_zero (σ : am_H) (e n : Nat) : am_H := fun c k => if c = e ∧ k < n then 0 else σ c k
theorem sf_zero_0 (σ : am_H) (e : Nat) : sf_zero σ e 0 = σ := by
  funext c k
  simp [sf_zero]
theorem sf_zero_s (σ : am_H) (e n : Nat) : am_up (sf_zero σ e n) e n 0 = sf_zero σ e (n + 1) := by
  funext c k
  unfold am_up sf_zero
  by_cases h1 : c = e ∧ k = n
  · rw [if_pos h1, if_pos (by omega)]
  · rw [if_neg h1]
    by_cases h2 : c = e ∧ k < n
    · rw [if_pos h2, if_pos (by omega)]
    · rw [if_neg h2, if_neg (by omega)]
def sf_row (σ : am_H) (c e : Nat) (s n : Int) : am_H := sf_zero (am_up (am_up (am_up σ c 1 (-1)) c 2 s) c 3 n) e n.toNat
def sf_as (s v : Int) : Int := if s = 0 then am_i2b (w32 v) else if s = 1 then am_i2s (w32 v) else if s = 2 then w32 v else if s = 4 then (if v ≠ 0 then 1 else 0) else v
def dia_add (σ : am_H) (n : Nat) (d t : Int) : am_H := am_up (am_up (am_up (am_up σ 23 n d) 24 n t) 25 n 0) 22 6 (σ 22 6 + 1)
def dia_lead (σ : am_H) (at_ q : Nat) (whom debt w : Int) : am_H := am_up (am_up (am_up σ 26 at_ whom) 27 at_ debt) 28 q (w32 (σ 28 q + w))
def dia_endL (n : Nat) (σ : am_H) : am_H := fun c k => if c = 25 ∧ k < n ∧ σ 24 k = σ 22 7 then 1 else σ c k
theorem dia_endL_0 (σ : am_H) : dia_endL 0 σ = σ := by
  funext c k
  simp [dia_endL]
theorem dia_endL_s1 {σ : am_H} {n : Nat} (h : σ 24 n = σ 22 7) : am_up (dia_endL n σ) 25 n 1 = dia_endL (n + 1) σ := by
  funext c k
  unfold am_up dia_endL
  by_cases h1 : c = 25 ∧ k = n
  · rw [if_pos h1, if_pos ⟨h1.1, by omega, by rw [h1.2]; exact h⟩]
  · rw [if_neg h1]
    by_cases h2 : c = 25 ∧ k < n ∧ σ 24 k = σ 22 7
    · rw [if_pos h2, if_pos (by omega)]
    · rw [if_neg h2, if_neg (by omega)]
theorem dia_endL_s0 {σ : am_H} {n : Nat} (h : ¬ σ 24 n = σ 22 7) : dia_endL n σ = dia_endL (n + 1) σ := by
  funext c k
  unfold dia_endL
  by_cases h2 : c = 25 ∧ k < n ∧ σ 24 k = σ 22 7
  · rw [if_pos h2, if_pos (by omega)]
  · rw [if_neg h2, if_neg]
    intro q
    by_cases e : k = n
    · subst e; exact h q.2.2
    · omega
theorem dia_endL_at {σ : am_H} {n c k : Nat} (h : c ≠ 25) : dia_endL n σ c k = σ c k := by
  unfold dia_endL
  rw [if_neg (by omega)]
def dia_end (σ : am_H) : am_H := am_up (dia_endL (σ 22 6).toNat σ) 22 7 (σ 22 7 + 1)
def led_copy (σ : am_H) (a b : Nat) : am_H := am_up (am_cp (am_cp (am_cp (am_cp (am_cp σ (a + 1) (b + 1) 0 0 20) (a + 2) (b + 2) 0 0 20) (a + 3) (b + 3) 0 0 20) (a + 4) (b + 4) 0 0 20) (a + 5) (b + 5) 0 0 20) b 5 (σ a 5)
def dia_copy (σ : am_H) (a b : Nat) : am_H := am_up (am_up (am_cp (am_cp (am_cp (am_cp (am_cp (am_cp σ (a + 1) (b + 1) 0 0 30) (a + 2) (b + 2) 0 0 30) (a + 3) (b + 3) 0 0 30) (a + 4) (b + 4) 0 0 384) (a + 5) (b + 5) 0 0 384) (a + 6) (b + 6) 0 0 8) b 6 (σ a 6)) b 7 (σ a 7)
