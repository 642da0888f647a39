/-! what the ledger's methods make of the table -/
def set_tell (σ : am_H) (k : Nat) (b v : Int) : am_H := if b = 0 then am_up σ 2 k v else if b = 1 then am_up σ 3 k v else if b = 2 then am_up σ 1 3 v else am_up σ 1 4 v
def set_told (σ : am_H) (k : Nat) (b : Int) : Int := if b = 0 then σ 2 k else if b = 1 then σ 3 k else if b = 2 then σ 1 3 else σ 1 4
def set_add (σ : am_H) (v : Int) : am_H := am_up (am_up σ 3 (σ 1 2).toNat v) 1 2 (σ 1 2 + 1)
def chg_forget (σ : am_H) : am_H := am_up (am_cp (am_cp (am_cp (am_cp σ 5 5 1 0 39) 6 6 1 0 39) 7 7 1 0 39) 8 8 1 0 39) 4 4 39
def chg_push (s : am_H) (n w b a : Int) : am_H := am_up (am_up (am_up (am_up (am_up (am_up s 5 (s 4 4).toNat n) 6 (s 4 4).toNat w) 7 (s 4 4).toNat b) 8 (s 4 4).toNat a) 4 4 (s 4 4 + 1)) 4 5 0
def chg_note (σ : am_H) (n w b a : Int) : am_H := chg_push (if σ 4 4 < 40 then σ else chg_forget σ) n w b a
def chg_back (σ : am_H) (k : Nat) : am_H := set_tell (am_up (am_up σ 4 4 (σ 4 4 - 1)) 4 5 (σ 4 5 + 1)) (σ 5 k).toNat (σ 6 k) (σ 7 k)
def chg_again (σ : am_H) (k : Nat) : am_H := am_up (am_up (set_tell σ (σ 5 k).toNat (σ 6 k) (σ 8 k)) 4 4 (σ 4 4 + 1)) 4 5 (σ 4 5 - 1)
theorem set_tell_at {σ : am_H} {k c j : Nat} {b v : Int} (h : c ≠ 1 ∧ c ≠ 2 ∧ c ≠ 3) : set_tell σ k b v c j = σ c j := by
  unfold set_tell
  (repeat' split) <;> exact am_up_k (by omega)
def bd_add (σ : am_H) (v : Int) : am_H := am_up (am_up σ 47 (σ 46 2).toNat v) 46 2 (σ 46 2 + 1)
def bd_note (σ : am_H) (n : Int) : am_H := am_up (if σ 46 3 < 24 then am_up σ 48 (σ 46 3).toNat n else σ) 46 3 (σ 46 3 + 1)
def led_add (σ : am_H) (p q d k : Int) : am_H := am_up (am_up (am_up (am_up (am_up (am_up σ 17 (σ 16 5).toNat p) 18 (σ 16 5).toNat q) 19 (σ 16 5).toNat d) 20 (σ 16 5).toNat k) 21 (σ 16 5).toNat 0) 16 5 (σ 16 5 + 1)
def led_less (σ : am_H) (k : Nat) (b : Int) : am_H := if σ 19 k - b = 0 then am_up (am_up σ 19 k (σ 19 k - b)) 21 k 0 else am_up σ 19 k (σ 19 k - b)
def led_work (σ : am_H) (k : Nat) (w : Int) : am_H := if w ≠ 0 then led_less σ k 1 else if σ 21 k = 0 then am_up σ 21 k 1 else led_less (am_up σ 21 k 0) k 1
theorem led_less_at {σ : am_H} {k c j : Nat} {b : Int} (h : (c ≠ 19 ∧ c ≠ 21) ∨ j ≠ k) : led_less σ k b c j = σ c j := by
  unfold led_less
  split
  · rw [am_up_k (by omega), am_up_k (by omega)]
  · rw [am_up_k (by omega)]
theorem led_less_d {σ : am_H} {k : Nat} {b : Int} : led_less σ k b 19 k = σ 19 k - b := by
  unfold led_less
  split
  · rw [am_up_k (by omega), am_up_eq]
  · rw [am_up_eq]
/-- bit k of a set -/
def am_bit (bits : Int) (k : Nat) : Int := am_and (am_shr bits (k : Int)) 1
def led_least (σ : am_H) (bits : Int) (n : Nat) : Int := am_it (fun k s => if am_bit bits k ≠ 0 ∧ (s = 0 ∨ σ 19 k < s) then σ 19 k else s) n 0
def led_strike (bits b : Int) (n : Nat) (σ : am_H) : am_H := am_it (fun k s => if am_bit bits k ≠ 0 then led_less s k b else s) n σ
def led_drop (p : Int) (n : Nat) (σ : am_H) : am_H := am_it (fun k s => if s 17 k = p then led_less s k (s 19 k) else s) n σ
def led_inh1 (p q : Int) (k : Nat) (s : am_H) : am_H := if 0 < s 19 k ∧ (s 17 k = p ∨ s 18 k = p) then (if (if s 17 k = p then s 18 k else s 17 k) = q then led_less s k (s 19 k) else am_up (am_up s 17 k (if s 17 k = p then q else s 17 k)) 18 k (if s 18 k = p then q else s 18 k)) else s
def led_inh (p q : Int) (n : Nat) (σ : am_H) : am_H := am_it (led_inh1 p q) n σ
def led_moved (σ : am_H) (p q : Int) (k : Nat) : Int := if (0 < σ 19 k ∧ (σ 17 k = p ∨ σ 18 k = p)) ∧ ¬ (if σ 17 k = p then σ 18 k else σ 17 k) = q then 1 else 0
theorem led_least_bd {σ : am_H} {bits : Int} {n : Nat} (hd : ∀ k : Nat, k < n → 0 ≤ σ 19 k ∧ σ 19 k ≤ 9) : 0 ≤ led_least σ bits n ∧ led_least σ bits n ≤ 9 := by
  unfold led_least
  refine am_it_inv (fun _ s => 0 ≤ s ∧ s ≤ 9) n (by decide) (fun k t hk ht => ?_)
  have := hd k hk
  split <;> omega
theorem led_strike_at {bits b : Int} {σ : am_H} {n c j : Nat} (h : (c ≠ 19 ∧ c ≠ 21) ∨ n ≤ j) : led_strike bits b n σ c j = σ c j := by
  unfold led_strike
  induction n with
  | zero => rfl
  | succ n ih =>
    rw [am_it_succ]
    split
    · rw [led_less_at (by omega)]; exact ih (by omega)
    · exact ih (by omega)
theorem led_drop_at {p : Int} {σ : am_H} {n c j : Nat} (h : (c ≠ 19 ∧ c ≠ 21) ∨ n ≤ j) : led_drop p n σ c j = σ c j := by
  unfold led_drop
  induction n with
  | zero => rfl
  | succ n ih =>
    rw [am_it_succ]
    split
    · rw [led_less_at (by omega)]; exact ih (by omega)
    · exact ih (by omega)
theorem led_inh1_at {p q : Int} {s : am_H} {k c j : Nat} (h : (c ≠ 17 ∧ c ≠ 18 ∧ c ≠ 19 ∧ c ≠ 21) ∨ j ≠ k) : led_inh1 p q k s c j = s c j := by
  unfold led_inh1
  split
  · generalize (if s 17 k = p then s 18 k else s 17 k) = z
    by_cases e : z = q
    · rw [if_pos e, led_less_at (by omega)]
    · rw [if_neg e, am_up_k (by omega), am_up_k (by omega)]
  · rfl
theorem led_inh_at {p q : Int} {σ : am_H} {n c j : Nat} (h : (c ≠ 17 ∧ c ≠ 18 ∧ c ≠ 19 ∧ c ≠ 21) ∨ n ≤ j) : led_inh p q n σ c j = σ c j := by
  unfold led_inh
  induction n with
  | zero => rfl
  | succ n ih =>
    rw [am_it_succ, led_inh1_at (by omega)]; exact ih (by omega)
/-- cells copied whole -/
def am_cc (σ : am_H) (a b : Nat) : am_H := am_cp σ a b 0 0 0
