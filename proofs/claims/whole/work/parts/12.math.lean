/-! sums and iterations -/
def am_sum (f : Nat → Int) : Nat → Int
  | 0 => 0
  | n + 1 => am_sum f n + f n
theorem am_sum_congr {f g : Nat → Int} : ∀ n : Nat, (∀ k, k < n → f k = g k) → am_sum f n = am_sum g n
  | 0, _ => rfl
  | n + 1, h => by
    show am_sum f n + f n = am_sum g n + g n
    rw [am_sum_congr n (fun k hk => h k (by omega)), h n (by omega)]
theorem am_sum_bd {f : Nat → Int} {m : Int} : ∀ n : Nat, (∀ k, k < n → 0 ≤ f k ∧ f k ≤ m) → 0 ≤ am_sum f n ∧ am_sum f n ≤ m * n
  | 0, _ => ⟨Int.le_refl _, by simp [am_sum]⟩
  | n + 1, h => by
    have h1 := am_sum_bd n (fun k hk => h k (by omega))
    have h2 := h n (by omega)
    show 0 ≤ am_sum f n + f n ∧ am_sum f n + f n ≤ m * ((n + 1 : Nat) : Int)
    rw [Int.natCast_succ, Int.mul_add, Int.mul_one]
    omega
theorem am_sum_9 {f : Nat → Int} {n : Nat} (h : ∀ k, k < n → 0 ≤ f k ∧ f k ≤ 9) : 0 ≤ am_sum f n ∧ am_sum f n ≤ 9 * n := am_sum_bd n h
theorem am_sum_1 {f : Nat → Int} {n : Nat} (h : ∀ k, k < n → 0 ≤ f k ∧ f k ≤ 1) : 0 ≤ am_sum f n ∧ am_sum f n ≤ n := by
  have := am_sum_bd n h
  omega
/-- an iteration: step k on what k steps made -/
def am_it {α : Type} (f : Nat → α → α) : Nat → α → α
  | 0, s => s
  | n + 1, s => f n (am_it f n s)
theorem am_it_succ {α : Type} (f : Nat → α → α) (n : Nat) (s : α) : am_it f (n + 1) s = f n (am_it f n s) := rfl
theorem am_it_inv {α : Type} {f : Nat → α → α} (P : Nat → α → Prop) {s : α} : ∀ n : Nat, P 0 s → (∀ k t, k < n → P k t → P (k + 1) (f k t)) → P n (am_it f n s)
  | 0, h, _ => h
  | n + 1, h, hs => hs n _ (by omega) (am_it_inv P n h (fun k t hk hp => hs k t (by omega) hp))
theorem am_up_eq {σ : am_H} {c k : Nat} {v : Int} : am_up σ c k v c k = v := by simp [am_up]
theorem am_up_k {σ : am_H} {c k c' k' : Nat} {v : Int} (h : c' ≠ c ∨ k' ≠ k) : am_up σ c k v c' k' = σ c' k' := by
  unfold am_up
  rw [if_neg (by omega)]
theorem am_sum_rg {f : Nat → Int} {m : Int} : ∀ n : Nat, (∀ k, k < n → -m ≤ f k ∧ f k ≤ m) → -(m * n) ≤ am_sum f n ∧ am_sum f n ≤ m * n
  | 0, _ => by simp [am_sum]
  | n + 1, h => by
    have h1 := am_sum_rg n (fun k hk => h k (by omega))
    have h2 := h n (by omega)
    show -(m * ((n + 1 : Nat) : Int)) ≤ am_sum f n + f n ∧ am_sum f n + f n ≤ m * ((n + 1 : Nat) : Int)
    rw [Int.natCast_succ, Int.mul_add, Int.mul_one]
    omega
