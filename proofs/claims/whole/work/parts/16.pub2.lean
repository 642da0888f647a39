/-! debts out of a row, a book -/
theorem c_come_at {σ : am_H} {d c j : Nat} {i : Int} (h : c ≠ 17 ∧ c ≠ 18 ∧ c ≠ 19 ∧ c ≠ 20 ∧ c ≠ 21 ∧ c ≠ 16) : c_come σ d i c j = σ c j := led_add_at h
theorem c_come_n {σ : am_H} {d : Nat} {i : Int} : c_come σ d i 16 5 = σ 16 5 + 1 := led_add_n
def c_dbt (d : Nat) (i : Int) (m : Nat) (σ : am_H) : am_H := am_it (fun (k : Nat) s => c_come s d (i + 4 * (k : Int))) m σ
theorem c_dbt_at {σ : am_H} {d m c j : Nat} {i : Int} (h : c ≠ 17 ∧ c ≠ 18 ∧ c ≠ 19 ∧ c ≠ 20 ∧ c ≠ 21 ∧ c ≠ 16) : c_dbt d i m σ c j = σ c j := by
  unfold c_dbt
  induction m with
  | zero => rfl
  | succ m ih => rw [am_it_succ, c_come_at h]; exact ih
theorem c_dbt_n {σ : am_H} {d m : Nat} {i : Int} : c_dbt d i m σ 16 5 = σ 16 5 + m := by
  unfold c_dbt
  induction m with
  | zero => simp [am_it]
  | succ m ih => rw [am_it_succ, c_come_n, ih]; omega
def c_so (σ : am_H) (d k : Nat) : Prop := ¬ 3 * (k : Int) + 2 ≥ σ (51 + 2 * d) 3 ∧ ((0 ≤ σ (52 + 2 * d) (3 * k) ∧ σ (52 + 2 * d) (3 * k) < σ 1 2) ∧ (0 ≤ σ (52 + 2 * d) (3 * k + 1) ∧ σ (52 + 2 * d) (3 * k + 1) < σ 1 2) ∧ σ (52 + 2 * d) (3 * k) ≠ σ (52 + 2 * d) (3 * k + 1)) ∧ (σ (52 + 2 * d) (3 * k + 2) = -1 ∨ σ (52 + 2 * d) (3 * k + 2) = c_owed σ (σ (52 + 2 * d) (3 * k)) (σ (52 + 2 * d) (3 * k + 1)))
def c_wetf (σ : am_H) (d : Nat) (p q : Int) (k : Nat) : Int := if σ (52 + 2 * d) (3 * k) = p ∧ σ (52 + 2 * d) (3 * k + 1) = q ∧ σ (52 + 2 * d) (3 * k + 2) ≠ -1 then σ (52 + 2 * d) (3 * k + 2) else 0
