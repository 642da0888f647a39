/-! debts out of a row, the reference's -/
def md_come (σ : am_H) (i : Nat) : am_H := md_adds σ (σ 63 7).toNat (σ 88 i) (σ 88 (i + 1)) (σ 88 (i + 2)) (σ 88 (i + 3))
def md_dbt (i : Nat) : Nat → am_H → am_H
  | 0, σ => σ
  | k + 1, σ => md_come (md_dbt i k σ) (i + 4 * k)
theorem md_adds_at {σ : am_H} {n c j : Nat} {p q d k : Int} (h : c ≠ 68) (h2 : c ≠ 63 ∨ j ≠ 7) : md_adds σ n p q d k c j = σ c j := by
  unfold md_adds
  rw [am_up_k (by omega), am_up_k (by omega), am_up_k (by omega), am_up_k (by omega), am_up_k (by omega), am_up_k (by omega)]
theorem md_dbt_at {σ : am_H} {i k c j : Nat} (h : c ≠ 68) (h2 : c ≠ 63 ∨ j ≠ 7) : md_dbt i k σ c j = σ c j := by
  induction k with
  | zero => rfl
  | succ k ih => show md_come (md_dbt i k σ) (i + 4 * k) c j = _; unfold md_come; rw [md_adds_at h h2, ih]
theorem md_dbt_n {σ : am_H} {i k : Nat} : md_dbt i k σ 63 7 = σ 63 7 + k := by
  induction k with
  | zero => show σ 63 7 = _; omega
  | succ k ih =>
    show md_come (md_dbt i k σ) (i + 4 * k) 63 7 = _
    unfold md_come md_adds
    rw [am_up_eq, ih]
    omega
/-- the debt at the place j of the row of shelf a comes, at the table σ -/
def md_comes (σ : am_H) (a : Nat) (j : Int) : Prop := σ 86 a = 50 ∧ 0 ≤ j ∧ j + 3 < σ 87 a ∧ σ 63 7 < 20 ∧ (0 ≤ σ 88 (60 * a + j.toNat) ∧ σ 88 (60 * a + j.toNat) < σ 63 6) ∧ (0 ≤ σ 88 (60 * a + j.toNat + 1) ∧ σ 88 (60 * a + j.toNat + 1) < σ 63 6) ∧ σ 88 (60 * a + j.toNat) ≠ σ 88 (60 * a + j.toNat + 1) ∧ (1 ≤ σ 88 (60 * a + j.toNat + 2) ∧ σ 88 (60 * a + j.toNat + 2) ≤ 9) ∧ 0 ≤ σ 88 (60 * a + j.toNat + 3) ∧ σ 88 (60 * a + j.toNat + 3) ≤ 12
theorem md_dbt_s {σ : am_H} {b k : Nat} : md_adds (md_dbt b k σ) (md_dbt b k σ 63 7).toNat (σ 88 (b + 4 * k)) (σ 88 (b + 4 * k + 1)) (σ 88 (b + 4 * k + 2)) (σ 88 (b + 4 * k + 3)) = md_dbt b (k + 1) σ := by
  show _ = md_come (md_dbt b k σ) (b + 4 * k)
  unfold md_come
  rw [md_dbt_at (c := 88) (by decide) (by omega), md_dbt_at (c := 88) (by decide) (by omega), md_dbt_at (c := 88) (by decide) (by omega), md_dbt_at (c := 88) (by decide) (by omega)]
theorem md_comes_k {σ : am_H} {a k : Nat} {i : Int} (hi : 0 ≤ i) : md_comes (md_dbt (60 * a + i.toNat) k σ) a (i + 4 * (k : Int)) ↔ (σ 86 a = 50 ∧ 0 ≤ i + 4 * (k : Int) ∧ i + 4 * (k : Int) + 3 < σ 87 a ∧ σ 63 7 + (k : Int) < 20 ∧ (0 ≤ σ 88 (60 * a + i.toNat + 4 * k) ∧ σ 88 (60 * a + i.toNat + 4 * k) < σ 63 6) ∧ (0 ≤ σ 88 (60 * a + i.toNat + 4 * k + 1) ∧ σ 88 (60 * a + i.toNat + 4 * k + 1) < σ 63 6) ∧ σ 88 (60 * a + i.toNat + 4 * k) ≠ σ 88 (60 * a + i.toNat + 4 * k + 1) ∧ (1 ≤ σ 88 (60 * a + i.toNat + 4 * k + 2) ∧ σ 88 (60 * a + i.toNat + 4 * k + 2) ≤ 9) ∧ 0 ≤ σ 88 (60 * a + i.toNat + 4 * k + 3) ∧ σ 88 (60 * a + i.toNat + 4 * k + 3) ≤ 12) := by
  unfold md_comes
  rw [show 60 * a + (i + 4 * (k : Int)).toNat = 60 * a + i.toNat + 4 * k by omega, md_dbt_n, md_dbt_at (c := 86) (by decide) (by omega), md_dbt_at (c := 87) (by decide) (by omega), md_dbt_at (c := 88) (by decide) (by omega), md_dbt_at (c := 88) (by decide) (by omega), md_dbt_at (c := 88) (by decide) (by omega), md_dbt_at (c := 88) (by decide) (by omega), md_dbt_at (c := 63) (j := 6) (by decide) (by omega)]
