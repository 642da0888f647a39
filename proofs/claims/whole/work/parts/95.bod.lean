/-- trace: both answer alike -/
theorem cp_trace {σ : am_H} (h : RR σ σ) (a : Int) : (if 0 ≤ a ∧ a < σ 63 42 ∧ a < 24 then σ 85 a.toNat else -1) = (if 0 ≤ a ∧ a < σ 46 3 ∧ a < 24 then σ 48 a.toNat else -1) := by
  have hB : RBod σ σ := h.2.2.2.2.2.2.2.1
  rw [hB.2.2.1.1]
  by_cases e : 0 ≤ a ∧ a < σ 46 3 ∧ a < 24
  · rw [if_pos e, if_pos e]; exact hB.2.2.2 a.toNat (by omega) (by omega)
  · rw [if_neg e, if_neg e]
