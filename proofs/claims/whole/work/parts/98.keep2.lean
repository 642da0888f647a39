/-- keep: both answer alike, the relation stays -/
theorem cp_keepR {σ σ1 σ2 : am_H} {a b r1 r2 : Int} (h : RR σ σ)
    (h1 : (¬ ((0 ≤ a ∧ a ≤ 5) ∧ (b = -1 ∨ (0 ≤ b ∧ b < σ 46 2))) ∧ r1 = -1 ∧ σ = σ1) ∨ (((0 ≤ a ∧ a ≤ 5) ∧ (b = -1 ∨ (0 ≤ b ∧ b < σ 46 2))) ∧ r1 = 1 ∧ sf_day σ (51 + 2 * a.toNat) b = σ1))
    (h2 : (¬ ((0 ≤ a ∧ a ≤ 5) ∧ (b = -1 ∨ (0 ≤ b ∧ b < σ1 63 39))) ∧ r2 = -1 ∧ σ1 = σ2) ∨ (((0 ≤ a ∧ a ≤ 5) ∧ (b = -1 ∨ (0 ≤ b ∧ b < σ1 63 39))) ∧ r2 = 1 ∧ am_up (am_up σ1 86 a.toNat b) 87 a.toNat 0 = σ2)) : r2 = r1 ∧ RR σ2 σ2 := by
  have hB : RBod σ σ := h.2.2.2.2.2.2.2.1
  have h462 : 0 ≤ σ 46 2 := hB.1.2.1
  have hsd : ∀ c k : Nat, c ≠ 51 + 2 * a.toNat → sf_day σ (51 + 2 * a.toNat) b c k = σ c k := fun c k hc => by
    unfold sf_day; rw [am_up_k (by omega), am_up_k (by omega), am_up_k (by omega)]
  have h39 : a ≤ 5 → σ1 63 39 = σ 46 2 := fun ha => by
    rcases h1 with ⟨-, -, q⟩ | ⟨-, -, q⟩
    · rw [← q]; exact hB.1.1
    · rw [← q, hsd 63 39 (by omega)]; exact hB.1.1
  rcases h1 with ⟨p1, q1, e1⟩ | ⟨p1, q1, e1⟩
  · rcases h2 with ⟨p2, q2, e2⟩ | ⟨p2, q2, e2⟩
    · subst e1; subst e2; exact ⟨q2.trans q1.symm, h⟩
    · rw [h39 p2.1.2] at p2; exact absurd p2 p1
  · rcases h2 with ⟨p2, q2, e2⟩ | ⟨p2, q2, e2⟩
    · rw [h39 p1.1.2] at p2; exact absurd p1 p2
    · refine ⟨q2.trans q1.symm, ?_⟩
      obtain ⟨A, hA⟩ : ∃ A : Nat, a.toNat = A := ⟨_, rfl⟩
      rw [hA] at e1 e2 hsd
      have hA5 : A < 6 := by omega
      have f2 : ∀ c k : Nat, c ≠ 86 → c ≠ 87 → σ2 c k = σ1 c k := fun c k c1 c2 => by rw [← e2, am_up_k (by omega), am_up_k (by omega)]
      have f : ∀ c k : Nat, c ≠ 51 + 2 * A → c ≠ 86 → c ≠ 87 → σ2 c k = σ c k := fun c k c0 c1 c2 => by rw [f2 c k c1 c2, ← e1]; exact hsd c k c0
      have s1 : σ2 (51 + 2 * A) 1 = b := by rw [f2 _ _ (by omega) (by omega), ← e1]; unfold sf_day; rw [am_up_k (by omega), am_up_k (by omega), am_up_eq]
      have s2 : σ2 (51 + 2 * A) 2 = -1 := by rw [f2 _ _ (by omega) (by omega), ← e1]; unfold sf_day; rw [am_up_k (by omega), am_up_eq]
      have s3 : σ2 (51 + 2 * A) 3 = 0 := by rw [f2 _ _ (by omega) (by omega), ← e1]; unfold sf_day; rw [am_up_eq]
      have t86 : ∀ d, σ2 86 d = if d = A then b else σ 86 d := fun d => by
        rw [← e2, am_up_k (by omega)]
        by_cases e : d = A
        · rw [if_pos e, e, am_up_eq]
        · rw [if_neg e, am_up_k (by omega), ← e1]; exact hsd 86 d (by omega)
      have t87 : ∀ d, σ2 87 d = if d = A then 0 else σ 87 d := fun d => by
        rw [← e2]
        by_cases e : d = A
        · rw [if_pos e, e, am_up_eq]
        · rw [if_neg e, am_up_k (by omega), am_up_k (by omega), ← e1]; exact hsd 87 d (by omega)
      have g9 := h.2.2.2.2.2.2.2.2.1
      refine RR_she (fun c k hc c1 c2 c3 => f c k (by omega) c1 c2) ⟨fun d hd => ?_, fun d hd => ?_⟩ h
      · by_cases e : d = A
        · rw [e, s1, s2, s3, f 46 2 (by omega) (by omega) (by omega)]
          exact ⟨by omega, by omega, by omega, fun _ => rfl, fun q => by omega, fun j hj => by omega⟩
        · have s := g9.1 d hd
          have sf : ∀ k, σ2 (51 + 2 * d) k = σ (51 + 2 * d) k := fun k => f _ k (by omega) (by omega) (by omega)
          have sf2 : ∀ k, σ2 (52 + 2 * d) k = σ (52 + 2 * d) k := fun k => f _ k (by omega) (by omega) (by omega)
          rw [sf, sf, sf, f 46 2 (by omega) (by omega) (by omega)]
          exact ⟨s.1, s.2.1, s.2.2.1, s.2.2.2.1, s.2.2.2.2.1, fun j hj => by rw [sf2]; exact s.2.2.2.2.2 j hj⟩
      · by_cases e : d = A
        · rw [e, s1, s2, s3, t86, t87, if_pos rfl, if_pos rfl, if_neg (by decide)]
          exact ⟨rfl, rfl, fun j hj => by omega⟩
        · have q := g9.2 d hd
          have sf : ∀ k, σ2 (51 + 2 * d) k = σ (51 + 2 * d) k := fun k => f _ k (by omega) (by omega) (by omega)
          have sf2 : ∀ k, σ2 (52 + 2 * d) k = σ (52 + 2 * d) k := fun k => f _ k (by omega) (by omega) (by omega)
          rw [sf, sf, sf, t86, t87, if_neg e, if_neg e]
          exact ⟨q.1, q.2.1, fun j hj => by rw [sf2, f 88 _ (by omega) (by omega) (by omega)]; exact q.2.2 j hj⟩
