/-! the coupling: debts out of rows -/
theorem cq_comes {σ τ : am_H} {d : Nat} {j : Int} (h : RR σ τ) (hd : d < 6) (hs : σ (51 + 2 * d) 2 = 0) : md_comes τ d j ↔ c_comes σ d j := by
  have g := cq_she h d hd
  have n := cq_n h
  unfold md_comes c_comes
  rw [g.2.1, hs, if_pos (by decide), g.2.2.1, n.1.1, n.1.2.1]
  by_cases e : 0 ≤ j ∧ j + 3 < σ (51 + 2 * d) 3
  · rw [show (j + 1).toNat = j.toNat + 1 by omega, show (j + 2).toNat = j.toNat + 2 by omega, show (j + 3).toNat = j.toNat + 3 by omega]
    have q0 := g.2.2.2 j.toNat (by omega)
    have q1 := g.2.2.2 (j.toNat + 1) (by omega)
    have q2 := g.2.2.2 (j.toNat + 2) (by omega)
    have q3 := g.2.2.2 (j.toNat + 3) (by omega)
    rw [← Nat.add_assoc] at q1 q2 q3
    rw [q0, q1, q2, q3]
    exact ⟨fun q => q.2, fun q => ⟨by decide, q⟩⟩
  · exact ⟨fun q => absurd ⟨q.2.1, q.2.2.1⟩ e, fun q => absurd ⟨q.1, q.2.1⟩ e⟩
theorem cq_come {σ τ : am_H} {d : Nat} {j : Int} (h : RR σ τ) (hd : d < 6) (hc : c_comes σ d j) : RR (c_come σ d j) (md_come τ (60 * d + j.toNat)) := by
  have g := cq_she h d hd
  obtain ⟨c1, c2, c3, c4, c5, c6, c7, c8⟩ := hc
  unfold c_come md_come
  rw [show (j + 1).toNat = j.toNat + 1 by omega] at c5 c6 ⊢
  rw [show (j + 2).toNat = j.toNat + 2 by omega] at c7 ⊢
  rw [show (j + 3).toNat = j.toNat + 3 by omega] at c8 ⊢
  have q0 := g.2.2.2 j.toNat (by omega)
  have q1 := g.2.2.2 (j.toNat + 1) (by omega)
  have q2 := g.2.2.2 (j.toNat + 2) (by omega)
  have q3 := g.2.2.2 (j.toNat + 3) (by omega)
  rw [← Nat.add_assoc] at q1 q2 q3
  rw [q0, q1, q2, q3]
  exact cq_debt h c3 c4 c5 c6 c7 c8
theorem cq_dbt {σ τ : am_H} {d m : Nat} {i : Int} (h : RR σ τ) (hd : d < 6) (hc : ∀ k : Nat, k < m → c_comes (c_dbt d i k σ) d (i + 4 * (k : Int))) : ∀ k : Nat, k ≤ m → RR (c_dbt d i k σ) (md_dbt (60 * d + i.toNat) k τ)
  | 0, _ => h
  | k + 1, hk => by
    have ih := cq_dbt h hd hc k (by omega)
    have hk2 := hc k (by omega)
    have h0 := hc 0 (by omega)
    have i0 : 0 ≤ i := by
      have := h0.1
      omega
    have q := cq_come ih hd hk2
    rw [show 60 * d + (i + 4 * (k : Int)).toNat = 60 * d + i.toNat + 4 * k by omega] at q
    exact q
/-- as many debts come -/
theorem cq_dbts {σ τ : am_H} {d m m' : Nat} {i n : Int} (h : RR σ τ) (hd : d < 6) (hs : σ (51 + 2 * d) 2 = 0) (hm : (m : Int) ≤ n) (hm' : (m' : Int) ≤ n) (hc : ∀ k : Nat, k < m → c_comes (c_dbt d i k σ) d (i + 4 * (k : Int))) (he : (m : Int) = n ∨ ¬ c_comes (c_dbt d i m σ) d (i + 4 * (m : Int)))
    (hc' : ∀ k : Nat, k < m' → md_comes (md_dbt (60 * d + i.toNat) k τ) d (i + 4 * (k : Int))) (he' : (m' : Int) = n ∨ ¬ md_comes (md_dbt (60 * d + i.toNat) m' τ) d (i + 4 * (m' : Int))) : m' = m ∧ RR (c_dbt d i m σ) (md_dbt (60 * d + i.toNat) m τ) := by
  have hR := cq_dbt h hd hc
  have hS : ∀ k : Nat, c_dbt d i k σ (51 + 2 * d) 2 = 0 := fun k => by rw [c_dbt_at (by omega)]; exact hs
  refine ⟨?_, hR m (Nat.le_refl m)⟩
  by_cases e1 : m < m'
  · have q := (cq_comes (j := i + 4 * (m : Int)) (hR m (Nat.le_refl m)) hd (hS m)).mp (hc' m e1)
    rcases he with he | he
    · omega
    · exact absurd q he
  · by_cases e2 : m' < m
    · have q := (cq_comes (j := i + 4 * (m' : Int)) (hR m' (by omega)) hd (hS m')).mpr (hc m' e2)
      rcases he' with he | he
      · omega
      · exact absurd q he
    · omega
