/-! the coupling: what the contracts ask, out of the relation; rings -/
theorem cp_deb {σ τ : am_H} (h : RDeb σ τ 16 7 68) : (τ 63 7 = σ 16 5 ∧ 0 ≤ σ 16 5 ∧ σ 16 5 ≤ 20) ∧ ∀ n : Nat, (n : Int) < σ 16 5 →
  (τ 68 (5 * n) = σ 17 n ∧ τ 68 (5 * n + 1) = σ 18 n ∧ τ 68 (5 * n + 2) = σ 19 n ∧ τ 68 (5 * n + 3) = σ 20 n ∧ τ 68 (5 * n + 4) = σ 21 n) ∧
  ((0 ≤ σ 17 n ∧ σ 17 n < σ 1 2) ∧ (0 ≤ σ 18 n ∧ σ 18 n < σ 1 2) ∧ σ 17 n ≠ σ 18 n ∧ (0 ≤ σ 19 n ∧ σ 19 n ≤ 9) ∧ (0 ≤ σ 20 n ∧ σ 20 n ≤ 12) ∧ (σ 21 n = 0 ∨ σ 21 n = 1)) := h
theorem cp_DebV {σ τ : am_H} (h : RDeb σ τ 16 7 68) : DebV σ := fun n hn => by
  have q := ((cp_deb h).2 n hn).2
  exact ⟨q.1, q.2.1, q.2.2.2.2.1⟩
theorem cp_days {σ τ : am_H} (h : RDeb σ τ 16 7 68) : ∀ n : Nat, (n : Int) < σ 16 5 → 0 ≤ σ 19 n ∧ σ 19 n ≤ 9 := fun n hn => ((cp_deb h).2 n hn).2.2.2.2.1
theorem cp_MdeV {σ τ : am_H} (h : RDeb σ τ 16 7 68) (hp : τ 63 6 = σ 1 2) : MdeV τ := fun n hn => by
  have h0 := cp_deb h
  rw [h0.1.1] at hn
  have q := h0.2 n hn
  rw [q.1.1, q.1.2.1, q.1.2.2.2.1, hp]
  exact ⟨q.2.1, q.2.2.1, q.2.2.2.2.2.1⟩
theorem cp_mdays {σ τ : am_H} (h : RDeb σ τ 16 7 68) : ∀ n : Nat, (n : Int) < τ 63 7 → 0 ≤ τ 68 (5 * n + 2) ∧ τ 68 (5 * n + 2) ≤ 9 := fun n hn => by
  have h0 := cp_deb h
  rw [h0.1.1] at hn
  have q := h0.2 n hn
  rw [q.1.2.2.1]
  exact q.2.2.2.2.1
theorem cp_R {σ τ : am_H} (h : RDeb σ τ 16 7 68) : ∀ k, k < (σ 16 5).toNat → m_o τ k = c_o σ k ∧ m_w τ k = c_w σ k ∧ m_kd τ k = σ 20 k ∧ (m_op τ k ↔ 0 < σ 19 k) := fun k hk => by
  have q := ((cp_deb h).2 k (by omega)).1
  unfold m_o m_w m_kd m_op c_o c_w
  rw [q.1, q.2.1, q.2.2.1, q.2.2.2.1]
  exact ⟨rfl, rfl, rfl, Iff.rfl⟩
theorem cp_ring {σ τ : am_H} {x y : Int} (h : RDeb σ τ 16 7 68) (hx : c_rg σ x) (hy : m_rg τ y) : (x = 0 ∧ y = -2) ∨ (0 < x ∧ y = x ∧ x < 1048576) := by
  obtain ⟨n, rfl, hn, hx⟩ := hx
  have h0 := cp_deb h
  have hm : ∀ l, m_R τ l ↔ rg_R (c_o σ) (c_w σ) (σ 20) (fun k => 0 < σ 19 k) (σ 16 5).toNat false l := fun l => by
    unfold m_R
    rw [h0.1.1]
    exact rg_R_congr (cp_R h) l
  have hy2 : rg_mb (-2) y (fun l => l.length ≤ 5 ∧ rg_R (c_o σ) (c_w σ) (σ 20) (fun k => 0 < σ 19 k) (σ 16 5).toNat false l) rg_V0 :=
    rg_mb_congr hy (fun l => by rw [hm l])
  rcases rg_same (by omega) (fun k hk => by
    have q := (h0.2 k (by omega)).2
    unfold c_o c_w; omega) hx hy2 with ⟨q1, q2⟩ | ⟨q1, q2⟩
  · exact Or.inl ⟨by omega, q2⟩
  · exact Or.inr ⟨by omega, q2, by omega⟩
/-- a ring's set holds only debts that are there and open -/
theorem cp_open {σ : am_H} {x : Int} (h : c_rg σ x) (h0 : x ≠ 0) (hc : σ 16 5 ≤ 20) : ∃ l : List Nat, x = (rg_V0 l : Int) ∧ l ≠ [] ∧ ∀ k, k ∈ l → (k : Int) < σ 16 5 ∧ 0 < σ 19 k := by
  obtain ⟨n, rfl, hn, hx⟩ := h
  rcases hx with ⟨q, -⟩ | ⟨l, hR, -, -, hv, -, -⟩
  · omega
  · refine ⟨l, by rw [hv], fun e => by rw [e] at hR; exact hR, fun k hk => ?_⟩
    obtain ⟨⟨c, hm⟩, -⟩ := rg_F_R.mpr (rg_R_low hR)
    have q := hm k hk
    exact ⟨by omega, q.2.1⟩
