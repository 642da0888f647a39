/-- wiped: both answer alike, the relation stays -/
theorem cp_wiped {σ σ1 σ2 : am_H} {P N : Nat} {r1 r2 : Int} (h : RR σ σ) (hP : P ≤ 8) (hN : 1 ≤ N ∧ N ≤ 256) (hf1 : ∀ c k : Nat, c ≠ 43 → c ≠ 44 → c ≠ 45 → σ1 c k = σ c k) (hz : σ1 44 0 = 0 ∧ σ1 45 0 = 0) (w1 : wp_ch (σ1 45) (c_net σ) P N) (e1 : r1 = (P : Int) - σ1 45 (N - 1))
    (hf2 : ∀ c k : Nat, c ≠ 77 → c ≠ 78 → σ2 c k = σ1 c k) (w2 : wp_ch (σ2 78) (md_net σ1) P N) (e2 : r2 = (P : Int) - σ2 78 (N - 1)) : r2 = r1 ∧ RR σ2 σ2 := by
  have hD : RDeb σ σ1 16 7 68 := RDeb_of (fun _ _ _ => rfl) (fun c k hc => hf1 c k (by omega) (by omega) (by omega)) h.2.2.2.1
  have hT := wp_ch_un hP hN.2 (fun p _ => cp_net hD p) w2 w1 (N - 1) (by omega)
  have hw : RWip σ := h.2.2.2.2.2.2.2.2.2
  refine ⟨by rw [e1, e2, hT], RR_of (fun c k hc _ h3 _ h5 => ?_) (fun c k hc _ _ h77 h78 _ _ => ?_) h⟩
  · rw [hf2 c k (by omega) (by omega)]
    by_cases e4 : c = 44
    · have ek : k = 0 := by omega
      rw [e4, ek, hz.1, hw.1]
    · by_cases e5 : c = 45
      · have ek : k = 0 := by omega
        rw [e5, ek, hz.2, hw.2]
      · exact hf1 c k (by omega) e4 e5
  · rw [hf2 c k h77 h78]
    exact hf1 c k (by omega) (by omega) (by omega)
