/-- plan: both answer alike, the relation stays -/
theorem cp_planR {σ σ1 σ2 : am_H} (h : RR σ σ) (hf1 : ∀ c k : Nat, c ≠ 14 → c ≠ 15 → c ≠ 50 → σ1 c k = σ c k) (hf2 : md_frp σ1 σ2) : RR σ2 σ2 ∧ ∀ a b : Int, 0 ≤ b ∧ b ≤ 47 →
    am_sum (fun k : Nat => pl_T (fun d => md_wv σ1 (k : Int) a d) (σ1 63 9 + 3) (b + 1 - (σ1 63 9 + 3)).toNat (md_owed σ1 (k : Int) a)) (σ1 63 6).toNat = am_sum (fun k : Nat => pl_T (fun d => c_wv σ (k : Int) a d) (σ 22 7 + 3) (b + 1 - (σ 22 7 + 3)).toNat (c_owed σ (k : Int) a)) (σ 1 2).toNat := by
  have hD : RDeb σ σ1 16 7 68 := RDeb_of (fun _ _ _ => rfl) (fun c k hc => hf1 c k (by omega) (by omega) (by omega)) h.2.2.2.1
  have hS : RSet σ σ1 := RSet_of (fun _ _ _ => rfl) (fun c k hc => hf1 c k (by omega) (by omega) (by omega)) h.1
  have hL : RLaw σ σ1 := RLaw_of (fun _ _ _ => rfl) (fun c k hc => hf1 c k (by omega) (by omega) (by omega)) h.2.2.1
  have hN : (σ 63 9 = σ 22 7 ∧ 0 ≤ σ 22 7 ∧ σ 22 7 ≤ 48) := h.2.2.2.2.1.2.1
  refine ⟨RR_of (fun c k hc _ h3 _ _ => ?_) (fun c k hc h71 h76 _ _ _ h63 => ?_) h, fun a b hb => cp_plan hS hL hD (by rw [hf1 63 9 (by decide) (by decide) (by decide)]; exact hN.1) hN.2.1 a b hb⟩
  · rw [hf2 c k (by omega) (by omega) (by omega)]
    exact hf1 c k (by omega) (by omega) (by omega)
  · rw [hf2 c k h71 h76 (by omega)]
    exact hf1 c k (by omega) (by omega) (by omega)
/-- ring: both answer alike, the relation stays -/
theorem cp_ringR {σ σ2 : am_H} {x y : Int} (h : RR σ σ) (hx : c_rg σ x) (hf2 : md_frr σ σ2) (hy : m_rg σ y) : y = (if x = 0 then -2 else x) ∧ RR σ2 σ2 := by
  refine ⟨?_, RR_of (fun c k hc _ _ _ _ => hf2 c k (by omega)) (fun c k hc _ _ _ _ _ h63 => hf2 c k (by omega)) h⟩
  rcases cp_ring h.2.2.2.1 hx hy with ⟨q1, q2⟩ | ⟨q1, q2, -⟩
  · rw [if_pos q1]; exact q2
  · rw [if_neg (by omega)]; exact q2
