/-- body: both answer alike, the relation stays -/
theorem cp_bodyR {σ σ1 σ2 : am_H} {a r1 r2 : Int} (h : RR σ σ)
    (h1 : (¬ (0 ≤ a ∧ a ≤ 7) ∧ r1 = -1 ∧ σ = σ1) ∨ (((0 ≤ a ∧ a ≤ 7) ∧ σ 46 2 = 50) ∧ r1 = -3 ∧ σ = σ1) ∨ (((0 ≤ a ∧ a ≤ 7) ∧ σ 46 2 < 50) ∧ r1 = σ 46 2 ∧ bd_add σ a = σ1))
    (h2 : (¬ (0 ≤ a ∧ a ≤ 7) ∧ r2 = -1 ∧ σ1 = σ2) ∨ (((0 ≤ a ∧ a ≤ 7) ∧ σ1 63 39 = 50) ∧ r2 = -3 ∧ σ1 = σ2) ∨ (((0 ≤ a ∧ a ≤ 7) ∧ σ1 63 39 < 50) ∧ r2 = σ1 63 39 ∧ am_up (am_up σ1 84 (σ1 63 39).toNat a) 63 39 (σ1 63 39 + 1) = σ2)) : r2 = r1 ∧ RR σ2 σ2 := by
  have hB : RBod σ σ := h.2.2.2.2.2.2.2.1
  have h39 : σ1 63 39 = σ 46 2 := by
    rcases h1 with ⟨-, -, q⟩ | ⟨-, -, q⟩ | ⟨-, -, q⟩
    · rw [← q]; exact hB.1.1
    · rw [← q]; exact hB.1.1
    · rw [← q]; unfold bd_add; rw [am_up_k (by omega), am_up_k (by omega)]; exact hB.1.1
  rw [h39] at h2
  rcases h1 with ⟨p1, q1, e1⟩ | ⟨p1, q1, e1⟩ | ⟨p1, q1, e1⟩
  · rcases h2 with ⟨p2, q2, e2⟩ | ⟨p2, q2, e2⟩ | ⟨p2, q2, e2⟩
    · subst e1; subst e2; exact ⟨q2.trans q1.symm, h⟩
    · exact absurd p2.1 p1
    · exact absurd p2.1 p1
  · rcases h2 with ⟨p2, q2, e2⟩ | ⟨p2, q2, e2⟩ | ⟨p2, q2, e2⟩
    · exact absurd p1.1 p2
    · subst e1; subst e2; exact ⟨q2.trans q1.symm, h⟩
    · omega
  · rcases h2 with ⟨p2, q2, e2⟩ | ⟨p2, q2, e2⟩ | ⟨p2, q2, e2⟩
    · exact absurd p1.1 p2
    · omega
    · refine ⟨q2.trans q1.symm, ?_⟩
      have hf1 : ∀ c k : Nat, c ≠ 47 → (c ≠ 46 ∨ k ≠ 2) → σ1 c k = σ c k := fun c k c1 c2 => by
        rw [← e1]; unfold bd_add; rw [am_up_k (by omega), am_up_k (by omega)]
      have hf2 : ∀ c k : Nat, c ≠ 84 → (c ≠ 63 ∨ k ≠ 39) → σ2 c k = σ1 c k := fun c k c1 c2 => by
        rw [← e2, am_up_k (by omega), am_up_k (by omega)]
      have hf : ∀ c k : Nat, c ≠ 47 → c ≠ 84 → (c ≠ 46 ∨ k ≠ 2) → (c ≠ 63 ∨ k ≠ 39) → σ2 c k = σ c k := fun c k c1 c2 c3 c4 => (hf2 c k c2 c4).trans (hf1 c k c1 c3)
      have e462 : σ2 46 2 = σ 46 2 + 1 := by rw [hf2 46 2 (by decide) (by decide), ← e1]; unfold bd_add; rw [am_up_eq]
      have e6339 : σ2 63 39 = σ 46 2 + 1 := by rw [← e2, am_up_eq]
      have e47 : ∀ k : Nat, σ2 47 k = if k = (σ 46 2).toNat then a else σ 47 k := fun k => by
        rw [hf2 47 k (by omega) (by omega), ← e1]; unfold bd_add
        rw [am_up_k (by omega)]
        by_cases e : k = (σ 46 2).toNat
        · rw [if_pos e, e, am_up_eq]
        · rw [if_neg e, am_up_k (by omega)]
      have e84 : ∀ k : Nat, σ2 84 k = if k = (σ 46 2).toNat then a else σ 84 k := fun k => by
        rw [← e2, am_up_k (by omega)]
        by_cases e : k = (σ 46 2).toNat
        · rw [if_pos e, e, am_up_eq]
        · rw [if_neg e, am_up_k (by omega), hf1 84 k (by omega) (by omega)]
      obtain ⟨g1, g2, g3, g4, g5, g6, g7, g8, g9, g10⟩ := h
      refine ⟨RSet_of (fun c k hc => hf c k (by omega) (by omega) (by omega) (by omega)) (fun c k hc => hf c k (by omega) (by omega) (by omega) (by omega)) g1,
        RChg_of (fun c k hc => hf c k (by omega) (by omega) (by omega) (by omega)) (fun c k hc => hf c k (by omega) (by omega) (by omega) (by omega)) g2,
        RLaw_of (fun c k hc => hf c k (by omega) (by omega) (by omega) (by omega)) (fun c k hc => hf c k (by omega) (by omega) (by omega) (by omega)) g3,
        RDeb_of (fun c k hc => hf c k (by omega) (by omega) (by omega) (by omega)) (fun c k hc => hf c k (by omega) (by omega) (by omega) (by omega)) g4,
        RDia_of (fun c k hc => hf c k (by omega) (by omega) (by omega) (by omega)) (fun c k hc => hf c k (by omega) (by omega) (by omega) (by omega)) g5,
        RFlg_of (fun c k hc => hf c k (by omega) (by omega) (by omega) (by omega)) g6,
        RImg_of (fun c k hc => hf c k (by omega) (by omega) (by omega) (by omega)) (fun c k hc => hf c k (by omega) (by omega) (by omega) (by omega)) g7, ?_, ?_, ?_⟩
      · obtain ⟨b1, b2, b3, b4⟩ := g8
        refine ⟨by rw [e6339, e462]; exact ⟨rfl, by omega, by omega⟩, fun k hk => ?_, by rw [hf 63 42 (by decide) (by decide) (by decide) (by decide), hf 46 3 (by decide) (by decide) (by decide) (by decide)]; exact b3, fun k hk hk2 => ?_⟩
        · rw [e462] at hk
          rw [e84, e47]
          by_cases e : k = (σ 46 2).toNat
          · rw [if_pos e, if_pos e]; exact ⟨rfl, p1.1⟩
          · rw [if_neg e, if_neg e]; exact b2 k (by omega)
        · rw [hf 46 3 (by decide) (by decide) (by decide) (by decide)] at hk
          rw [hf 85 k (by omega) (by omega) (by omega) (by omega), hf 48 k (by omega) (by omega) (by omega) (by omega)]
          exact b4 k hk hk2
      · have qs := (RShe_of (σ := σ) (τ := σ) (σ' := am_up σ2 46 2 (σ 46 2)) (τ' := σ2) (fun c k hc => by
          by_cases e : c = 46 ∧ k = 2
          · rw [e.1, e.2, am_up_eq]
          · rw [am_up_k (by omega)]; exact hf c k (by omega) (by omega) (by omega) (by omega)) (fun c k hc => hf c k (by omega) (by omega) (by omega) (by omega)) g9).2
        refine ⟨fun d hd => ?_, fun d hd => ?_⟩
        · have s := g9.1 d hd
          have sf : ∀ k, σ2 (51 + 2 * d) k = σ (51 + 2 * d) k := fun k => hf _ k (by omega) (by omega) (by omega) (by omega)
          have sf2 : ∀ k, σ2 (52 + 2 * d) k = σ (52 + 2 * d) k := fun k => hf _ k (by omega) (by omega) (by omega) (by omega)
          rw [sf, sf, sf, e462]
          refine ⟨by omega, s.2.1, s.2.2.1, s.2.2.2.1, s.2.2.2.2.1, fun j hj => ?_⟩
          rw [sf2]; exact s.2.2.2.2.2 j hj
        · have q := qs d hd
          have t : ∀ c k : Nat, 51 ≤ c → am_up σ2 46 2 (σ 46 2) c k = σ2 c k := fun c k hc => am_up_k (by omega)
          rw [t _ _ (by omega), t _ _ (by omega), t _ _ (by omega)] at q
          refine ⟨q.1, q.2.1, fun j hj => ?_⟩
          have q3 := q.2.2 j hj
          rw [t _ _ (by omega)] at q3; exact q3
      · unfold RWip at *
        rw [hf 44 0 (by decide) (by decide) (by decide) (by decide), hf 45 0 (by decide) (by decide) (by decide) (by decide)]
        exact g10
