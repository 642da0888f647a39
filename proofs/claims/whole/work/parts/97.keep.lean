/-- only shelves changed -/
theorem RR_she {σ σ' : am_H} (hf : ∀ c k : Nat, c < 51 ∨ 62 < c → c ≠ 86 → c ≠ 87 → c ≠ 88 → σ' c k = σ c k) (hS : RShe σ' σ') (h : RR σ σ) : RR σ' σ' := by
  obtain ⟨g1, g2, g3, g4, g5, g6, g7, g8, -, g10⟩ := h
  refine ⟨RSet_of (fun c k hc => hf c k (by omega) (by omega) (by omega) (by omega)) (fun c k hc => hf c k (by omega) (by omega) (by omega) (by omega)) g1,
    RChg_of (fun c k hc => hf c k (by omega) (by omega) (by omega) (by omega)) (fun c k hc => hf c k (by omega) (by omega) (by omega) (by omega)) g2,
    RLaw_of (fun c k hc => hf c k (by omega) (by omega) (by omega) (by omega)) (fun c k hc => hf c k (by omega) (by omega) (by omega) (by omega)) g3,
    RDeb_of (fun c k hc => hf c k (by omega) (by omega) (by omega) (by omega)) (fun c k hc => hf c k (by omega) (by omega) (by omega) (by omega)) g4,
    RDia_of (fun c k hc => hf c k (by omega) (by omega) (by omega) (by omega)) (fun c k hc => hf c k (by omega) (by omega) (by omega) (by omega)) g5,
    RFlg_of (fun c k hc => hf c k (by omega) (by omega) (by omega) (by omega)) g6,
    RImg_of (fun c k hc => hf c k (by omega) (by omega) (by omega) (by omega)) (fun c k hc => hf c k (by omega) (by omega) (by omega) (by omega)) g7,
    RBod_of (fun c k hc => hf c k (by omega) (by omega) (by omega) (by omega)) (fun c k hc => hf c k (by omega) (by omega) (by omega) (by omega)) g8, hS, ?_⟩
  unfold RWip at *
  rw [hf 44 0 (by decide) (by decide) (by decide) (by decide), hf 45 0 (by decide) (by decide) (by decide) (by decide)]
  exact g10
