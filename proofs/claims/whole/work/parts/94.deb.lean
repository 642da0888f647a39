/-- only the debts changed (and scratch) -/
theorem RR_deb {σ σ' : am_H} (hs : ∀ c k : Nat, c < 63 → c ≠ 17 → c ≠ 18 → c ≠ 19 → c ≠ 20 → c ≠ 21 → σ' c k = σ c k) (ht : ∀ c k : Nat, 63 ≤ c → c ≠ 68 → (c ≠ 63 ∨ k ≠ 27) → σ' c k = σ c k) (hD : RDeb σ' σ' 16 7 68) (h : RR σ σ) : RR σ' σ' := by
  obtain ⟨h1, h2, h3, -, h5, h6, h7, h8, h9, h10⟩ := h
  refine ⟨RSet_of (fun c k hc => hs c k (by omega) (by omega) (by omega) (by omega) (by omega) (by omega)) (fun c k hc => ht c k (by omega) (by omega) (by omega)) h1,
    RChg_of (fun c k hc => hs c k (by omega) (by omega) (by omega) (by omega) (by omega) (by omega)) (fun c k hc => ht c k (by omega) (by omega) (by omega)) h2,
    RLaw_of (fun c k hc => hs c k (by omega) (by omega) (by omega) (by omega) (by omega) (by omega)) (fun c k hc => ht c k (by omega) (by omega) (by omega)) h3, hD,
    RDia_of (fun c k hc => hs c k (by omega) (by omega) (by omega) (by omega) (by omega) (by omega)) (fun c k hc => ht c k (by omega) (by omega) (by omega)) h5,
    RFlg_of (fun c k hc => hs c k (by omega) (by omega) (by omega) (by omega) (by omega) (by omega)) h6,
    RImg_of (fun c k hc => hs c k (by omega) (by omega) (by omega) (by omega) (by omega) (by omega)) (fun c k hc => ht c k (by omega) (by omega) (by omega)) h7,
    RBod_of (fun c k hc => hs c k (by omega) (by omega) (by omega) (by omega) (by omega) (by omega)) (fun c k hc => ht c k (by omega) (by omega) (by omega)) h8,
    RShe_of (fun c k hc => hs c k (by omega) (by omega) (by omega) (by omega) (by omega) (by omega)) (fun c k hc => ht c k (by omega) (by omega) (by omega)) h9, ?_⟩
  unfold RWip at *
  rw [hs 44 0 (by decide) (by decide) (by decide) (by decide) (by decide) (by decide), hs 45 0 (by decide) (by decide) (by decide) (by decide) (by decide) (by decide)]
  exact h10
theorem m_strike_cg {σ τ : am_H} {x c : Int} (h : ∀ k, τ 68 k = σ 68 k) : ∀ n k : Nat, m_strike x c n τ 68 k = m_strike x c n σ 68 k
  | 0, k => h k
  | n + 1, k => by
    have ih := m_strike_cg (x := x) (c := c) h n
    show (if am_bit x n = 1 then md_less (m_strike x c n τ) n c else m_strike x c n τ) 68 k = (if am_bit x n = 1 then md_less (m_strike x c n σ) n c else m_strike x c n σ) 68 k
    by_cases e : am_bit x n = 1
    · rw [if_pos e, if_pos e]
      unfold md_less am_up
      rw [ih (5 * n + 2), ih (5 * n + 4), ih k]
    · rw [if_neg e, if_neg e]; exact ih k
/-- strike: both answer alike, the relation stays -/
theorem cp_strikeR {σ σ1 τ σ2 : am_H} {x y r1 r2 : Int} (h : RR σ σ) (hx : c_rg σ x)
    (h1 : (x = 0 ∧ σ = σ1 ∧ r1 = -2) ∨ (x ≠ 0 ∧ led_strike x (led_least σ x (σ 16 5).toNat) (σ 16 5).toNat σ = σ1 ∧ r1 = led_least σ x (σ 16 5).toNat))
    (hf : md_frr σ1 τ) (hy : m_rg σ1 y) (h2 : (y < 0 ∧ τ = σ2 ∧ r2 = -2) ∨ (0 ≤ y ∧ m_strike y (m_least σ1 y (σ1 63 7).toNat) (σ1 63 7).toNat τ = σ2 ∧ r2 = m_least σ1 y (σ1 63 7).toNat)) : r2 = r1 ∧ RR σ2 σ2 := by
  have hf1 : ∀ c k : Nat, c ≠ 19 → c ≠ 21 → σ1 c k = σ c k := fun c k c1 c2 => by
    rcases h1 with ⟨-, q, -⟩ | ⟨-, q, -⟩
    · rw [← q]
    · rw [← q]; exact led_strike_at (Or.inl ⟨c1, c2⟩)
  have hD : RDeb σ σ1 16 7 68 := RDeb_of (fun _ _ _ => rfl) (fun c k hc => hf1 c k (by omega) (by omega)) h.2.2.2.1
  rcases cp_ring hD hx hy with ⟨q1, q2⟩ | ⟨q1, q2, -⟩
  · rcases h1 with ⟨-, e1, e2⟩ | ⟨e, -⟩
    · rcases h2 with ⟨-, f1, f2⟩ | ⟨f, -⟩
      · subst e1; subst f1
        exact ⟨by rw [e2, f2], RR_of (fun c k hc _ _ _ _ => hf c k (by omega)) (fun c k hc _ _ _ _ _ h63 => hf c k (by omega)) h⟩
      · omega
    · exact absurd q1 e
  · have hn : σ1 63 7 = σ 16 5 := (cp_deb hD).1.1
    rcases h1 with ⟨e, -⟩ | ⟨-, e1, e2⟩
    · omega
    · rcases h2 with ⟨f, -⟩ | ⟨-, f1, f2⟩
      · omega
      · rw [q2, hn] at f1 f2
        have hs := cp_strike hD hx (by omega)
        rw [← hs.1] at f1 f2
        have g1 : ∀ c k : Nat, c ≠ 68 → (c ≠ 63 ∨ k ≠ 27) → σ2 c k = σ1 c k := fun c k c1 c2 => by
          rw [← f1, m_strike_at (Or.inl c1)]; exact hf c k c2
        have g2 : ∀ k : Nat, σ2 68 k = m_strike x (led_least σ x (σ 16 5).toNat) (σ 16 5).toNat σ1 68 k := fun k => by
          rw [← f1]; exact m_strike_cg (fun k => hf 68 k (by omega)) _ k
        refine ⟨by rw [e2, f2], RR_deb (fun c k hc _ _ h19 _ h21 => ?_) (fun c k hc h68 h63 => ?_) (RDeb_of (fun c k hc => ?_) (fun c k hc => ?_) hs.2) h⟩
        · rw [g1 c k (by omega) (by omega)]; exact hf1 c k h19 h21
        · rw [g1 c k h68 h63]; exact hf1 c k (by omega) (by omega)
        · rw [g1 c k (by omega) (by omega), e1]
        · by_cases e : c = 68
          · rw [e]; exact g2 k
          · rw [g1 c k e (by omega), m_strike_at (Or.inl e)]
