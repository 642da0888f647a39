theorem cp_strike {σ τ : am_H} {x : Int} (h : RDeb σ τ 16 7 68) (hx : c_rg σ x) (h0 : x ≠ 0) :
    led_least σ x (σ 16 5).toNat = m_least τ x (σ 16 5).toNat ∧ RDeb (led_strike x (led_least σ x (σ 16 5).toNat) (σ 16 5).toNat σ) (m_strike x (led_least σ x (σ 16 5).toNat) (σ 16 5).toNat τ) 16 7 68 := by
  have hd := cp_deb h
  obtain ⟨l, hl, hne, hop⟩ := cp_open hx h0 hd.1.2.2
  have hlt : rg_V0 l < 1048576 := by
    obtain ⟨m, e, hm, -⟩ := hx
    omega
  obtain ⟨n, hn⟩ : ∃ n : Nat, (σ 16 5).toNat = n := ⟨_, rfl⟩
  have hbit : ∀ k, k < n → am_bit x k = if (rg_V0 l).testBit k = true then 1 else 0 := fun k hk => by rw [hl]; exact rg_bitN _ k hlt (by omega)
  have hopen : ∀ k, k < n → am_bit x k ≠ 0 → 1 ≤ σ 19 k := fun k hk hb => by
    rw [hbit k hk] at hb
    by_cases e : (rg_V0 l).testBit k = true
    · have := (hop k ((rg_V0_bit k l).mp e)).2; omega
    · rw [if_neg e] at hb; exact absurd rfl hb
  have hle := cp_least_le (σ := σ) (x := x) n hopen
  have hl2 := cp_least h hx h0 n (by omega)
  rw [hn]
  obtain ⟨c, hc⟩ : ∃ c : Int, led_least σ x n = c := ⟨_, rfl⟩
  have hcle : ∀ k, k < n → am_bit x k ≠ 0 → c ≤ σ 19 k := by rw [← hc]; exact hle.2
  have hres : led_least σ x n = m_least τ x n ∧ 1 ≤ c := by
    rcases hl2 with ⟨-, -, q⟩ | ⟨q1, q2, -⟩
    · obtain ⟨k, hk⟩ := List.exists_mem_of_ne_nil l hne
      have hk2 : k < n := by have := (hop k hk).1; omega
      have q2 := q k hk2
      rw [hbit k hk2, if_pos ((rg_V0_bit k l).mpr hk)] at q2
      exact absurd q2 (by decide)
    · exact ⟨q1, by omega⟩
  refine ⟨hres.1, ?_⟩
  rw [hc]
  have hst : ∀ m, m ≤ n → RDeb (led_strike x c m σ) (m_strike x c m τ) 16 7 68 := fun m => by
    induction m with
    | zero => intro _; exact h
    | succ m ih =>
      intro hm
      have ih := ih (by omega)
      have hA : led_strike x c (m + 1) σ = if am_bit x m ≠ 0 then led_less (led_strike x c m σ) m c else led_strike x c m σ := rfl
      have hB : m_strike x c (m + 1) τ = if am_bit x m = 1 then md_less (m_strike x c m τ) m c else m_strike x c m τ := rfl
      rw [hA, hB]
      have h19 : led_strike x c m σ 19 m = σ 19 m := led_strike_at (by omega)
      have h16 : led_strike x c m σ 16 5 = σ 16 5 := led_strike_at (by omega)
      rcases wb_01 x m with e | e
      · rw [if_neg (fun q => q e), if_neg (fun q => by rw [e] at q; exact absurd q (by decide))]; exact ih
      · have hb0 : am_bit x m ≠ 0 := by rw [e]; decide
        have := hcle m (by omega) hb0
        rw [if_pos hb0, if_pos e]
        exact cp_less ih (by rw [h16]; omega) (by rw [h19]; omega)
  exact hst n (Nat.le_refl n)
