theorem cp_less {σ τ : am_H} {k : Nat} {b : Int} (h : RDeb σ τ 16 7 68) (hk : (k : Int) < σ 16 5) (hb : 0 ≤ b ∧ b ≤ σ 19 k) : RDeb (led_less σ k b) (md_less τ k b) 16 7 68 := by
  have hd := cp_deb h
  have hq := hd.2 k hk
  have e5 : led_less σ k b 16 5 = σ 16 5 := led_less_at (by omega)
  have e2 : led_less σ k b 1 2 = σ 1 2 := led_less_at (by omega)
  have ho : ∀ c n : Nat, (c ≠ 19 ∧ c ≠ 21) ∨ n ≠ k → led_less σ k b c n = σ c n := fun c n hc => led_less_at hc
  have h19 : led_less σ k b 19 k = σ 19 k - b := by
    unfold led_less
    by_cases e : σ 19 k - b = 0
    · rw [if_pos e, am_up_k (by omega), am_up_eq]
    · rw [if_neg e, am_up_eq]
  have h21 : led_less σ k b 21 k = if σ 19 k - b = 0 then 0 else σ 21 k := by
    unfold led_less
    by_cases e : σ 19 k - b = 0
    · rw [if_pos e, if_pos e, am_up_eq]
    · rw [if_neg e, if_neg e, am_up_k (by omega)]
  have t7 : md_less τ k b 63 7 = τ 63 7 := by unfold md_less; rw [am_up_k (by omega), am_up_k (by omega)]
  have to : ∀ n : Nat, n ≠ 5 * k + 2 → n ≠ 5 * k + 4 → md_less τ k b 68 n = τ 68 n := fun n h1 h2 => by unfold md_less; rw [am_up_k (by omega), am_up_k (by omega)]
  have t2 : md_less τ k b 68 (5 * k + 2) = σ 19 k - b := by unfold md_less; rw [am_up_k (by omega), am_up_eq, hq.1.2.2.1]
  have t4 : md_less τ k b 68 (5 * k + 4) = if σ 19 k - b = 0 then 0 else σ 21 k := by unfold md_less; rw [am_up_eq, hq.1.2.2.1, hq.1.2.2.2.2]
  refine ⟨by show md_less τ k b 63 7 = led_less σ k b 16 5 ∧ 0 ≤ led_less σ k b 16 5 ∧ led_less σ k b 16 5 ≤ 20; rw [t7, e5]; exact hd.1, fun n hn => ?_⟩
  have hn2 : (n : Int) < σ 16 5 := by rw [← e5]; exact hn
  have hqn := hd.2 n hn2
  show (md_less τ k b 68 (5 * n) = led_less σ k b 17 n ∧ md_less τ k b 68 (5 * n + 1) = led_less σ k b 18 n ∧ md_less τ k b 68 (5 * n + 2) = led_less σ k b 19 n ∧ md_less τ k b 68 (5 * n + 3) = led_less σ k b 20 n ∧ md_less τ k b 68 (5 * n + 4) = led_less σ k b 21 n) ∧
    ((0 ≤ led_less σ k b 17 n ∧ led_less σ k b 17 n < led_less σ k b 1 2) ∧ (0 ≤ led_less σ k b 18 n ∧ led_less σ k b 18 n < led_less σ k b 1 2) ∧ led_less σ k b 17 n ≠ led_less σ k b 18 n ∧ (0 ≤ led_less σ k b 19 n ∧ led_less σ k b 19 n ≤ 9) ∧ (0 ≤ led_less σ k b 20 n ∧ led_less σ k b 20 n ≤ 12) ∧ (led_less σ k b 21 n = 0 ∨ led_less σ k b 21 n = 1))
  rw [to (5 * n) (by omega) (by omega), to (5 * n + 1) (by omega) (by omega), to (5 * n + 3) (by omega) (by omega), ho 17 n (by omega), ho 18 n (by omega), ho 20 n (by omega), e2]
  by_cases e : n = k
  · rw [e] at hqn ⊢
    rw [t2, t4, h19, h21]
    refine ⟨⟨hqn.1.1, hqn.1.2.1, rfl, hqn.1.2.2.2.1, rfl⟩, hqn.2.1, hqn.2.2.1, hqn.2.2.2.1, by omega, hqn.2.2.2.2.2.1, ?_⟩
    split
    · exact Or.inl rfl
    · exact hqn.2.2.2.2.2.2
  · rw [to (5 * n + 2) (by omega) (by omega), to (5 * n + 4) (by omega) (by omega), ho 19 n (by omega), ho 21 n (by omega)]
    exact hqn
theorem cp_least_le {σ : am_H} {x : Int} : ∀ n : Nat, (∀ k, k < n → am_bit x k ≠ 0 → 1 ≤ σ 19 k) → (led_least σ x n = 0 → ∀ k, k < n → am_bit x k = 0) ∧ ∀ k, k < n → am_bit x k ≠ 0 → led_least σ x n ≤ σ 19 k
  | 0, _ => ⟨fun _ k hk => absurd hk (Nat.not_lt_zero _), fun k hk => absurd hk (Nat.not_lt_zero _)⟩
  | n + 1, h => by
    have ih := cp_least_le (σ := σ) (x := x) n (fun k hk => h k (by omega))
    have hA : led_least σ x (n + 1) = if am_bit x n ≠ 0 ∧ (led_least σ x n = 0 ∨ σ 19 n < led_least σ x n) then σ 19 n else led_least σ x n := rfl
    rw [hA]
    by_cases e : am_bit x n ≠ 0
    · have h1 := h n (Nat.lt_succ_self n) e
      by_cases e2 : led_least σ x n = 0 ∨ σ 19 n < led_least σ x n
      · rw [if_pos ⟨e, e2⟩]
        refine ⟨fun q => by omega, fun k hk hb => ?_⟩
        by_cases ek : k = n
        · rw [ek]; exact Int.le_refl _
        · have i2 := ih.2 k (by omega) hb
          rcases e2 with e2 | e2
          · exact absurd (ih.1 e2 k (by omega)) hb
          · omega
      · rw [if_neg (fun q => e2 q.2)]
        refine ⟨fun q => absurd (Or.inl q) e2, fun k hk hb => ?_⟩
        by_cases ek : k = n
        · rw [ek]; omega
        · exact ih.2 k (by omega) hb
    · rw [if_neg (fun q => e q.1)]
      refine ⟨fun q k hk => ?_, fun k hk hb => ?_⟩
      · by_cases ek : k = n
        · rw [ek]; exact Decidable.of_not_not e
        · exact ih.1 q k (by omega)
      · by_cases ek : k = n
        · rw [ek] at hb; exact absurd hb e
        · exact ih.2 k (by omega) hb
