/-! what the contracts ask, out of the relation -/
theorem kh9_0 {σ τ : am_H} (h : RR σ τ) : 0 ≤ σ 1 2 ∧ σ 1 2 ≤ 8 := (cq_n h).2.1
theorem kh9_1 {σ τ : am_H} (h : RR σ τ) : 0 ≤ σ 16 5 ∧ σ 16 5 ≤ 20 := (cq_n h).2.2.1
theorem kh9_2 {σ τ : am_H} (h : RR σ τ) : ShV σ := h.2.2.2.2.2.2.2.2.1.1
theorem kh9_3 {σ τ : am_H} (h : RR σ τ) : 0 ≤ σ 4 4 ∧ σ 4 4 ≤ 40 := (cq_n h).2.2.2.2.2.2.1
theorem kh9_4 {σ τ : am_H} (h : RR σ τ) : ∀ n : Nat, (n : Int) < σ 16 5 → 0 ≤ σ 19 n ∧ σ 19 n ≤ 9 := cp_days h.2.2.2.1
theorem kh9_5 {σ τ : am_H} (h : RR σ τ) : 0 ≤ σ 22 6 ∧ σ 22 6 ≤ 30 := (cq_n h).2.2.2.1
theorem kh9_6 {σ τ : am_H} (h : RR σ τ) : 0 ≤ σ 9 6 ∧ σ 9 6 ≤ 120 := (cq_n h).2.2.2.2.2.1
theorem kh9_7 {σ τ : am_H} (h : RR σ τ) : CLaw σ := h.2.2.1.2.1
theorem kh9_8 {σ τ : am_H} (h : RR σ τ) : (∀ k, k < 12 → 1 ≤ σ 2 k ∧ σ 2 k ≤ 9) ∧ ∀ k : Nat, (k : Int) < σ 1 2 → 1 ≤ σ 3 k ∧ σ 3 k ≤ 9 := ⟨fun k hk => (h.1.2.1 k hk).2, fun k hk => (h.1.2.2.1 k hk).2⟩
theorem kh9_9 {σ τ : am_H} (h : RR σ τ) : 0 ≤ σ 22 7 ∧ σ 22 7 ≤ 48 := (cq_n h).2.2.2.2.1
theorem kh9_10 {σ τ : am_H} (h : RR σ τ) : SkiV σ := ⟨fun k hk => (h.1.2.1 k hk).2, fun k hk => (h.1.2.2.1 k hk).2⟩
theorem kh9_11 {σ τ : am_H} (h : RR σ τ) : DebV σ := cp_DebV h.2.2.2.1
theorem kh9_12 {σ τ : am_H} (h : RR σ τ) : AskV σ := fun k hk => ((cq_dia h).1 k hk).2.1
theorem kh9_13 {σ τ : am_H} (h : RR σ τ) : CGo σ := ⟨(cq_n h).2.1, (cq_n h).2.2.1, cp_days h.2.2.2.1, h.2.2.1.2.1, ⟨fun k hk => (h.1.2.1 k hk).2, fun k hk => (h.1.2.2.1 k hk).2⟩, cp_DebV h.2.2.2.1, (cq_n h).2.2.2.1, fun k hk => ((cq_dia h).1 k hk).2.1⟩
theorem kh9_14 {σ τ : am_H} (h : RR σ τ) : ∀ j : Nat, (j : Int) < σ 16 5 → σ 17 j ≠ σ 18 j := fun j hj => ((cp_deb h.2.2.2.1).2 j hj).2.2.2.1
theorem kh9_15 {σ τ : am_H} (h : RR σ τ) : σ 44 0 = 0 ∧ σ 45 0 = 0 := h.2.2.2.2.2.2.2.2.2
theorem kh9_16 {σ τ : am_H} (h : RR σ τ) : ∀ j, j < 30 → σ 25 j = 0 ∨ σ 25 j = 1 := fun j hj => (h.2.2.2.2.2.1 j hj).1
theorem kh9_17 {σ τ : am_H} (h : RR σ τ) : ∀ j, j < 30 → σ 38 j = 0 ∨ σ 38 j = 1 := fun j hj => (h.2.2.2.2.2.1 j hj).2
theorem kh9_18 {σ τ : am_H} (h : RR σ τ) : 0 ≤ σ 0 11 ∧ σ 0 11 ≤ 1 := by
  have q := h.2.2.2.2.2.2.1.1.2
  omega
theorem kh9_19 {σ τ : am_H} (h : RR σ τ) : 0 ≤ σ 4 4 ∧ 0 ≤ σ 4 5 ∧ σ 4 4 + σ 4 5 ≤ 40 := h.2.1.1.2.2
theorem kh9_20 {σ τ : am_H} (h : RR σ τ) : ∀ k : Nat, (k : Int) < σ 4 4 + σ 4 5 → (σ 6 k = 0 ∧ 0 ≤ σ 5 k ∧ σ 5 k ≤ 11) ∨ (σ 6 k = 1 ∧ 0 ≤ σ 5 k ∧ σ 5 k < 8) ∨ (σ 6 k = 2 ∧ σ 5 k = 0) ∨ (σ 6 k = 3 ∧ σ 5 k = 0) := by
  intro k hk
  have q := (h.2.1.2 k hk).2.1
  have p := (cq_n h).2.1
  unfold chg_ok at q
  omega
theorem kh9_21 {σ τ : am_H} (h : RR σ τ) : 0 ≤ σ 46 2 ∧ σ 46 2 ≤ 50 := (cq_n h).2.2.2.2.2.2.2.1
theorem kh9_22 {σ τ : am_H} (h : RR σ τ) : ∀ j : Nat, (j : Int) < σ 46 2 → 0 ≤ σ 47 j ∧ σ 47 j ≤ 7 := fun j hj => (h.2.2.2.2.2.2.2.1.2.1 j hj).2
theorem kh9_23 {σ τ : am_H} (h : RR σ τ) : 0 ≤ σ 46 3 ∧ σ 46 3 ≤ 1000 := h.2.2.2.2.2.2.2.1.2.2.1.2
theorem kh10_0 {σ τ : am_H} (h : RR σ τ) : 0 ≤ τ 63 6 ∧ τ 63 6 ≤ 8 := by
  rw [(cq_n h).1.1]; exact (cq_n h).2.1
theorem kh10_1 {σ τ : am_H} (h : RR σ τ) : 0 ≤ τ 63 7 ∧ τ 63 7 ≤ 20 := by
  rw [(cq_n h).1.2.1]; exact (cq_n h).2.2.1
theorem kh10_2 {σ τ : am_H} (h : RR σ τ) : MshV τ := cq_MshV h
theorem kh10_3 {σ τ : am_H} (h : RR σ τ) : 0 ≤ τ 63 5 ∧ τ 63 5 ≤ 40 := by
  rw [(cq_n h).1.2.2.2.2.2.1]; exact (cq_n h).2.2.2.2.2.2.1
theorem kh10_4 {σ τ : am_H} (h : RR σ τ) : ∀ n : Nat, (n : Int) < τ 63 7 → 0 ≤ τ 68 (5 * n + 2) ∧ τ 68 (5 * n + 2) ≤ 9 := cp_mdays h.2.2.2.1
theorem kh10_5 {σ τ : am_H} (h : RR σ τ) : 0 ≤ τ 63 20 ∧ τ 63 20 ≤ 30 := by
  rw [(cq_n h).1.2.2.1]; exact (cq_n h).2.2.2.1
theorem kh10_6 {σ τ : am_H} (h : RR σ τ) : 0 ≤ τ 63 11 ∧ τ 63 11 ≤ 120 := by
  rw [(cq_n h).1.2.2.2.2.1]; exact (cq_n h).2.2.2.2.2.1
theorem kh10_7 {σ τ : am_H} (h : RR σ τ) : MLaw τ := h.2.2.1.2.2.1
theorem kh10_8 {σ τ : am_H} (h : RR σ τ) : (∀ k, k < 12 → 1 ≤ τ 64 k ∧ τ 64 k ≤ 9) ∧ ∀ k : Nat, (k : Int) < τ 63 6 → 1 ≤ τ 64 (12 + k) ∧ τ 64 (12 + k) ≤ 9 := by
  refine ⟨fun k hk => ?_, fun k hk => ?_⟩
  · have q := h.1.2.1 k hk
    rw [q.1]; exact q.2
  · rw [(cq_n h).1.1] at hk
    have q := h.1.2.2.1 k hk
    rw [q.1]; exact q.2
theorem kh10_9 {σ τ : am_H} (h : RR σ τ) : 0 ≤ τ 63 9 ∧ τ 63 9 ≤ 48 := by
  rw [(cq_n h).1.2.2.2.1]; exact (cq_n h).2.2.2.2.1
theorem kh10_10 {σ τ : am_H} (h : RR σ τ) : MskV τ := kh10_8 h
theorem kh10_11 {σ τ : am_H} (h : RR σ τ) : MdeV τ := cp_MdeV h.2.2.2.1 (cq_n h).1.1
theorem kh10_12 {σ τ : am_H} (h : RR σ τ) : MasV τ := by
  intro k hk
  rw [(cq_n h).1.2.2.1] at hk
  have q := (cq_dia h).1 k hk
  rw [q.1.1, q.1.2.1, (cq_n h).1.2.1]; exact q.2
theorem kh10_13 {σ τ : am_H} (h : RR σ τ) : MGo τ := ⟨kh10_0 h, kh10_1 h, kh10_4 h, kh10_7 h, kh10_8 h, kh10_11 h, kh10_5 h, kh10_12 h⟩
theorem kh10_14 {σ τ : am_H} (h : RR σ τ) : MitV τ := cq_MitV h
theorem kh10_15 {σ τ : am_H} (h : RR σ τ) : 0 ≤ τ 63 30 ∧ τ 63 30 ≤ 1 := by
  have q := h.2.2.2.2.2.2.1.1
  omega
theorem kh10_16 {σ τ : am_H} (h : RR σ τ) : ∀ k : Nat, (k : Int) < τ 63 4 → 0 ≤ τ 65 k ∧ τ 65 k < 22 := by
  intro k hk
  rw [h.2.1.1.2.1] at hk
  have q := h.2.1.2 k hk
  have p := (cq_n h).2.1
  rw [q.1.1]
  have c := q.2.1
  unfold chg_ok at c
  unfold chg_at
  rcases c with c | c | c | c
  · rw [if_pos c.1]; omega
  · rw [if_neg (by omega), if_pos c.1]; omega
  · rw [if_neg (by omega), if_neg (by omega), if_pos c.1]; decide
  · rw [if_neg (by omega), if_neg (by omega), if_neg (by omega)]; decide
theorem kh10_17 {σ τ : am_H} (h : RR σ τ) : 0 ≤ τ 63 5 ∧ τ 63 5 ≤ τ 63 4 ∧ τ 63 4 ≤ 40 := by
  have q := h.2.1.1
  omega
theorem kh10_18 {σ τ : am_H} (h : RR σ τ) : 0 ≤ τ 63 39 ∧ τ 63 39 ≤ 50 := by
  rw [(cq_n h).1.2.2.2.2.2.2.1]; exact (cq_n h).2.2.2.2.2.2.2.1
theorem kh10_19 {σ τ : am_H} (h : RR σ τ) : ∀ j : Nat, (j : Int) < τ 63 39 → 0 ≤ τ 84 j ∧ τ 84 j ≤ 7 := by
  intro j hj
  rw [(cq_n h).1.2.2.2.2.2.2.1] at hj
  have q := h.2.2.2.2.2.2.2.1.2.1 j hj
  rw [q.1]; exact q.2
theorem kh10_20 {σ τ : am_H} (h : RR σ τ) : 0 ≤ τ 63 42 ∧ τ 63 42 ≤ 1000 := by
  have q := h.2.2.2.2.2.2.2.1.2.2.1
  omega
theorem kh10_21 {σ τ : am_H} (h : RR σ τ) : ∀ d : Nat, d < 6 → τ 86 d < 50 → τ 86 d < τ 63 39 := by
  intro d hd hq
  have s := cq_she h d hd
  rw [s.2.1] at hq ⊢
  rw [(cq_n h).1.2.2.2.2.2.2.1]
  by_cases e : 0 ≤ σ (51 + 2 * d) 2
  · rw [if_pos e] at hq; omega
  · rw [if_neg e]; exact s.1.1.2
