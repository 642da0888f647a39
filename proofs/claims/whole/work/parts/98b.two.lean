/-! the coupling: two tables -/
theorem am_up_r {σ : am_H} {c k j : Nat} {v : Int} : am_up σ c k v c j = if j = k then v else σ c j := by rw [am_up_at]
/-- the relation of two tables looks at the class's cells of one and the reference's of the other -/
theorem RR_mix {σ τ σ' τ' : am_H} (hs : ∀ c k : Nat, c < 63 → σ' c k = σ c k) (ht : ∀ c k : Nat, 63 ≤ c → τ' c k = τ c k) (h : RR σ τ) : RR σ' τ' := RR_of (fun c k hc _ _ _ _ => hs c k hc) (fun c k hc _ _ _ _ _ _ => ht c k hc) h
/-- people may come, debts stay -/
theorem RDeb_ppl {σ τ σ' τ' : am_H} {b f d : Nat} (hp : σ 1 2 ≤ σ' 1 2) (hs : ∀ c k : Nat, (b < c ∧ c ≤ b + 5) ∨ (c = b ∧ k = 5) → σ' c k = σ c k) (ht : ∀ c k : Nat, c = d ∨ (c = 63 ∧ k = f) → τ' c k = τ c k) (h : RDeb σ τ b f d) : RDeb σ' τ' b f d := by
  unfold RDeb
  rw [hs b 5 (by omega), ht 63 f (by omega)]
  refine ⟨h.1, fun n hn => ?_⟩
  rw [hs (b + 1) n (by omega), hs (b + 2) n (by omega), hs (b + 3) n (by omega), hs (b + 4) n (by omega), hs (b + 5) n (by omega), ht d _ (Or.inl rfl), ht d _ (Or.inl rfl), ht d _ (Or.inl rfl), ht d _ (Or.inl rfl), ht d _ (Or.inl rfl)]
  have q := h.2 n hn
  exact ⟨q.1, ⟨q.2.1.1, by omega⟩, ⟨q.2.2.1.1, by omega⟩, q.2.2.2⟩
theorem cq_ok {p p' w n v : Int} (hp : p ≤ p') (h : chg_ok p w n v) : chg_ok p' w n v := by
  unfold chg_ok at *; omega
/-- what the relation says of the counts -/
theorem cq_n {σ τ : am_H} (h : RR σ τ) : (τ 63 6 = σ 1 2 ∧ τ 63 7 = σ 16 5 ∧ τ 63 20 = σ 22 6 ∧ τ 63 9 = σ 22 7 ∧ τ 63 11 = σ 9 6 ∧ τ 63 5 = σ 4 4 ∧ τ 63 39 = σ 46 2 ∧ τ 63 42 = σ 46 3) ∧ (0 ≤ σ 1 2 ∧ σ 1 2 ≤ 8) ∧ (0 ≤ σ 16 5 ∧ σ 16 5 ≤ 20) ∧ (0 ≤ σ 22 6 ∧ σ 22 6 ≤ 30) ∧ (0 ≤ σ 22 7 ∧ σ 22 7 ≤ 48) ∧ (0 ≤ σ 9 6 ∧ σ 9 6 ≤ 120) ∧ (0 ≤ σ 4 4 ∧ σ 4 4 ≤ 40) ∧ (0 ≤ σ 46 2 ∧ σ 46 2 ≤ 50) ∧ 0 ≤ σ 46 3 := by
  obtain ⟨g1, g2, g3, g4, g5, g6, g7, g8, g9, g10⟩ := h
  exact ⟨⟨g1.1.1, g4.1.1, g5.1.1, g5.2.1.1, g3.1.1.1, g2.1.1, g8.1.1, g8.2.2.1.1⟩, g1.1.2, g4.1.2, g5.1.2, g5.2.1.2, g3.1.1.2, ⟨g2.1.2.2.1, by have := g2.1; omega⟩, g8.1.2, g8.2.2.1.2.1⟩
theorem cq_by {σ τ : am_H} (h : RDeb σ τ 16 7 68) (p : Int) : md_by τ p = c_by σ p := by
  have hd := cp_deb h
  unfold md_by c_by
  rw [hd.1.1]
  refine am_sum_congr _ (fun k hk => ?_)
  have q := (hd.2 k (by omega)).1
  rw [Nat.add_zero, q.1, q.2.2.1]
theorem cq_to {σ τ : am_H} (h : RDeb σ τ 16 7 68) (p : Int) : md_to τ p = c_to σ p := by
  have hd := cp_deb h
  unfold md_to c_to
  rw [hd.1.1]
  refine am_sum_congr _ (fun k hk => ?_)
  have q := (hd.2 k (by omega)).1
  rw [q.2.1, q.2.2.1]
theorem cq_pair {σ τ : am_H} (h : RR σ τ) (a : Int) : md_pair τ a = c_pair σ a := by
  have e := (cq_n h).1.1
  unfold md_pair c_pair
  rw [e]
theorem cq_dia {σ τ : am_H} (h : RR σ τ) : (∀ k : Nat, (k : Int) < σ 22 6 → (τ 72 (3 * k) = σ 23 k ∧ τ 72 (3 * k + 1) = σ 24 k ∧ τ 72 (3 * k + 2) = σ 25 k) ∧ (0 ≤ σ 23 k ∧ σ 23 k < σ 16 5) ∧ 0 ≤ σ 24 k ∧ σ 24 k ≤ 47) ∧
  (∀ p : Nat, p < 8 → τ 73 p = σ 28 p) ∧ (∀ k : Nat, (k : Int) < 8 * σ 22 7 → τ 74 k = σ 26 k ∧ τ 75 k = σ 27 k) ∧ (∀ k : Nat, 8 * σ 22 7 ≤ (k : Int) → k < 384 → σ 26 k = -2 ∧ σ 27 k = -2) := by
  have g5 : RDia σ τ 22 16 20 9 72 73 74 75 := h.2.2.2.2.1
  exact g5.2.2
theorem cq_of {σ τ : am_H} (h : RR σ τ) (a b : Int) : md_of τ a b = c_of σ a b := by
  have n := cq_n h
  have d := cq_dia h
  obtain ⟨g1, g2, g3, g4, g5, g6, g7, g8, g9, g10⟩ := h
  have hd := cp_deb g4
  unfold md_of c_of
  rw [n.1.2.1, n.1.2.2.1]
  by_cases e1 : 0 ≤ b ∧ b ≤ 4
  · rw [if_pos e1, if_pos e1]
    by_cases f : 0 ≤ a ∧ a < σ 16 5
    · rw [if_pos f, if_pos f]
      have q := (hd.2 a.toNat (by omega)).1
      unfold c_ofDebt
      rcases (show b = 0 ∨ b = 1 ∨ b = 2 ∨ b = 3 ∨ b = 4 by omega) with e | e | e | e | e <;> subst e
      · rw [if_pos rfl, show (5 * a + 0).toNat = 5 * a.toNat by omega]; exact q.1
      · rw [if_neg (by decide), if_pos rfl, show (5 * a + 1).toNat = 5 * a.toNat + 1 by omega]; exact q.2.1
      · rw [if_neg (by decide), if_neg (by decide), if_pos rfl, show (5 * a + 2).toNat = 5 * a.toNat + 2 by omega]; exact q.2.2.1
      · rw [if_neg (by decide), if_neg (by decide), if_neg (by decide), if_pos rfl, show (5 * a + 3).toNat = 5 * a.toNat + 3 by omega]; exact q.2.2.2.1
      · rw [if_neg (by decide), if_neg (by decide), if_neg (by decide), if_neg (by decide), show (5 * a + 4).toNat = 5 * a.toNat + 4 by omega]; exact q.2.2.2.2
    · rw [if_neg f, if_neg f]
  · rw [if_neg e1, if_neg e1]
    by_cases e2 : 10 ≤ b ∧ b ≤ 13
    · rw [if_pos e2, if_pos e2]
      rw [n.1.1]
      by_cases f : 0 ≤ a ∧ a < σ 1 2
      · rw [if_pos f, if_pos f]
        unfold md_ofP c_ofPers
        rw [cq_by g4, cq_to g4, show ((a.toNat : Nat) : Int) = a by omega, show (12 + a).toNat = 12 + a.toNat by omega, (g1.2.2.1 a.toNat (by omega)).1, d.2.1 a.toNat (by omega)]
      · rw [if_neg f, if_neg f]
    · rw [if_neg e2, if_neg e2]
      by_cases e3 : b = 30
      · rw [if_neg (show ¬ (40 ≤ b ∧ b ≤ 42) by omega), if_neg (show ¬ b = 20 by omega), if_pos e3, if_pos e3, cp_owed g4]
        unfold md_pair c_pair
        rw [n.1.1]
      · rw [if_neg e3, if_neg e3]
        by_cases e4 : 40 ≤ b ∧ b ≤ 42
        · rw [if_pos e4, if_pos e4]
          by_cases f : 0 ≤ a ∧ a < σ 22 6
          · rw [if_pos f, if_pos f]
            have q := (d.1 a.toNat (by omega)).1
            unfold c_ofAsk
            rcases (show b = 40 ∨ b = 41 ∨ b = 42 by omega) with e | e | e <;> subst e
            · rw [if_pos rfl, show (3 * a + 40 - 40).toNat = 3 * a.toNat by omega]; exact q.1
            · rw [if_neg (by decide), if_pos rfl, show (3 * a + 41 - 40).toNat = 3 * a.toNat + 1 by omega]; exact q.2.1
            · rw [show (3 * a + 42 - 40).toNat = 3 * a.toNat + 2 by omega, q.2.2]
              rcases (g6 a.toNat (by omega)).1 with e | e
              · rw [e, if_neg (show ¬ (42 : Int) = 40 by decide), if_neg (show ¬ (42 : Int) = 41 by decide), if_neg (show ¬ (0 : Int) ≠ 0 by decide)]
              · rw [e, if_neg (show ¬ (42 : Int) = 40 by decide), if_neg (show ¬ (42 : Int) = 41 by decide), if_pos (show (1 : Int) ≠ 0 by decide)]
          · rw [if_neg f, if_neg f]
        · rw [if_neg e4, if_neg e4]
          by_cases e5 : b = 20
          · rw [if_pos e5, if_pos e5]
            by_cases f : 0 ≤ a ∧ a ≤ 11
            · rw [if_pos f, if_pos f]; exact (g1.2.1 a.toNat (by omega)).1
            · rw [if_neg f, if_neg f]
          · rw [if_neg e5, if_neg e5]
            by_cases e6 : b = 50 ∨ b = 51
            · rw [if_pos e6, if_pos e6]
              by_cases f : a = 0
              · rw [if_pos f, if_pos f]
                rcases e6 with e | e <;> subst e
                · rw [if_pos rfl]; exact g1.2.2.2.1.1
                · rw [if_neg (by decide)]; exact g1.2.2.2.2.1
              · rw [if_neg f, if_neg f]
            · rw [if_neg e6, if_neg e6]
theorem cq_waits {σ τ : am_H} (h : RR σ τ) : am_sum (fun n : Nat => if τ 72 (3 * n + 2) = 0 then 1 else 0) (τ 63 20).toNat = am_sum (fun n : Nat => if σ 25 n = 0 then 1 else 0) (σ 22 6).toNat := by
  rw [(cq_n h).1.2.2.1]
  refine am_sum_congr _ (fun k hk => ?_)
  show (if τ 72 (3 * k + 2) = 0 then (1 : Int) else 0) = if σ 25 k = 0 then 1 else 0
  rw [((cq_dia h).1 k (by omega)).1.2.2]
theorem cq_led {σ τ : am_H} (h : RR σ τ) (a b : Int) : (if 0 ≤ a ∧ a / 10 < τ 63 9 ∧ (0 ≤ a % 10 ∧ a % 10 < τ 63 6) ∧ 0 ≤ b ∧ b ≤ 1 then (if b = 0 then τ 74 (8 * (a / 10) + a % 10).toNat else τ 75 (8 * (a / 10) + a % 10).toNat) else -1) = (if 0 ≤ a ∧ a / 10 < σ 22 7 ∧ (0 ≤ a % 10 ∧ a % 10 < σ 1 2) ∧ 0 ≤ b ∧ b ≤ 1 then (if b = 0 then σ 26 (a / 10 * 8 + a % 10).toNat else σ 27 (a / 10 * 8 + a % 10).toNat) else -1) := by
  have n := cq_n h
  rw [n.1.2.2.2.1, n.1.1]
  by_cases e : 0 ≤ a ∧ a / 10 < σ 22 7 ∧ (0 ≤ a % 10 ∧ a % 10 < σ 1 2) ∧ 0 ≤ b ∧ b ≤ 1
  · rw [if_pos e, if_pos e, show (8 * (a / 10) + a % 10).toNat = (a / 10 * 8 + a % 10).toNat by omega]
    have q := (cq_dia h).2.2.1 (a / 10 * 8 + a % 10).toNat (by omega)
    rw [q.1, q.2]
  · rw [if_neg e, if_neg e]
theorem cq_balance {σ τ : am_H} (h : RR σ τ) (a : Int) : (if 0 ≤ a ∧ a < τ 63 6 then md_to τ a - md_by τ a else -2000000000) = (if 0 ≤ a ∧ a < σ 1 2 then c_to σ a - c_by σ a else -2000000000) := by
  rw [(cq_n h).1.1, cq_by h.2.2.2.1, cq_to h.2.2.2.1]
theorem cq_free {σ τ : am_H} (h : RR σ τ) (a b : Int) : (if (0 ≤ a ∧ a < τ 63 6) ∧ 0 ≤ b ∧ b ≤ 47 then am_sum (fun n : Nat => if (τ 63 9 + 3 + (n : Int)) % 4 = 3 then 0 else 1) (b + 1 - (τ 63 9 + 3)).toNat - md_by τ a else -2000000000) = (if (0 ≤ a ∧ a < σ 1 2) ∧ 0 ≤ b ∧ b ≤ 47 then am_sum (fun n : Nat => if (σ 22 7 + 3 + (n : Int)) % 4 = 3 then 0 else 1) (b + 1 - (σ 22 7 + 3)).toNat - c_by σ a else -2000000000) := by
  rw [(cq_n h).1.1, (cq_n h).1.2.2.2.1, cq_by h.2.2.2.1]
theorem cq_count {σ τ : am_H} (h : RR σ τ) (a : Int) : (if a = 0 then τ 63 6 else if a = 1 then τ 63 7 else if a = 2 then am_sum (fun n : Nat => if 0 < τ 68 (5 * n + 2) then 1 else 0) (τ 63 7).toNat else if a = 3 then τ 63 20 else if a = 4 then τ 63 9 else if a = 5 then τ 63 11 else if a = 6 then τ 63 5 else if a = 7 then τ 63 39 else if a = 8 then τ 63 42 else -1) =
    (if a = 0 then σ 1 2 else if a = 1 then σ 16 5 else if a = 2 then am_sum (fun n : Nat => if 0 < σ 19 n then 1 else 0) (σ 16 5).toNat else if a = 3 then σ 22 6 else if a = 4 then σ 22 7 else if a = 5 then σ 9 6 else if a = 6 then σ 4 4 else if a = 7 then σ 46 2 else if a = 8 then σ 46 3 else -1) := by
  have n := (cq_n h).1
  have e : am_sum (fun n : Nat => if 0 < τ 68 (5 * n + 2) then 1 else 0) (τ 63 7).toNat = am_sum (fun n : Nat => if 0 < σ 19 n then 1 else 0) (σ 16 5).toNat := by
    rw [n.2.1]
    refine am_sum_congr _ (fun k hk => ?_)
    show (if 0 < τ 68 (5 * k + 2) then (1 : Int) else 0) = if 0 < σ 19 k then 1 else 0
    rw [((cp_deb h.2.2.2.1).2 k (by omega)).1.2.2.1]
  rw [e, n.1, n.2.1, n.2.2.1, n.2.2.2.1, n.2.2.2.2.1, n.2.2.2.2.2.1, n.2.2.2.2.2.2.1, n.2.2.2.2.2.2.2]
/-- shelves -/
theorem cq_she {σ τ : am_H} (h : RR σ τ) : ∀ d : Nat, d < 6 → ((-1 ≤ σ (51 + 2 * d) 1 ∧ σ (51 + 2 * d) 1 < σ 46 2) ∧ (-1 ≤ σ (51 + 2 * d) 2 ∧ σ (51 + 2 * d) 2 ≤ 4) ∧ (0 ≤ σ (51 + 2 * d) 3 ∧ σ (51 + 2 * d) 3 ≤ 60) ∧ (σ (51 + 2 * d) 2 = -1 → σ (51 + 2 * d) 3 = 0) ∧ (0 ≤ σ (51 + 2 * d) 2 → σ (51 + 2 * d) 1 = -1) ∧ ∀ j : Nat, (j : Int) < σ (51 + 2 * d) 3 → σ (51 + 2 * d) 2 = 0 ∨ σ (51 + 2 * d) 2 = 1 → -32768 ≤ σ (52 + 2 * d) j ∧ σ (52 + 2 * d) j ≤ 32767) ∧ τ 86 d = (if 0 ≤ σ (51 + 2 * d) 2 then 50 + σ (51 + 2 * d) 2 else σ (51 + 2 * d) 1) ∧ τ 87 d = σ (51 + 2 * d) 3 ∧ ∀ j : Nat, (j : Int) < σ (51 + 2 * d) 3 → τ 88 (60 * d + j) = σ (52 + 2 * d) j := fun d hd => by
  have g9 : RShe σ τ := h.2.2.2.2.2.2.2.2.1
  exact ⟨g9.1 d hd, g9.2 d hd⟩
theorem cq_MshV {σ τ : am_H} (h : RR σ τ) : MshV τ := fun d hd => by
  have s := cq_she h d hd
  have n := (cq_n h).2.2.2.2.2.2.2.1
  rw [s.2.1, s.2.2.1]
  by_cases e : 0 ≤ σ (51 + 2 * d) 2
  · rw [if_pos e]; exact ⟨by omega, s.1.2.2.1⟩
  · rw [if_neg e]; exact ⟨by omega, s.1.2.2.1⟩
theorem cq_MitV {σ τ : am_H} (h : RR σ τ) : MitV τ := fun d j hd hj hk => by
  have s := cq_she h d hd
  rw [s.2.2.1] at hj
  rw [s.2.1] at hk
  rw [s.2.2.2 j hj]
  refine s.1.2.2.2.2.2 j hj ?_
  have n := (cq_n h).2.2.2.2.2.2.2.1
  by_cases e : 0 ≤ σ (51 + 2 * d) 2
  · rw [if_pos e] at hk; omega
  · rw [if_neg e] at hk; omega
theorem cq_refusal {σ τ : am_H} (h : RR σ τ) (a i : Int) : md_refusal τ a i = c_refusal σ a i := by
  unfold md_refusal c_refusal
  by_cases e : 0 ≤ a ∧ a ≤ 5
  · have e' : ¬ ¬ (0 ≤ a ∧ a ≤ 5) := fun q => q e
    rw [if_neg e', if_neg e']
    have s := cq_she h a.toNat (by omega)
    have n := (cq_n h).2.2.2.2.2.2.2.1
    rw [s.2.1, s.2.2.1]
    by_cases e2 : 0 ≤ σ (51 + 2 * a.toNat) 2
    · have e2' : ¬ ¬ 0 ≤ σ (51 + 2 * a.toNat) 2 := fun q => q e2
      rw [if_pos e2, if_neg e2', if_neg (show ¬ (50 + σ (51 + 2 * a.toNat) 2 < 0) by omega), if_neg (show ¬ (50 + σ (51 + 2 * a.toNat) 2 < 50) by omega), if_neg (show ¬ (σ (51 + 2 * a.toNat) 1 < 0 ∧ σ (51 + 2 * a.toNat) 2 < 0) by omega)]
    · rw [if_neg e2, if_pos (show ¬ 0 ≤ σ (51 + 2 * a.toNat) 2 from e2)]
      by_cases e3 : σ (51 + 2 * a.toNat) 1 < 0
      · rw [if_pos e3, if_pos (show σ (51 + 2 * a.toNat) 1 < 0 ∧ σ (51 + 2 * a.toNat) 2 < 0 by omega)]
      · rw [if_neg e3, if_pos (show σ (51 + 2 * a.toNat) 1 < 50 by omega), if_neg (show ¬ (σ (51 + 2 * a.toNat) 1 < 0 ∧ σ (51 + 2 * a.toNat) 2 < 0) by omega)]
  · rw [if_pos e, if_pos e]
theorem cq_element {σ τ : am_H} (h : RR σ τ) (a i : Int) : (if md_refusal τ a i ≠ 0 then -9223372036854775808 else τ 88 (60 * a + i).toNat) = (if c_refusal σ a i ≠ 0 then -9223372036854775808 else σ (52 + 2 * a.toNat) i.toNat) := by
  rw [cq_refusal h]
  by_cases e : c_refusal σ a i ≠ 0
  · rw [if_pos e, if_pos e]
  · rw [if_neg e, if_neg e]
    have e0 : c_refusal σ a i = 0 := Decidable.of_not_not e
    unfold c_refusal at e0
    by_cases e1 : 0 ≤ a ∧ a ≤ 5
    · have e1' : ¬ ¬ (0 ≤ a ∧ a ≤ 5) := fun q => q e1
      rw [if_neg e1'] at e0
      have s := cq_she h a.toNat (by omega)
      have e2 : 0 ≤ i ∧ i < σ (51 + 2 * a.toNat) 3 := by
        by_cases q : 0 ≤ i ∧ i < σ (51 + 2 * a.toNat) 3
        · exact q
        · rw [if_neg q] at e0
          by_cases q1 : σ (51 + 2 * a.toNat) 1 < 0 ∧ σ (51 + 2 * a.toNat) 2 < 0
          · rw [if_pos q1] at e0; omega
          · rw [if_neg q1] at e0
            by_cases q2 : ¬ 0 ≤ σ (51 + 2 * a.toNat) 2
            · rw [if_pos q2] at e0; omega
            · rw [if_neg q2] at e0; omega
      rw [show (60 * a + i).toNat = 60 * a.toNat + i.toNat by omega]
      exact s.2.2.2 i.toNat (by omega)
    · rw [if_pos e1] at e0; omega
