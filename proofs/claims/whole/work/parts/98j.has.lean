/-! the coupling: who has whom, the best day, books -/
theorem RR_fr {σ τ σ' τ' : am_H} (h1 : c_fr σ σ') (h2 : md_fr τ τ') (h : RR σ τ) : RR σ' τ' :=
  RR_of (fun c k hc _ h3 _ _ => h1 c k (by omega) (by omega)) (fun c k hc h71 _ _ _ _ h63 => h2 c k h71 (by omega)) h
theorem cq_sel {σ τ : am_H} (hS : RSet σ τ) (hL : RLaw σ τ) (hD : RDeb σ τ 16 7 68) (hA : ∀ k : Nat, (k : Int) < σ 22 6 → (τ 72 (3 * k) = σ 23 k ∧ τ 72 (3 * k + 1) = σ 24 k ∧ τ 72 (3 * k + 2) = σ 25 k) ∧ (0 ≤ σ 23 k ∧ σ 23 k < σ 16 5) ∧ 0 ≤ σ 24 k ∧ σ 24 k ≤ 47) (p day : Int) : md_sel τ p day (σ 22 6).toNat = c_sel σ p day (σ 22 6).toNat := by
  refine as_sel_congr _ (fun k hk => ?_)
  have a := hA k (by omega)
  have q := (cp_deb hD).2 (σ 23 k).toNat (by omega)
  have hP : md_P τ p day k = c_P σ p day k := by
    unfold md_P c_P
    rw [a.1.1, a.1.2.1, a.1.2.2, q.1.1, q.1.2.2.1]
    refine decide_eq_decide.mpr ⟨fun z => ⟨z.1, z.2.1, ⟨a.2.1.2, z.2.2.1⟩, z.2.2.2⟩, fun z => ⟨z.1, z.2.1, z.2.2.1.2, z.2.2.2⟩⟩
  refine ⟨hP, fun hp => ?_⟩
  rw [hP] at hp
  unfold c_P at hp
  have hp := of_decide_eq_true hp
  unfold md_V c_V md_wei c_merit
  rw [a.1.1, a.1.2.1, q.1.1, q.1.2.1, hS.2.2.2.1.1, hp.1, cp_owed hD, cp_wv hS hL q.2.1 (by rw [← hp.1]; exact a.2.2)]
  have r := hS.2.2.2.1.2
  by_cases e0 : σ 1 3 = 0
  · rw [if_pos e0, if_neg (by omega), if_neg (by omega)]
  · rw [if_neg e0]
    by_cases e1 : σ 1 3 = 1
    · rw [if_pos e1, if_pos e1]
    · rw [if_neg e1, if_neg e1, if_pos (by omega)]
theorem cq_selR {σ τ : am_H} (h : RR σ τ) (p day : Int) : md_sel τ p day (τ 63 20).toNat = c_sel σ p day (σ 22 6).toNat := by
  rw [(cq_n h).1.2.2.1]
  exact cq_sel h.1 h.2.2.1 h.2.2.2.1 (cq_dia h).1 p day
theorem cq_has {σ τ : am_H} (h : RR σ τ) (a b : Int) : (if (0 ≤ a ∧ a < τ 63 6) ∧ τ 63 9 ≤ b ∧ b ≤ 47 then (if (md_sel τ a b (τ 63 20).toNat).1 < 0 then -2 else τ 68 (5 * (τ 72 (3 * (md_sel τ a b (τ 63 20).toNat).1.toNat)).toNat + 1)) else -1) = (if (0 ≤ a ∧ a < σ 1 2) ∧ σ 22 7 ≤ b ∧ b ≤ 47 then (if (c_sel σ a b (σ 22 6).toNat).1 < 0 then -2 else σ 18 (σ 23 (c_sel σ a b (σ 22 6).toNat).1.toNat).toNat) else -1) := by
  have n := cq_n h
  rw [cq_selR h, n.1.1, n.1.2.2.2.1]
  by_cases e : (0 ≤ a ∧ a < σ 1 2) ∧ σ 22 7 ≤ b ∧ b ≤ 47
  · rw [if_pos e, if_pos e]
    have bd := as_sel_bd (c_P σ a b) (c_V σ b) (σ 22 6).toNat
    have hs : (c_sel σ a b (σ 22 6).toNat).1 < ((σ 22 6).toNat : Int) := bd.2.1
    generalize (c_sel σ a b (σ 22 6).toNat).1 = s at *
    by_cases e2 : s < 0
    · rw [if_pos e2, if_pos e2]
    · rw [if_neg e2, if_neg e2]
      have k := (cq_dia h).1 s.toNat (by omega)
      rw [k.1.1]
      exact ((cp_deb h.2.2.2.1).2 (σ 23 s.toNat).toNat (by omega)).1.2.1
  · rw [if_neg e, if_neg e]
theorem cq_worth {σ τ : am_H} (h : RR σ τ) (a b : Int) : (if md_pair τ a ∧ 0 ≤ b ∧ b ≤ 47 then md_wv τ (a / 10) (a % 10) b else -1) = (if c_pair σ a ∧ 0 ≤ b ∧ b ≤ 47 then c_wv σ (a / 10) (a % 10) b else -1) := by
  have n := cq_n h
  unfold md_pair c_pair
  rw [n.1.1]
  by_cases e : (0 ≤ a ∧ (0 ≤ a / 10 ∧ a / 10 < σ 1 2) ∧ (0 ≤ a % 10 ∧ a % 10 < σ 1 2) ∧ a / 10 ≠ a % 10) ∧ 0 ≤ b ∧ b ≤ 47
  · rw [if_pos e, if_pos e]; exact cp_wv h.1 h.2.2.1 e.1.2.1 e.2
  · rw [if_neg e, if_neg e]
theorem cq_bestDay {σ τ : am_H} (h : RR σ τ) (a b : Int) : (if (0 ≤ a ∧ a < τ 63 7) ∧ 0 ≤ b ∧ b ≤ 1 then (if 0 < τ 68 (5 * a.toNat + 2) then (if b = 0 then (bs_f (fun d => md_wv τ (τ 68 (5 * a.toNat)) (τ 68 (5 * a.toNat + 1)) d) (τ 63 9 + 3) (45 - τ 63 9).toNat).1 else (bs_f (fun d => md_wv τ (τ 68 (5 * a.toNat)) (τ 68 (5 * a.toNat + 1)) d) (τ 63 9 + 3) (45 - τ 63 9).toNat).2) else -5) else -1) =
    (if (0 ≤ a ∧ a < σ 16 5) ∧ 0 ≤ b ∧ b ≤ 1 then (if 0 < σ 19 a.toNat then (if b = 0 then (bs_f (fun d => c_wv σ (σ 17 a.toNat) (σ 18 a.toNat) d) (σ 22 7 + 3) (45 - σ 22 7).toNat).1 else (bs_f (fun d => c_wv σ (σ 17 a.toNat) (σ 18 a.toNat) d) (σ 22 7 + 3) (45 - σ 22 7).toNat).2) else -5) else -1) := by
  have n := cq_n h
  rw [n.1.2.1, n.1.2.2.2.1]
  by_cases e : (0 ≤ a ∧ a < σ 16 5) ∧ 0 ≤ b ∧ b ≤ 1
  · rw [if_pos e, if_pos e]
    have q := (cp_deb h.2.2.2.1).2 a.toNat (by omega)
    rw [q.1.2.2.1, q.1.1, q.1.2.1]
    rw [bs_f_congr (W := fun d => md_wv τ (σ 17 a.toNat) (σ 18 a.toNat) d) (W' := fun d => c_wv σ (σ 17 a.toNat) (σ 18 a.toNat) d) (d0 := σ 22 7 + 3) (45 - σ 22 7).toNat (fun k hk => cp_wv h.1 h.2.2.1 q.2.1 (by have := n.2.2.2.2.1; omega))]
  · rw [if_neg e, if_neg e]
/-- books -/
theorem cq_so {σ τ : am_H} {d k : Nat} (h : RR σ τ) (hd : d < 6) : md_so τ d k ↔ c_so σ d k := by
  have g := cq_she h d hd
  have n := cq_n h
  unfold md_so c_so md_isSo
  rw [g.2.2.1]
  by_cases e : 3 * (k : Int) + 2 ≥ σ (51 + 2 * d) 3
  · exact ⟨fun q => absurd e q.1, fun q => absurd e q.1⟩
  · have q0 := g.2.2.2 (3 * k) (by omega)
    have q1 := g.2.2.2 (3 * k + 1) (by omega)
    have q2 := g.2.2.2 (3 * k + 2) (by omega)
    rw [← Nat.add_assoc] at q1 q2
    rw [q0, q1, q2, n.1.1, cp_owed h.2.2.2.1]
theorem cq_book {σ τ : am_H} {a : Int} (h : RR σ τ) : (¬ (0 ≤ a ∧ a ≤ 5) ∧ md_book τ a = -1) ∨ ((0 ≤ a ∧ a ≤ 5) ∧ ((σ (51 + 2 * a.toNat) 1 < 0 ∧ σ (51 + 2 * a.toNat) 2 < 0 ∧ md_book τ a = -11) ∨ (¬ (σ (51 + 2 * a.toNat) 1 < 0 ∧ σ (51 + 2 * a.toNat) 2 < 0) ∧ σ (51 + 2 * a.toNat) 2 ≠ 1 ∧ md_book τ a = -12) ∨ (¬ (σ (51 + 2 * a.toNat) 1 < 0 ∧ σ (51 + 2 * a.toNat) 2 < 0) ∧ σ (51 + 2 * a.toNat) 2 = 1 ∧ md_book τ a = 1))) := by
  unfold md_book
  have n := (cq_n h).2.2.2.2.2.2.2.1
  by_cases e : 0 ≤ a ∧ a ≤ 5
  · have e' : ¬ ¬ (0 ≤ a ∧ a ≤ 5) := fun q => q e
    rw [if_neg e']
    have g := cq_she h a.toNat (by omega)
    rw [g.2.1]
    refine Or.inr ⟨e, ?_⟩
    by_cases e2 : 0 ≤ σ (51 + 2 * a.toNat) 2
    · rw [if_pos e2, if_neg (show ¬ (50 + σ (51 + 2 * a.toNat) 2 < 0) by omega)]
      by_cases e3 : σ (51 + 2 * a.toNat) 2 = 1
      · rw [if_pos (by omega)]; exact Or.inr (Or.inr ⟨by omega, e3, rfl⟩)
      · rw [if_neg (by omega)]; exact Or.inr (Or.inl ⟨by omega, e3, rfl⟩)
    · rw [if_neg e2]
      by_cases e3 : σ (51 + 2 * a.toNat) 1 < 0
      · rw [if_pos e3]; exact Or.inl ⟨e3, by omega, rfl⟩
      · rw [if_neg e3, if_neg (by omega)]; exact Or.inr (Or.inl ⟨by omega, by omega, rfl⟩)
  · rw [if_pos e]; exact Or.inl ⟨e, rfl⟩
theorem cq_wet {σ τ : am_H} (h : RR σ τ) (a b : Int) : (if (md_pair τ b ∧ 0 ≤ md_book τ a) then md_owed τ (b / 10) (b % 10) - am_sum (md_wetf τ a.toNat (b / 10) (b % 10)) (τ 87 a.toNat / 3).toNat else -2000000000) = (if ((0 ≤ a ∧ a ≤ 5) ∧ c_pair σ b ∧ σ (51 + 2 * a.toNat) 2 = 1) then c_owed σ (b / 10) (b % 10) - am_sum (c_wetf σ a.toNat (b / 10) (b % 10)) (σ (51 + 2 * a.toNat) 3 / 3).toNat else -2000000000) := by
  have n := cq_n h
  have hp := cq_pair h b
  by_cases e : (0 ≤ a ∧ a ≤ 5) ∧ c_pair σ b ∧ σ (51 + 2 * a.toNat) 2 = 1
  · have g := cq_she h a.toNat (by omega)
    have hb : md_book τ a = 1 := by
      rcases cq_book (a := a) h with ⟨q, -⟩ | ⟨-, ⟨-, q, -⟩ | ⟨-, q, -⟩ | ⟨-, -, q⟩⟩
      · exact absurd e.1 q
      · omega
      · exact absurd e.2.2 q
      · exact q
    rw [if_pos e, if_pos ⟨by rw [hp]; exact e.2.1, by omega⟩, cp_owed h.2.2.2.1, g.2.2.1]
    have hs : am_sum (md_wetf τ a.toNat (b / 10) (b % 10)) (σ (51 + 2 * a.toNat) 3 / 3).toNat = am_sum (c_wetf σ a.toNat (b / 10) (b % 10)) (σ (51 + 2 * a.toNat) 3 / 3).toNat := by
      refine am_sum_congr _ (fun k hk => ?_)
      unfold md_wetf c_wetf
      have q0 := g.2.2.2 (3 * k) (by omega)
      have q1 := g.2.2.2 (3 * k + 1) (by omega)
      have q2 := g.2.2.2 (3 * k + 2) (by omega)
      rw [← Nat.add_assoc] at q1 q2
      rw [q0, q1, q2]
    rw [hs]
  · rw [if_neg e, if_neg]
    intro q
    rw [hp] at q
    rcases cq_book (a := a) h with ⟨q2, q3⟩ | ⟨q1, ⟨-, -, q2⟩ | ⟨-, -, q2⟩ | ⟨-, q3, -⟩⟩
    · omega
    · omega
    · omega
    · exact e ⟨q1, q.1, q3⟩
