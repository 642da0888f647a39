/-! the coupling: people, debts, asks, the tape -/
theorem cq_person {σ τ : am_H} {a : Int} (h : RR σ τ) (ha : 1 ≤ a ∧ a ≤ 9) (hp : σ 1 2 < 8) : RR (set_add σ a) (md_person τ a) := by
  have n := cq_n h
  have hs : ∀ c k : Nat, c ≠ 3 ∧ (c ≠ 1 ∨ k ≠ 2) → set_add σ a c k = σ c k := fun c k hc => by unfold set_add; rw [am_up_k (by omega), am_up_k (by omega)]
  have ht : ∀ c k : Nat, c ≠ 64 ∧ (c ≠ 63 ∨ k ≠ 6) → md_person τ a c k = τ c k := fun c k hc => by unfold md_person; rw [am_up_k (by omega), am_up_k (by omega)]
  have e12 : set_add σ a 1 2 = σ 1 2 + 1 := by unfold set_add; rw [am_up_eq]
  have e3 : ∀ k : Nat, set_add σ a 3 k = if k = (σ 1 2).toNat then a else σ 3 k := fun k => by unfold set_add; rw [am_up_k (by omega), am_up_r]
  have t6 : md_person τ a 63 6 = σ 1 2 + 1 := by unfold md_person; rw [am_up_eq, n.1.1]
  have t64 : ∀ k : Nat, md_person τ a 64 k = if k = 12 + (σ 1 2).toNat then a else τ 64 k := fun k => by unfold md_person; rw [am_up_k (by omega), am_up_r, n.1.1, show (12 + σ 1 2).toNat = 12 + (σ 1 2).toNat by omega]
  generalize set_add σ a = σ' at *
  generalize md_person τ a = τ' at *
  obtain ⟨g1, g2, g3, g4, g5, g6, g7, g8, g9, g10⟩ := h
  refine ⟨?_,
    ?_,
    RLaw_of (fun c k hc => hs c k (by omega)) (fun c k hc => ht c k (by omega)) g3,
    RDeb_ppl (by omega) (fun c k hc => hs c k (by omega)) (fun c k hc => ht c k (by omega)) g4,
    RDia_of (fun c k hc => hs c k (by omega)) (fun c k hc => ht c k (by omega)) g5,
    RFlg_of (fun c k hc => hs c k (by omega)) g6,
    ⟨by rw [hs 0 11 (by omega), ht 63 30 (by omega)]; exact g7.1, fun q => ?_⟩,
    RBod_of (fun c k hc => hs c k (by omega)) (fun c k hc => ht c k (by omega)) g8,
    RShe_of (fun c k hc => hs c k (by omega)) (fun c k hc => ht c k (by omega)) g9,
    ⟨(hs 44 0 (by omega)).trans g10.1, (hs 45 0 (by omega)).trans g10.2⟩⟩
  · refine ⟨⟨t6.trans e12.symm, by omega, by omega⟩, fun k hk => ?_, fun k hk => ?_, ?_, ?_⟩
    · rw [t64, if_neg (by omega), hs 2 k (by omega)]; exact g1.2.1 k hk
    · rw [t64, e3]
      by_cases e : k = (σ 1 2).toNat
      · rw [if_pos (by omega), if_pos e]; exact ⟨rfl, ha⟩
      · rw [if_neg (by omega), if_neg e]; exact g1.2.2.1 k (by omega)
    · rw [t64, if_neg (by omega), hs 1 3 (by omega)]; exact g1.2.2.2.1
    · rw [t64, if_neg (by omega), hs 1 4 (by omega)]; exact g1.2.2.2.2
  · refine ⟨by rw [ht 63 5 (by omega), ht 63 4 (by omega), hs 4 4 (by omega), hs 4 5 (by omega)]; exact g2.1, fun k hk => ?_⟩
    rw [hs 4 4 (by omega), hs 4 5 (by omega)] at hk
    rw [hs 5 k (by omega), hs 6 k (by omega), hs 7 k (by omega), hs 8 k (by omega), ht 65 k (by omega), ht 66 k (by omega), ht 67 k (by omega)]
    have q := g2.2 k hk
    exact ⟨q.1, cq_ok (by omega) q.2.1, cq_ok (by omega) q.2.2⟩
  · rw [hs 0 11 (by omega)] at q
    exact ⟨RDeb_ppl (by omega) (fun c k hc => hs c k (by omega)) (fun c k hc => ht c k (by omega)) (g7.2 q).1, RDia_of (fun c k hc => hs c k (by omega)) (fun c k hc => ht c k (by omega)) (g7.2 q).2⟩
/-- the diary stays where debts come -/
theorem RDia_more {σ τ σ' τ' : am_H} {b bl fa fn a g l o : Nat} (hm : σ bl 5 ≤ σ' bl 5) (hs : ∀ c k : Nat, (b < c ∧ c ≤ b + 6) ∨ (c = b ∧ (k = 6 ∨ k = 7)) → σ' c k = σ c k) (ht : ∀ c k : Nat, c = a ∨ c = g ∨ c = l ∨ c = o ∨ (c = 63 ∧ (k = fa ∨ k = fn)) → τ' c k = τ c k) (h : RDia σ τ b bl fa fn a g l o) : RDia σ' τ' b bl fa fn a g l o := by
  unfold RDia
  rw [hs b 6 (by omega), hs b 7 (by omega), ht 63 fa (by omega), ht 63 fn (by omega)]
  obtain ⟨h1, h2, h3, h4, h5, h6⟩ := h
  refine ⟨h1, h2, fun k hk => ?_, fun p hp => ?_, fun k hk => ?_, fun k hk hk2 => ?_⟩
  · rw [hs (b + 1) k (by omega), hs (b + 2) k (by omega), hs (b + 3) k (by omega), ht a _ (Or.inl rfl), ht a _ (Or.inl rfl), ht a _ (Or.inl rfl)]
    have q := h3 k hk
    exact ⟨q.1, ⟨q.2.1.1, by omega⟩, q.2.2⟩
  · rw [hs (b + 6) p (by omega), ht g p (by omega)]; exact h4 p hp
  · rw [hs (b + 4) k (by omega), hs (b + 5) k (by omega), ht l k (by omega), ht o k (by omega)]; exact h5 k hk
  · rw [hs (b + 4) k (by omega), hs (b + 5) k (by omega)]; exact h6 k hk hk2
theorem cq_debt {σ τ : am_H} {p q d k : Int} (h : RR σ τ) (hc : σ 16 5 < 20) (hp : 0 ≤ p ∧ p < σ 1 2) (hq : 0 ≤ q ∧ q < σ 1 2) (hpq : p ≠ q) (hd : 1 ≤ d ∧ d ≤ 9) (hk : 0 ≤ k ∧ k ≤ 12) : RR (led_add σ p q d k) (md_adds τ (τ 63 7).toNat p q d k) := by
  have n := cq_n h
  rw [n.1.2.1]
  have hs : ∀ c j : Nat, (c < 17 ∨ 21 < c) ∧ (c ≠ 16 ∨ j ≠ 5) → led_add σ p q d k c j = σ c j := fun c j hc => by unfold led_add; rw [am_up_k (by omega), am_up_k (by omega), am_up_k (by omega), am_up_k (by omega), am_up_k (by omega), am_up_k (by omega)]
  have ht : ∀ c j : Nat, c ≠ 68 ∧ (c ≠ 63 ∨ j ≠ 7) → md_adds τ (σ 16 5).toNat p q d k c j = τ c j := fun c j hc => md_adds_at hc.1 hc.2
  have e5 : led_add σ p q d k 16 5 = σ 16 5 + 1 := led_add_n
  have e1 : ∀ j : Nat, led_add σ p q d k 17 j = if j = (σ 16 5).toNat then p else σ 17 j := fun j => by unfold led_add; rw [am_up_k (by omega), am_up_k (by omega), am_up_k (by omega), am_up_k (by omega), am_up_k (by omega), am_up_r]
  have e2 : ∀ j : Nat, led_add σ p q d k 18 j = if j = (σ 16 5).toNat then q else σ 18 j := fun j => by unfold led_add; rw [am_up_k (by omega), am_up_k (by omega), am_up_k (by omega), am_up_k (by omega), am_up_r, am_up_k (by omega)]
  have e3 : ∀ j : Nat, led_add σ p q d k 19 j = if j = (σ 16 5).toNat then d else σ 19 j := fun j => by unfold led_add; rw [am_up_k (by omega), am_up_k (by omega), am_up_k (by omega), am_up_r, am_up_k (by omega), am_up_k (by omega)]
  have e4 : ∀ j : Nat, led_add σ p q d k 20 j = if j = (σ 16 5).toNat then k else σ 20 j := fun j => by unfold led_add; rw [am_up_k (by omega), am_up_k (by omega), am_up_r, am_up_k (by omega), am_up_k (by omega), am_up_k (by omega)]
  have e6 : ∀ j : Nat, led_add σ p q d k 21 j = if j = (σ 16 5).toNat then 0 else σ 21 j := fun j => by unfold led_add; rw [am_up_k (by omega), am_up_r, am_up_k (by omega), am_up_k (by omega), am_up_k (by omega), am_up_k (by omega)]
  have t7 : md_adds τ (σ 16 5).toNat p q d k 63 7 = σ 16 5 + 1 := by unfold md_adds; rw [am_up_eq, n.1.2.1]
  have t68 : ∀ j : Nat, md_adds τ (σ 16 5).toNat p q d k 68 j = if j = 5 * (σ 16 5).toNat + 4 then 0 else if j = 5 * (σ 16 5).toNat + 3 then k else if j = 5 * (σ 16 5).toNat + 2 then d else if j = 5 * (σ 16 5).toNat + 1 then q else if j = 5 * (σ 16 5).toNat then p else τ 68 j := fun j => by
    unfold md_adds; rw [am_up_k (by omega), am_up_r, am_up_r, am_up_r, am_up_r, am_up_r]
  generalize led_add σ p q d k = σ' at *
  generalize md_adds τ (σ 16 5).toNat p q d k = τ' at *
  obtain ⟨g1, g2, g3, g4, g5, g6, g7, g8, g9, g10⟩ := h
  refine ⟨RSet_of (fun c k hc => hs c k (by omega)) (fun c k hc => ht c k (by omega)) g1,
    RChg_of (fun c k hc => hs c k (by omega)) (fun c k hc => ht c k (by omega)) g2,
    RLaw_of (fun c k hc => hs c k (by omega)) (fun c k hc => ht c k (by omega)) g3,
    ⟨⟨t7.trans e5.symm, by omega, by omega⟩, fun j hj => ?_⟩,
    RDia_more (by omega) (fun c k hc => hs c k (by omega)) (fun c k hc => ht c k (by omega)) g5,
    RFlg_of (fun c k hc => hs c k (by omega)) g6,
    RImg_of (fun c k hc => hs c k (by omega)) (fun c k hc => ht c k (by omega)) g7,
    RBod_of (fun c k hc => hs c k (by omega)) (fun c k hc => ht c k (by omega)) g8,
    RShe_of (fun c k hc => hs c k (by omega)) (fun c k hc => ht c k (by omega)) g9,
    ⟨(hs 44 0 (by omega)).trans g10.1, (hs 45 0 (by omega)).trans g10.2⟩⟩
  show (τ' 68 (5 * j) = σ' 17 j ∧ τ' 68 (5 * j + 1) = σ' 18 j ∧ τ' 68 (5 * j + 2) = σ' 19 j ∧ τ' 68 (5 * j + 3) = σ' 20 j ∧ τ' 68 (5 * j + 4) = σ' 21 j) ∧
    ((0 ≤ σ' 17 j ∧ σ' 17 j < σ' 1 2) ∧ (0 ≤ σ' 18 j ∧ σ' 18 j < σ' 1 2) ∧ σ' 17 j ≠ σ' 18 j ∧ (0 ≤ σ' 19 j ∧ σ' 19 j ≤ 9) ∧ (0 ≤ σ' 20 j ∧ σ' 20 j ≤ 12) ∧ (σ' 21 j = 0 ∨ σ' 21 j = 1))
  rw [e1, e2, e3, e4, e6, t68, t68, t68, t68, t68, hs 1 2 (by omega)]
  by_cases e : j = (σ 16 5).toNat
  · repeat rw [if_pos e]
    rw [if_neg (by omega), if_neg (by omega), if_neg (by omega), if_neg (by omega), if_pos (by omega), if_neg (by omega), if_neg (by omega), if_neg (by omega), if_pos (by omega), if_neg (by omega), if_neg (by omega), if_pos (by omega), if_neg (by omega), if_pos (by omega), if_pos (by omega)]
    exact ⟨⟨rfl, rfl, rfl, rfl, rfl⟩, hp, hq, hpq, ⟨by omega, hd.2⟩, hk, Or.inl rfl⟩
  · repeat rw [if_neg e]
    repeat rw [if_neg (by omega)]
    exact (cp_deb g4).2 j (by omega)
theorem cq_ask {σ τ : am_H} {d t : Int} (h : RR σ τ) (ha : σ 22 6 < 30) (hd : 0 ≤ d ∧ d < σ 16 5) (htt : 0 ≤ t ∧ t ≤ 47) : RR (dia_add σ (σ 22 6).toNat d t) (md_ask τ (τ 63 20).toNat d t) := by
  have n := cq_n h
  have dd := cq_dia h
  rw [n.1.2.2.1]
  have hs : ∀ c j : Nat, c ≠ 23 ∧ c ≠ 24 ∧ c ≠ 25 ∧ (c ≠ 22 ∨ j ≠ 6) → dia_add σ (σ 22 6).toNat d t c j = σ c j := fun c j hc => by unfold dia_add; rw [am_up_k (by omega), am_up_k (by omega), am_up_k (by omega), am_up_k (by omega)]
  have ht : ∀ c j : Nat, c ≠ 72 ∧ (c ≠ 63 ∨ j ≠ 20) → md_ask τ (σ 22 6).toNat d t c j = τ c j := fun c j hc => by unfold md_ask; rw [am_up_k (by omega), am_up_k (by omega), am_up_k (by omega), am_up_k (by omega)]
  have e6 : dia_add σ (σ 22 6).toNat d t 22 6 = σ 22 6 + 1 := by unfold dia_add; rw [am_up_eq]
  have e1 : ∀ j : Nat, dia_add σ (σ 22 6).toNat d t 23 j = if j = (σ 22 6).toNat then d else σ 23 j := fun j => by unfold dia_add; rw [am_up_k (by omega), am_up_k (by omega), am_up_k (by omega), am_up_r]
  have e2 : ∀ j : Nat, dia_add σ (σ 22 6).toNat d t 24 j = if j = (σ 22 6).toNat then t else σ 24 j := fun j => by unfold dia_add; rw [am_up_k (by omega), am_up_k (by omega), am_up_r, am_up_k (by omega)]
  have e3 : ∀ j : Nat, dia_add σ (σ 22 6).toNat d t 25 j = if j = (σ 22 6).toNat then 0 else σ 25 j := fun j => by unfold dia_add; rw [am_up_k (by omega), am_up_r, am_up_k (by omega), am_up_k (by omega)]
  have t20 : md_ask τ (σ 22 6).toNat d t 63 20 = σ 22 6 + 1 := by unfold md_ask; rw [am_up_eq, n.1.2.2.1]
  have t72 : ∀ j : Nat, md_ask τ (σ 22 6).toNat d t 72 j = if j = 3 * (σ 22 6).toNat + 2 then 0 else if j = 3 * (σ 22 6).toNat + 1 then t else if j = 3 * (σ 22 6).toNat then d else τ 72 j := fun j => by
    unfold md_ask; rw [am_up_k (by omega), am_up_r, am_up_r, am_up_r]
  generalize dia_add σ (σ 22 6).toNat d t = σ' at *
  generalize md_ask τ (σ 22 6).toNat d t = τ' at *
  obtain ⟨g1, g2, g3, g4, g5, g6, g7, g8, g9, g10⟩ := h
  refine ⟨RSet_of (fun c k hc => hs c k (by omega)) (fun c k hc => ht c k (by omega)) g1,
    RChg_of (fun c k hc => hs c k (by omega)) (fun c k hc => ht c k (by omega)) g2,
    RLaw_of (fun c k hc => hs c k (by omega)) (fun c k hc => ht c k (by omega)) g3,
    RDeb_of (fun c k hc => hs c k (by omega)) (fun c k hc => ht c k (by omega)) g4,
    ?_,
    ?_,
    RImg_of (fun c k hc => hs c k (by omega)) (fun c k hc => ht c k (by omega)) g7,
    RBod_of (fun c k hc => hs c k (by omega)) (fun c k hc => ht c k (by omega)) g8,
    RShe_of (fun c k hc => hs c k (by omega)) (fun c k hc => ht c k (by omega)) g9,
    ⟨(hs 44 0 (by omega)).trans g10.1, (hs 45 0 (by omega)).trans g10.2⟩⟩
  · show (τ' 63 20 = σ' 22 6 ∧ 0 ≤ σ' 22 6 ∧ σ' 22 6 ≤ 30) ∧ (τ' 63 9 = σ' 22 7 ∧ 0 ≤ σ' 22 7 ∧ σ' 22 7 ≤ 48) ∧ (∀ k : Nat, (k : Int) < σ' 22 6 → (τ' 72 (3 * k) = σ' 23 k ∧ τ' 72 (3 * k + 1) = σ' 24 k ∧ τ' 72 (3 * k + 2) = σ' 25 k) ∧ (0 ≤ σ' 23 k ∧ σ' 23 k < σ' 16 5) ∧ 0 ≤ σ' 24 k ∧ σ' 24 k ≤ 47) ∧
      (∀ p : Nat, p < 8 → τ' 73 p = σ' 28 p) ∧ (∀ k : Nat, (k : Int) < 8 * σ' 22 7 → τ' 74 k = σ' 26 k ∧ τ' 75 k = σ' 27 k) ∧ (∀ k : Nat, 8 * σ' 22 7 ≤ (k : Int) → k < 384 → σ' 26 k = -2 ∧ σ' 27 k = -2)
    rw [t20, e6, ht 63 9 (by omega), hs 22 7 (by omega)]
    refine ⟨⟨rfl, by omega, by omega⟩, ⟨n.1.2.2.2.1, n.2.2.2.2.1⟩, fun k hk => ?_, fun p hp => ?_, fun k hk => ?_, fun k hk hk2 => ?_⟩
    · rw [e1, e2, e3, t72, t72, t72, hs 16 5 (by omega)]
      by_cases e : k = (σ 22 6).toNat
      · repeat rw [if_pos e]
        rw [if_neg (by omega), if_neg (by omega), if_pos (by omega), if_neg (by omega), if_pos (by omega), if_pos (by omega)]
        exact ⟨⟨rfl, rfl, rfl⟩, hd, htt⟩
      · repeat rw [if_neg e]
        repeat rw [if_neg (by omega)]
        exact dd.1 k (by omega)
    · rw [ht 73 p (by omega), hs 28 p (by omega)]; exact dd.2.1 p hp
    · rw [ht 74 k (by omega), ht 75 k (by omega), hs 26 k (by omega), hs 27 k (by omega)]; exact dd.2.2.1 k hk
    · rw [hs 26 k (by omega), hs 27 k (by omega)]; exact dd.2.2.2 k hk hk2
  · intro j hj
    rw [e3, hs 38 j (by omega)]
    have q := g6 j hj
    by_cases e : j = (σ 22 6).toNat
    · rw [if_pos e]; exact ⟨Or.inl rfl, q.2⟩
    · rw [if_neg e]; exact q
theorem cq_feed {σ τ : am_H} {a : Int} (h : RR σ τ) (hc : σ 9 6 < 120) : RR (am_up (am_up σ 10 (σ 9 6).toNat a) 9 6 (σ 9 6 + 1)) (am_up (am_up τ 69 (τ 63 11).toNat a) 63 11 (τ 63 11 + 1)) := by
  have n := cq_n h
  rw [n.1.2.2.2.2.1]
  have hs : ∀ c k : Nat, c ≠ 10 ∧ (c ≠ 9 ∨ k ≠ 6) → am_up (am_up σ 10 (σ 9 6).toNat a) 9 6 (σ 9 6 + 1) c k = σ c k := fun c k hc => by rw [am_up_k (by omega), am_up_k (by omega)]
  have ht : ∀ c k : Nat, c ≠ 69 ∧ (c ≠ 63 ∨ k ≠ 11) → am_up (am_up τ 69 (σ 9 6).toNat a) 63 11 (σ 9 6 + 1) c k = τ c k := fun c k hc => by rw [am_up_k (by omega), am_up_k (by omega)]
  have e6 : am_up (am_up σ 10 (σ 9 6).toNat a) 9 6 (σ 9 6 + 1) 9 6 = σ 9 6 + 1 := am_up_eq
  have t6 : am_up (am_up τ 69 (σ 9 6).toNat a) 63 11 (σ 9 6 + 1) 63 11 = σ 9 6 + 1 := am_up_eq
  have e10 : ∀ k : Nat, am_up (am_up σ 10 (σ 9 6).toNat a) 9 6 (σ 9 6 + 1) 10 k = if k = (σ 9 6).toNat then a else σ 10 k := fun k => by rw [am_up_k (by omega), am_up_r]
  have t69 : ∀ k : Nat, am_up (am_up τ 69 (σ 9 6).toNat a) 63 11 (σ 9 6 + 1) 69 k = if k = (σ 9 6).toNat then a else τ 69 k := fun k => by rw [am_up_k (by omega), am_up_r]
  generalize am_up (am_up σ 10 (σ 9 6).toNat a) 9 6 (σ 9 6 + 1) = σ' at *
  generalize am_up (am_up τ 69 (σ 9 6).toNat a) 63 11 (σ 9 6 + 1) = τ' at *
  obtain ⟨g1, g2, g3, g4, g5, g6, g7, g8, g9, g10⟩ := h
  refine ⟨RSet_of (fun c k hc => hs c k (by omega)) (fun c k hc => ht c k (by omega)) g1,
    RChg_of (fun c k hc => hs c k (by omega)) (fun c k hc => ht c k (by omega)) g2,
    ?_,
    RDeb_of (fun c k hc => hs c k (by omega)) (fun c k hc => ht c k (by omega)) g4,
    RDia_of (fun c k hc => hs c k (by omega)) (fun c k hc => ht c k (by omega)) g5,
    RFlg_of (fun c k hc => hs c k (by omega)) g6,
    RImg_of (fun c k hc => hs c k (by omega)) (fun c k hc => ht c k (by omega)) g7,
    RBod_of (fun c k hc => hs c k (by omega)) (fun c k hc => ht c k (by omega)) g8,
    RShe_of (fun c k hc => hs c k (by omega)) (fun c k hc => ht c k (by omega)) g9,
    ⟨(hs 44 0 (by omega)).trans g10.1, (hs 45 0 (by omega)).trans g10.2⟩⟩
  have g3' := g3
  obtain ⟨⟨h1, h2⟩, h3, h4, h5⟩ := g3
  refine ⟨⟨⟨t6.trans e6.symm, by omega, by omega⟩, fun k hk => ?_⟩, CLaw_of (hs 9 7 (by omega)) (fun k => hs 11 k (by omega)) h3, MLaw_of (ht 63 13 (by omega)) (fun k => ht 70 k (by omega)) h4, ?_⟩
  · rw [e10, t69]
    by_cases e : k = (σ 9 6).toNat
    · rw [if_pos e, if_pos e]
    · rw [if_neg e, if_neg e]; exact h2 k (by omega)
  · have h7 : σ' 9 7 = σ 9 7 := hs 9 7 (by omega)
    have hr : rcl σ' 11 (σ 9 7).toNat = rcl σ 11 (σ 9 7).toNat := rcl_congr _ (fun k _ => hs 11 k (by omega))
    have h13 : τ' 63 13 = τ 63 13 := ht 63 13 (by omega)
    have hr2 : lx_cmp (τ' 70) (τ 63 13).toNat = lx_cmp (τ 70) (τ 63 13).toNat := lx_cmp_congr (fun k _ => ht 70 k (by omega))
    unfold md_lw c_lw at *
    rw [h7, hr, h13, hr2]; exact h5
