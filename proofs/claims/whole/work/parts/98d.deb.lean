/-! the coupling: debts handed on, dropped, inherited -/
theorem RR_deb2 {σ τ σ' τ' : am_H} (hs : ∀ c k : Nat, c < 17 ∨ 21 < c → σ' c k = σ c k) (ht : ∀ c k : Nat, c ≠ 68 → τ' c k = τ c k) (hD : RDeb σ' τ' 16 7 68) (h : RR σ τ) : RR σ' τ' := by
  obtain ⟨g1, g2, g3, g4, g5, g6, g7, g8, g9, g10⟩ := h
  refine ⟨RSet_of (fun c k hc => hs c k (by omega)) (fun c k hc => ht c k (by omega)) g1,
    RChg_of (fun c k hc => hs c k (by omega)) (fun c k hc => ht c k (by omega)) g2,
    RLaw_of (fun c k hc => hs c k (by omega)) (fun c k hc => ht c k (by omega)) g3,
    hD,
    RDia_of (fun c k hc => hs c k (by omega)) (fun c k hc => ht c k (by omega)) g5,
    RFlg_of (fun c k hc => hs c k (by omega)) g6,
    RImg_of (fun c k hc => hs c k (by omega)) (fun c k hc => ht c k (by omega)) g7,
    RBod_of (fun c k hc => hs c k (by omega)) (fun c k hc => ht c k (by omega)) g8,
    RShe_of (fun c k hc => hs c k (by omega)) (fun c k hc => ht c k (by omega)) g9,
    ⟨(hs 44 0 (by omega)).trans g10.1, (hs 45 0 (by omega)).trans g10.2⟩⟩
theorem am_up_id {σ : am_H} {c k : Nat} : am_up σ c k (σ c k) = σ := by
  funext c' k'
  unfold am_up
  by_cases e : c' = c ∧ k' = k
  · rw [if_pos e, e.1, e.2]
  · rw [if_neg e]
theorem cq_set {σ τ : am_H} {k : Nat} {o w : Int} (h : RDeb σ τ 16 7 68) (hk : (k : Int) < σ 16 5) (ho : 0 ≤ o ∧ o < σ 1 2) (hw : 0 ≤ w ∧ w < σ 1 2) (how : o ≠ w) : RDeb (am_up (am_up σ 17 k o) 18 k w) (am_up (am_up τ 68 (5 * k) o) 68 (5 * k + 1) w) 16 7 68 := by
  have hd := cp_deb h
  have s : ∀ c j : Nat, c ≠ 17 → c ≠ 18 → am_up (am_up σ 17 k o) 18 k w c j = σ c j := fun c j h1 h2 => by rw [am_up_k (by omega), am_up_k (by omega)]
  have s1 : ∀ j : Nat, am_up (am_up σ 17 k o) 18 k w 17 j = if j = k then o else σ 17 j := fun j => by rw [am_up_k (by omega), am_up_r]
  have s2 : ∀ j : Nat, am_up (am_up σ 17 k o) 18 k w 18 j = if j = k then w else σ 18 j := fun j => by rw [am_up_r, am_up_k (by omega)]
  have t : ∀ j : Nat, am_up (am_up τ 68 (5 * k) o) 68 (5 * k + 1) w 68 j = if j = 5 * k + 1 then w else if j = 5 * k then o else τ 68 j := fun j => by rw [am_up_r, am_up_r]
  have t7 : am_up (am_up τ 68 (5 * k) o) 68 (5 * k + 1) w 63 7 = τ 63 7 := by rw [am_up_k (by omega), am_up_k (by omega)]
  generalize am_up (am_up σ 17 k o) 18 k w = σ' at *
  generalize am_up (am_up τ 68 (5 * k) o) 68 (5 * k + 1) w = τ' at *
  refine ⟨by show τ' 63 7 = σ' 16 5 ∧ 0 ≤ σ' 16 5 ∧ σ' 16 5 ≤ 20; rw [t7, s 16 5 (by omega) (by omega)]; exact hd.1, fun n hn => ?_⟩
  show (τ' 68 (5 * n) = σ' 17 n ∧ τ' 68 (5 * n + 1) = σ' 18 n ∧ τ' 68 (5 * n + 2) = σ' 19 n ∧ τ' 68 (5 * n + 3) = σ' 20 n ∧ τ' 68 (5 * n + 4) = σ' 21 n) ∧
    ((0 ≤ σ' 17 n ∧ σ' 17 n < σ' 1 2) ∧ (0 ≤ σ' 18 n ∧ σ' 18 n < σ' 1 2) ∧ σ' 17 n ≠ σ' 18 n ∧ (0 ≤ σ' 19 n ∧ σ' 19 n ≤ 9) ∧ (0 ≤ σ' 20 n ∧ σ' 20 n ≤ 12) ∧ (σ' 21 n = 0 ∨ σ' 21 n = 1))
  have hn : (n : Int) < σ 16 5 := by rw [← s 16 5 (by omega) (by omega)]; exact hn
  have q := hd.2 n hn
  rw [s1, s2, s 19 n (by omega) (by omega), s 20 n (by omega) (by omega), s 21 n (by omega) (by omega), s 1 2 (by omega) (by omega), t, t, t, t, t]
  by_cases e : n = k
  · rw [if_pos e, if_pos e, if_neg (by omega), if_pos (by omega), if_pos (by omega), if_neg (by omega), if_neg (by omega), if_neg (by omega), if_neg (by omega), if_neg (by omega), if_neg (by omega)]
    exact ⟨⟨rfl, rfl, q.1.2.2⟩, ho, hw, how, q.2.2.2.2⟩
  · rw [if_neg e, if_neg e]
    repeat rw [if_neg (by omega)]
    exact q
theorem cq_dropD {σ τ : am_H} (p : Int) (h : RDeb σ τ 16 7 68) : ∀ n : Nat, (n : Int) ≤ σ 16 5 → RDeb (led_drop p n σ) (md_drop p n τ) 16 7 68
  | 0, _ => h
  | n + 1, hn => by
    have ih := cq_dropD p h n (by omega)
    have e16 : led_drop p n σ 16 5 = σ 16 5 := led_drop_at (by omega)
    have q := (cp_deb ih).2 n (by omega)
    show RDeb (if led_drop p n σ 17 n = p then led_less (led_drop p n σ) n (led_drop p n σ 19 n) else led_drop p n σ) (if md_drop p n τ 68 (5 * n) = p then md_less (md_drop p n τ) n (md_drop p n τ 68 (5 * n + 2)) else md_drop p n τ) 16 7 68
    rw [q.1.1, q.1.2.2.1]
    by_cases e : led_drop p n σ 17 n = p
    · rw [if_pos e, if_pos e]; exact cp_less ih (by omega) ⟨q.2.2.2.2.1.1, Int.le_refl _⟩
    · rw [if_neg e, if_neg e]; exact ih
theorem cq_drop {σ τ : am_H} (p : Int) (h : RR σ τ) : RR (led_drop p (σ 16 5).toNat σ) (md_drop p (τ 63 7).toNat τ) := by
  have n := cq_n h
  rw [n.1.2.1]
  exact RR_deb2 (fun c k hc => led_drop_at (by omega)) (fun c k hc => md_drop_at (Or.inl hc)) (cq_dropD p h.2.2.2.1 _ (by omega)) h
theorem cq_inhD {σ τ : am_H} {p q : Int} (hpq : p ≠ q) (hq : 0 ≤ q ∧ q < σ 1 2) (h : RDeb σ τ 16 7 68) : ∀ n : Nat, (n : Int) ≤ σ 16 5 → RDeb (led_inh p q n σ) (md_inh p q n τ) 16 7 68
  | 0, _ => h
  | n + 1, hn => by
    have ih := cq_inhD hpq hq h n (by omega)
    have e16 : led_inh p q n σ 16 5 = σ 16 5 := led_inh_at (by omega)
    have e12 : led_inh p q n σ 1 2 = σ 1 2 := led_inh_at (by omega)
    show RDeb (led_inh1 p q n (led_inh p q n σ)) (md_inh1 p q n (md_inh p q n τ)) 16 7 68
    generalize led_inh p q n σ = s at *
    generalize md_inh p q n τ = t at *
    have qq := (cp_deb ih).2 n (by omega)
    unfold led_inh1 md_inh1
    rw [qq.1.1, qq.1.2.1, qq.1.2.2.1]
    by_cases e : 0 < s 19 n ∧ (s 17 n = p ∨ s 18 n = p)
    · rw [if_pos e, if_pos e]
      have hz : ((if s 17 n = p then s 18 n else s 17 n) = q) ↔ (s 17 n = q ∨ s 18 n = q) := by
        by_cases e1 : s 17 n = p
        · rw [if_pos e1]; omega
        · rw [if_neg e1]; omega
      by_cases e2 : s 17 n = q ∨ s 18 n = q
      · rw [if_pos (hz.mpr e2), if_pos e2]; exact cp_less ih (by omega) ⟨qq.2.2.2.2.1.1, Int.le_refl _⟩
      · rw [if_neg (fun z => e2 (hz.mp z)), if_neg e2]
        refine cq_set ih (by omega) ?_ ?_ ?_
        · split
          · omega
          · exact qq.2.1
        · split
          · omega
          · exact qq.2.2.1
        · have := qq.2.2.2.1
          (repeat' split) <;> omega
    · rw [if_neg e, if_neg e]; exact ih
theorem cq_inh {σ τ : am_H} {p q : Int} (hpq : p ≠ q) (hq : 0 ≤ q ∧ q < σ 1 2) (h : RR σ τ) : am_sum (md_moved τ p q) (τ 63 7).toNat = am_sum (led_moved σ p q) (σ 16 5).toNat ∧ RR (led_inh p q (σ 16 5).toNat σ) (md_inh p q (τ 63 7).toNat τ) := by
  have n := cq_n h
  rw [n.1.2.1]
  refine ⟨am_sum_congr _ (fun k hk => ?_), RR_deb2 (fun c k hc => led_inh_at (by omega)) (fun c k hc => md_inh_at (Or.inl hc)) (cq_inhD hpq hq h.2.2.2.1 _ (by omega)) h⟩
  have qq := (cp_deb h.2.2.2.1).2 k (by omega)
  unfold md_moved led_moved
  rw [qq.1.1, qq.1.2.1, qq.1.2.2.1]
  by_cases e : 0 < σ 19 k ∧ (σ 17 k = p ∨ σ 18 k = p)
  · have hz : ((if σ 17 k = p then σ 18 k else σ 17 k) = q) ↔ (σ 17 k = q ∨ σ 18 k = q) := by
      by_cases e1 : σ 17 k = p
      · rw [if_pos e1]; omega
      · rw [if_neg e1]; omega
    by_cases e2 : σ 17 k = q ∨ σ 18 k = q
    · rw [if_neg (fun z => z.2 e2), if_neg (fun z => z.2 (hz.mpr e2))]
    · rw [if_pos ⟨e, e2⟩, if_pos ⟨e, fun z => e2 (hz.mp z)⟩]
  · rw [if_neg (fun z => e z.1), if_neg (fun z => e z.1)]
theorem cq_hand {σ τ : am_H} {A B : Nat} (h : RR σ τ) (hA : (A : Int) < σ 16 5) (hB : (B : Int) < σ 16 5) :
    ((A ≠ B ∧ 0 < τ 68 (5 * A + 2) ∧ 0 < τ 68 (5 * B + 2) ∧ (τ 68 (5 * A + 2) = τ 68 (5 * B + 2) ∧ τ 68 (5 * A + 3) = τ 68 (5 * B + 3) ∧ τ 68 (5 * A + 4) = τ 68 (5 * B + 4)) ∧ τ 68 (5 * A + 1) = τ 68 (5 * B) ∧ τ 68 (5 * B + 1) ≠ τ 68 (5 * A)) ↔
    ((0 < σ 19 A ∧ 0 < σ 19 B ∧ σ 18 A = σ 17 B ∧ σ 17 A ≠ σ 18 B) ∧ σ 20 A = σ 20 B ∧ σ 19 A = σ 19 B ∧ σ 21 A = σ 21 B)) ∧
    ((0 < σ 19 A ∧ 0 < σ 19 B ∧ σ 18 A = σ 17 B ∧ σ 17 A ≠ σ 18 B) → RR (led_less (am_up σ 18 A (σ 18 B)) B (σ 19 B)) (md_less (am_up τ 68 (5 * A + 1) (τ 68 (5 * B + 1))) B (τ 68 (5 * B + 2)))) := by
  have g4 := h.2.2.2.1
  have qa := (cp_deb g4).2 A hA
  have qb := (cp_deb g4).2 B hB
  refine ⟨?_, fun hc => ?_⟩
  · rw [qa.1.1, qa.1.2.1, qa.1.2.2.1, qa.1.2.2.2.1, qa.1.2.2.2.2, qb.1.1, qb.1.2.1, qb.1.2.2.1, qb.1.2.2.2.1, qb.1.2.2.2.2]
    refine ⟨fun q => ⟨⟨q.2.1, q.2.2.1, q.2.2.2.2.1, fun z => q.2.2.2.2.2 z.symm⟩, q.2.2.2.1.2.1, q.2.2.2.1.1, q.2.2.2.1.2.2⟩, fun q => ⟨fun e => ?_, q.1.1, q.1.2.1, ⟨q.2.2.1, q.2.1, q.2.2.2⟩, q.1.2.2.1, fun z => q.1.2.2.2 z.symm⟩⟩
    have q1 := q.1.2.2.1
    rw [e] at q1
    exact qb.2.2.2.1 q1.symm
  · rw [qb.1.2.1, qb.1.2.2.1]
    have hAB : A ≠ B := fun e => by
      have q1 := hc.2.2.1
      rw [e] at q1
      exact qb.2.2.2.1 q1.symm
    have h1 := cq_set (k := A) (o := σ 17 A) (w := σ 18 B) g4 hA qa.2.1 qb.2.2.1 hc.2.2.2
    rw [am_up_id] at h1
    have h2 : am_up τ 68 (5 * A) (σ 17 A) = τ := by rw [← qa.1.1]; exact am_up_id
    rw [h2] at h1
    refine RR_deb2 (fun c k hc2 => ?_) (fun c k hc2 => ?_) (cp_less h1 ?_ ?_) h
    · rw [led_less_at (by omega), am_up_k (by omega)]
    · unfold md_less; rw [am_up_k (by omega), am_up_k (by omega), am_up_k (by omega)]
    · rw [am_up_k (by omega)]; exact hB
    · rw [am_up_k (by omega)]; exact ⟨qb.2.2.2.2.1.1, Int.le_refl _⟩
