/-! the coupling: rows, elements, shifts -/
theorem am_i2b_bd (a : Int) : -32768 ≤ am_i2b a ∧ am_i2b a ≤ 32767 := by
  unfold am_i2b
  rw [Int8.toInt_toInt32]
  have h1 := Int8.le_toInt (Int32.ofInt a).toInt8
  have h2 := Int8.toInt_lt (Int32.ofInt a).toInt8
  omega
theorem am_i2s_bd (a : Int) : -32768 ≤ am_i2s a ∧ am_i2s a ≤ 32767 := by
  unfold am_i2s
  rw [Int16.toInt_toInt32]
  have h1 := Int16.le_toInt (Int32.ofInt a).toInt16
  have h2 := Int16.toInt_lt (Int32.ofInt a).toInt16
  omega
theorem sf_as_bd {s v : Int} (h : s = 0 ∨ s = 1) : -32768 ≤ sf_as s v ∧ sf_as s v ≤ 32767 := by
  unfold sf_as
  rcases h with h | h
  · rw [if_pos h]; exact am_i2b_bd _
  · rw [if_neg (by omega), if_pos h]; exact am_i2s_bd _
/-- one shelf changed -/
theorem cq_she1 {σ τ σ' τ' : am_H} {A : Nat} (hA : A < 6) (hs : ∀ c k : Nat, c ≠ 51 + 2 * A ∧ c ≠ 52 + 2 * A → σ' c k = σ c k) (ht : ∀ c k : Nat, c ≠ 86 ∧ c ≠ 87 ∧ c ≠ 88 ∧ c ≠ 89 → τ' c k = τ c k) (h86 : ∀ d : Nat, d < 6 → d ≠ A → τ' 86 d = τ 86 d ∧ τ' 87 d = τ 87 d) (h88 : ∀ d j : Nat, d < 6 → d ≠ A → j < 60 → τ' 88 (60 * d + j) = τ 88 (60 * d + j))
    (hO : ((-1 ≤ σ' (51 + 2 * A) 1 ∧ σ' (51 + 2 * A) 1 < σ 46 2) ∧ (-1 ≤ σ' (51 + 2 * A) 2 ∧ σ' (51 + 2 * A) 2 ≤ 4) ∧ (0 ≤ σ' (51 + 2 * A) 3 ∧ σ' (51 + 2 * A) 3 ≤ 60) ∧ (σ' (51 + 2 * A) 2 = -1 → σ' (51 + 2 * A) 3 = 0) ∧ (0 ≤ σ' (51 + 2 * A) 2 → σ' (51 + 2 * A) 1 = -1) ∧ ∀ j : Nat, (j : Int) < σ' (51 + 2 * A) 3 → σ' (51 + 2 * A) 2 = 0 ∨ σ' (51 + 2 * A) 2 = 1 → -32768 ≤ σ' (52 + 2 * A) j ∧ σ' (52 + 2 * A) j ≤ 32767) ∧ τ' 86 A = (if 0 ≤ σ' (51 + 2 * A) 2 then 50 + σ' (51 + 2 * A) 2 else σ' (51 + 2 * A) 1) ∧ τ' 87 A = σ' (51 + 2 * A) 3 ∧ ∀ j : Nat, (j : Int) < σ' (51 + 2 * A) 3 → τ' 88 (60 * A + j) = σ' (52 + 2 * A) j) (h : RR σ τ) : RR σ' τ' := by
  have g := cq_she h
  obtain ⟨g1, g2, g3, g4, g5, g6, g7, g8, g9, g10⟩ := h
  refine ⟨RSet_of (fun c k hc => hs c k (by omega)) (fun c k hc => ht c k (by omega)) g1,
    RChg_of (fun c k hc => hs c k (by omega)) (fun c k hc => ht c k (by omega)) g2,
    RLaw_of (fun c k hc => hs c k (by omega)) (fun c k hc => ht c k (by omega)) g3,
    RDeb_of (fun c k hc => hs c k (by omega)) (fun c k hc => ht c k (by omega)) g4,
    RDia_of (fun c k hc => hs c k (by omega)) (fun c k hc => ht c k (by omega)) g5,
    RFlg_of (fun c k hc => hs c k (by omega)) g6,
    RImg_of (fun c k hc => hs c k (by omega)) (fun c k hc => ht c k (by omega)) g7,
    RBod_of (fun c k hc => hs c k (by omega)) (fun c k hc => ht c k (by omega)) g8,
    ⟨fun d hd => ?_, fun d hd => ?_⟩,
    ⟨(hs 44 0 (by omega)).trans g10.1, (hs 45 0 (by omega)).trans g10.2⟩⟩
  · by_cases e : d = A
    · rw [e, hs 46 2 (by omega)]; exact hO.1
    · have s1 : ∀ k, σ' (51 + 2 * d) k = σ (51 + 2 * d) k := fun k => hs _ k (by omega)
      have s2 : ∀ k, σ' (52 + 2 * d) k = σ (52 + 2 * d) k := fun k => hs _ k (by omega)
      have q := (g d hd).1
      rw [s1, s1, s1, hs 46 2 (by omega)]
      exact ⟨q.1, q.2.1, q.2.2.1, q.2.2.2.1, q.2.2.2.2.1, fun j hj => by rw [s2]; exact q.2.2.2.2.2 j hj⟩
  · by_cases e : d = A
    · rw [e]; exact hO.2
    · have s1 : ∀ k, σ' (51 + 2 * d) k = σ (51 + 2 * d) k := fun k => hs _ k (by omega)
      have s2 : ∀ k, σ' (52 + 2 * d) k = σ (52 + 2 * d) k := fun k => hs _ k (by omega)
      have q := g d hd
      rw [s1, s1, s1, (h86 d hd e).1, (h86 d hd e).2]
      refine ⟨q.2.1, q.2.2.1, fun j hj => ?_⟩
      have := q.1.2.2.1
      rw [s2, h88 d j hd e (by omega)]
      exact q.2.2.2 j hj
theorem sf_row_e {σ : am_H} {c e : Nat} {s n : Int} (hce : c ≠ e) : sf_row σ c e s n c 1 = -1 ∧ sf_row σ c e s n c 2 = s ∧ sf_row σ c e s n c 3 = n ∧ (∀ j : Nat, (j : Int) < n → sf_row σ c e s n e j = 0) ∧ ∀ c' k : Nat, c' ≠ c ∧ c' ≠ e → sf_row σ c e s n c' k = σ c' k := by
  unfold sf_row sf_zero
  refine ⟨?_, ?_, ?_, fun j hj => ?_, fun c' k hc => ?_⟩
  · rw [if_neg (fun q => hce q.1), am_up_k (by omega), am_up_k (by omega), am_up_eq]
  · rw [if_neg (fun q => hce q.1), am_up_k (by omega), am_up_eq]
  · rw [if_neg (fun q => hce q.1), am_up_eq]
  · rw [if_pos ⟨rfl, by omega⟩]
  · rw [if_neg (fun q => hc.2 q.1), am_up_k (by omega), am_up_k (by omega), am_up_k (by omega)]
theorem md_row_at {σ : am_H} {d : Nat} {s n : Int} {c k : Nat} (h : c ≠ 86 ∧ c ≠ 87 ∧ c ≠ 88) : md_row σ d s n c k = σ c k := by
  unfold md_row md_zero
  rw [if_neg (by omega), am_up_k (by omega), am_up_k (by omega)]
theorem cq_row {σ τ : am_H} {A : Nat} {b c : Int} (h : RR σ τ) (hA : A < 6) (hb : 0 ≤ b ∧ b ≤ 4) (hc : 0 ≤ c ∧ c ≤ 60) : RR (sf_row σ (51 + 2 * A) (52 + 2 * A) b c) (md_row τ A b c) := by
  obtain ⟨r1, r2, r3, r4, r5⟩ := sf_row_e (σ := σ) (c := 51 + 2 * A) (e := 52 + 2 * A) (s := b) (n := c) (by omega)
  have n := cq_n h
  have m86 : ∀ d : Nat, md_row τ A b c 86 d = if d = A then 50 + b else τ 86 d := fun d => by
    unfold md_row md_zero; rw [if_neg (by omega), am_up_k (by omega), am_up_r]
  have m87 : ∀ d : Nat, md_row τ A b c 87 d = if d = A then c else τ 87 d := fun d => by
    unfold md_row md_zero; rw [if_neg (by omega), am_up_r, am_up_k (by omega)]
  have m88 : ∀ k : Nat, md_row τ A b c 88 k = if 60 * A ≤ k ∧ k < 60 * A + 60 then 0 else τ 88 k := fun k => by
    unfold md_row md_zero
    by_cases e : 60 * A ≤ k ∧ k < 60 * A + 60
    · rw [if_pos ⟨rfl, e⟩, if_pos e]
    · rw [if_neg (fun q => e q.2), if_neg e, am_up_k (by omega), am_up_k (by omega)]
  refine cq_she1 hA r5 (fun c' k hc' => md_row_at (by omega)) (fun d hd e => ⟨by rw [m86, if_neg e], by rw [m87, if_neg e]⟩) (fun d j hd e hj => by rw [m88, if_neg (by omega)]) ?_ h
  rw [r1, r2, r3, m86, m87, if_pos rfl, if_pos rfl, if_pos hb.1]
  refine ⟨⟨by omega, by omega, hc, fun q => by omega, fun _ => rfl, fun j hj _ => by rw [r4 j hj]; decide⟩, rfl, rfl, fun j hj => ?_⟩
  rw [r4 j hj, m88, if_pos (by omega)]
theorem cq_ref0 {σ : am_H} {a i : Int} (h : c_refusal σ a i = 0) : (0 ≤ a ∧ a ≤ 5) ∧ 0 ≤ σ (51 + 2 * a.toNat) 2 ∧ 0 ≤ i ∧ i < σ (51 + 2 * a.toNat) 3 := by
  unfold c_refusal at h
  by_cases e1 : 0 ≤ a ∧ a ≤ 5
  · have e1' : ¬ ¬ (0 ≤ a ∧ a ≤ 5) := fun q => q e1
    rw [if_neg e1'] at h
    by_cases q1 : σ (51 + 2 * a.toNat) 1 < 0 ∧ σ (51 + 2 * a.toNat) 2 < 0
    · rw [if_pos q1] at h; omega
    · rw [if_neg q1] at h
      by_cases q2 : ¬ 0 ≤ σ (51 + 2 * a.toNat) 2
      · rw [if_pos q2] at h; omega
      · rw [if_neg q2] at h
        by_cases q : 0 ≤ i ∧ i < σ (51 + 2 * a.toNat) 3
        · exact ⟨e1, by omega, q⟩
        · rw [if_neg q] at h; omega
  · rw [if_pos e1] at h; omega
theorem cq_put {σ τ : am_H} {A I : Nat} {v : Int} (h : RR σ τ) (hA : A < 6) (hs : 0 ≤ σ (51 + 2 * A) 2) (hI : (I : Int) < σ (51 + 2 * A) 3) : RR (am_up σ (52 + 2 * A) I (sf_as (σ (51 + 2 * A) 2) v)) (am_up τ 88 (60 * A + I) (sf_as (τ 86 A - 50) v)) := by
  have g := cq_she h A hA
  have e86 : τ 86 A - 50 = σ (51 + 2 * A) 2 := by rw [g.2.1, if_pos hs]; omega
  rw [e86]
  refine cq_she1 hA (fun c k hc => am_up_k (by omega)) (fun c k hc => am_up_k (by omega)) (fun d hd e => ⟨am_up_k (by omega), am_up_k (by omega)⟩) (fun d j hd e hj => am_up_k (by have := g.1.2.2.1; omega)) ?_ h
  rw [am_up_k (c' := 51 + 2 * A) (k' := 1) (by omega), am_up_k (c' := 51 + 2 * A) (k' := 2) (by omega), am_up_k (c' := 51 + 2 * A) (k' := 3) (by omega), am_up_k (c' := 86) (by omega), am_up_k (c' := 87) (by omega)]
  refine ⟨⟨g.1.1, g.1.2.1, g.1.2.2.1, g.1.2.2.2.1, g.1.2.2.2.2.1, fun j hj hk => ?_⟩, g.2.1, g.2.2.1, fun j hj => ?_⟩
  · rw [am_up_r]
    by_cases e : j = I
    · rw [if_pos e]; exact sf_as_bd hk
    · rw [if_neg e]; exact g.1.2.2.2.2.2 j hj hk
  · rw [am_up_r, am_up_r]
    by_cases e : j = I
    · rw [if_pos (by omega), if_pos e]
    · rw [if_neg (by omega), if_neg e]; exact g.2.2.2 j hj
theorem cq_shift {σ τ : am_H} {A B I J N : Nat} (h : RR σ τ) (hA : A < 6) (hB : B < 6) (hk : σ (51 + 2 * A) 2 = σ (51 + 2 * B) 2) (hI : (I : Int) + N ≤ σ (51 + 2 * A) 3) (hJ : (J : Int) + N ≤ σ (51 + 2 * B) 3) : RR (am_cp σ (52 + 2 * A) (52 + 2 * B) I J N) (md_c2 (md_c1 τ (60 * A + I) N) (60 * B + J) N) := by
  have ga := cq_she h A hA
  have gb := cq_she h B hB
  have s : ∀ c k : Nat, c ≠ 52 + 2 * B → am_cp σ (52 + 2 * A) (52 + 2 * B) I J N c k = σ c k := fun c k hc => by unfold am_cp; rw [if_neg (fun q => hc q.1)]
  have s2 : ∀ k : Nat, am_cp σ (52 + 2 * A) (52 + 2 * B) I J N (52 + 2 * B) k = if J ≤ k ∧ k < J + N then σ (52 + 2 * A) (I + (k - J)) else σ (52 + 2 * B) k := fun k => by
    unfold am_cp
    by_cases e : J ≤ k ∧ k < J + N
    · rw [if_pos ⟨rfl, e⟩, if_pos e]
    · rw [if_neg (fun q => e q.2), if_neg e]
  have t : ∀ c k : Nat, c ≠ 88 ∧ c ≠ 89 → md_c2 (md_c1 τ (60 * A + I) N) (60 * B + J) N c k = τ c k := fun c k hc => by rw [md_c2_at hc.1, md_c1_at hc.2]
  have t2 : ∀ k : Nat, md_c2 (md_c1 τ (60 * A + I) N) (60 * B + J) N 88 k = if 60 * B + J ≤ k ∧ k < 60 * B + J + N then τ 88 (60 * A + I + (k - (60 * B + J))) else τ 88 k := fun k => by
    unfold md_c2
    by_cases e : 60 * B + J ≤ k ∧ k < 60 * B + J + N
    · rw [if_pos ⟨rfl, e⟩, if_pos e]
      unfold md_c1
      rw [if_pos ⟨rfl, by omega⟩]
    · rw [if_neg (fun q => e q.2), if_neg e, md_c1_at (by decide)]
  refine cq_she1 hB (fun c k hc => s c k hc.2) (fun c k hc => t c k (by omega)) (fun d hd e => ⟨t 86 d (by decide), t 87 d (by decide)⟩) (fun d j hd e hj => by rw [t2, if_neg (by omega)]) ?_ h
  rw [s _ 1 (by omega), s _ 2 (by omega), s _ 3 (by omega), t 86 _ (by decide), t 87 _ (by decide)]
  refine ⟨⟨gb.1.1, gb.1.2.1, gb.1.2.2.1, gb.1.2.2.2.1, gb.1.2.2.2.2.1, fun j hj hq => ?_⟩, gb.2.1, gb.2.2.1, fun j hj => ?_⟩
  · rw [s2]
    by_cases e : J ≤ j ∧ j < J + N
    · rw [if_pos e]; exact ga.1.2.2.2.2.2 _ (by omega) (by omega)
    · rw [if_neg e]; exact gb.1.2.2.2.2.2 j hj hq
  · rw [s2, t2]
    by_cases e : J ≤ j ∧ j < J + N
    · rw [if_pos e, if_pos (by omega), show 60 * A + I + (60 * B + j - (60 * B + J)) = 60 * A + (I + (j - J)) by omega]
      exact ga.2.2.2 _ (by omega)
    · rw [if_neg e, if_neg (by omega)]; exact gb.2.2.2 j hj
