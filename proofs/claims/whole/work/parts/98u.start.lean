/-! the relation at the start -/
def mk_S10 : am_H := am_up (mk_fill (am_up (mk_fill mk_S9 86 (-1) 6) 63 13 (-1)) 64 5 12) 64 21 1
theorem mk_S10_k {c k : Nat} (h : c ≠ 63 ∧ c ≠ 64 ∧ c ≠ 86) : mk_S10 c k = mk_S9 c k := by
  unfold mk_S10
  rw [am_up_k (by omega), mk_fill_k (by omega), am_up_k (by omega), mk_fill_k (by omega)]
theorem mk_S9_k {c k : Nat} (h : c ≠ 51 ∧ c ≠ 53 ∧ c ≠ 55 ∧ c ≠ 57 ∧ c ≠ 59 ∧ c ≠ 61) : mk_S9 c k = mk_E2 35 (mk_E2 22 (mk_E6 1 mk_Z)) c k := by
  unfold mk_S9
  rw [mk_E7_k (by omega), mk_E7_k (by omega), mk_E7_k (by omega), mk_E7_k (by omega), mk_E7_k (by omega), mk_E7_k (by omega)]
theorem mk_S9_0 {c k : Nat} (h : c ≠ 51 ∧ c ≠ 53 ∧ c ≠ 55 ∧ c ≠ 57 ∧ c ≠ 59 ∧ c ≠ 61 ∧ c ≠ 1 ∧ c ≠ 2 ∧ c ≠ 26 ∧ c ≠ 27 ∧ c ≠ 39 ∧ c ≠ 40) : mk_S9 c k = 0 := by
  rw [mk_S9_k (by omega), mk_E2_k (by omega), mk_E2_k (by omega), mk_E6_k (by omega)]; rfl
theorem mk_S10_0 {c k : Nat} (h : c ≠ 51 ∧ c ≠ 53 ∧ c ≠ 55 ∧ c ≠ 57 ∧ c ≠ 59 ∧ c ≠ 61 ∧ c ≠ 1 ∧ c ≠ 2 ∧ c ≠ 26 ∧ c ≠ 27 ∧ c ≠ 39 ∧ c ≠ 40 ∧ c ≠ 63 ∧ c ≠ 64 ∧ c ≠ 86) : mk_S10 c k = 0 := by
  rw [mk_S10_k (by omega), mk_S9_0 (by omega)]
theorem mk_S10_63 {k : Nat} (h : k ≠ 13) : mk_S10 63 k = 0 := by
  unfold mk_S10
  rw [am_up_k (by omega), mk_fill_k (by omega), am_up_k (by omega), mk_fill_k (by omega), mk_S9_0 (by omega)]
theorem mk_S10_2 {k : Nat} (h : k < 12) : mk_S10 2 k = 5 := by
  rw [mk_S10_k (by omega), mk_S9_k (by omega), mk_E2_k (by omega), mk_E2_k (by omega)]
  unfold mk_E6 mk_fill
  rw [if_pos ⟨rfl, h⟩]
theorem mk_S10_64 {k : Nat} (h : k < 12) : mk_S10 64 k = 5 := by
  unfold mk_S10
  rw [am_up_k (by omega)]
  unfold mk_fill
  rw [if_pos ⟨rfl, h⟩]
theorem mk_S10_l {c k : Nat} (hc : c = 26 ∨ c = 27) (h : k < 384) : mk_S10 c k = -2 := by
  rw [mk_S10_k (by omega), mk_S9_k (by omega), mk_E2_k (by omega)]
  unfold mk_E2 mk_two
  rw [if_pos ⟨by omega, h⟩]
theorem mk_S10_s {d : Nat} (h : d < 6) : mk_S10 (51 + 2 * d) 1 = -1 ∧ mk_S10 (51 + 2 * d) 2 = -1 ∧ mk_S10 (51 + 2 * d) 3 = 0 ∧ mk_S10 86 d = -1 ∧ mk_S10 87 d = 0 := by
  rcases (show d = 0 ∨ d = 1 ∨ d = 2 ∨ d = 3 ∨ d = 4 ∨ d = 5 by omega) with rfl | rfl | rfl | rfl | rfl | rfl
  · exact ⟨by decide +kernel, by decide +kernel, by decide +kernel, by decide +kernel, by decide +kernel⟩
  · exact ⟨by decide +kernel, by decide +kernel, by decide +kernel, by decide +kernel, by decide +kernel⟩
  · exact ⟨by decide +kernel, by decide +kernel, by decide +kernel, by decide +kernel, by decide +kernel⟩
  · exact ⟨by decide +kernel, by decide +kernel, by decide +kernel, by decide +kernel, by decide +kernel⟩
  · exact ⟨by decide +kernel, by decide +kernel, by decide +kernel, by decide +kernel, by decide +kernel⟩
  · exact ⟨by decide +kernel, by decide +kernel, by decide +kernel, by decide +kernel, by decide +kernel⟩
theorem RR_start : RR mk_S10 mk_S10 := by
  have h12 : mk_S10 1 2 = 0 := by decide +kernel
  have h13 : mk_S10 1 3 = 0 := by decide +kernel
  have h14 : mk_S10 1 4 = 1 := by decide +kernel
  have h20 : mk_S10 64 20 = 0 := by decide +kernel
  have h21 : mk_S10 64 21 = 1 := by decide +kernel
  have h63 : ∀ k, k ≠ 13 → mk_S10 63 k = 0 := fun k h => mk_S10_63 h
  have h13' : mk_S10 63 13 = -1 := by decide +kernel
  have hz : ∀ c k : Nat, c = 4 ∨ c = 9 ∨ c = 16 ∨ c = 22 ∨ c = 25 ∨ c = 28 ∨ c = 38 ∨ c = 73 ∨ c = 0 ∨ c = 46 ∨ c = 44 ∨ c = 45 → mk_S10 c k = 0 := fun c k h => mk_S10_0 (by omega)
  have h2 : ∀ k, k < 12 → mk_S10 2 k = 5 := fun k h => mk_S10_2 h
  have h64 : ∀ k, k < 12 → mk_S10 64 k = 5 := fun k h => mk_S10_64 h
  have hl : ∀ c k : Nat, c = 26 ∨ c = 27 → k < 384 → mk_S10 c k = -2 := fun c k hc h => mk_S10_l hc h
  have hs : ∀ d : Nat, d < 6 → mk_S10 (51 + 2 * d) 1 = -1 ∧ mk_S10 (51 + 2 * d) 2 = -1 ∧ mk_S10 (51 + 2 * d) 3 = 0 ∧ mk_S10 86 d = -1 ∧ mk_S10 87 d = 0 := fun d h => mk_S10_s h
  generalize mk_S10 = S at *
  refine ⟨⟨?_, fun k hk => ?_, fun k hk => ?_, ?_, ?_⟩, ⟨?_, fun k hk => ?_⟩, ⟨⟨?_, fun k hk => ?_⟩, Or.inl (hz 9 7 (by omega)), Or.inl h13', ?_⟩, ⟨?_, fun n hn => ?_⟩, ⟨?_, ?_, fun k hk => ?_, fun p hp => ?_, fun k hk => ?_, fun k hk hk2 => ?_⟩, fun j hj => ⟨Or.inl (hz 25 j (by omega)), Or.inl (hz 38 j (by omega))⟩, ⟨⟨?_, Or.inl (hz 0 11 (by omega))⟩, fun q => ?_⟩, ⟨?_, fun k hk => ?_, ?_, fun k hk _ => ?_⟩, ⟨fun d hd => ?_, fun d hd => ?_⟩, hz 44 0 (by omega), hz 45 0 (by omega)⟩
  · rw [h63 6 (by decide), h12]; decide
  · rw [h64 k hk, h2 k hk]; decide
  · rw [h12] at hk; omega
  · rw [h20, h13]; decide
  · rw [h21, h14]; decide
  · rw [h63 5 (by decide), h63 4 (by decide), hz 4 4 (by omega), hz 4 5 (by omega)]; decide
  · rw [hz 4 4 (by omega), hz 4 5 (by omega)] at hk; omega
  · rw [h63 11 (by decide), hz 9 6 (by omega)]; decide
  · rw [hz 9 6 (by omega)] at hk; omega
  · unfold md_lw c_lw
    rw [if_pos (by omega), if_neg (by rw [hz 9 7 (by omega)]; decide)]
  · rw [h63 7 (by decide), hz 16 5 (by omega)]; decide
  · rw [hz 16 5 (by omega)] at hn; omega
  · rw [h63 20 (by decide), hz 22 6 (by omega)]; decide
  · rw [h63 9 (by decide), hz 22 7 (by omega)]; decide
  · rw [hz 22 6 (by omega)] at hk; omega
  · show S 73 p = S 28 p
    rw [hz 73 p (by omega), hz 28 p (by omega)]
  · rw [hz 22 7 (by omega)] at hk; omega
  · exact ⟨hl 26 k (by omega) hk2, hl 27 k (by omega) hk2⟩
  · rw [h63 30 (by decide), hz 0 11 (by omega)]
  · rw [hz 0 11 (by omega)] at q; omega
  · rw [h63 39 (by decide), hz 46 2 (by omega)]; decide
  · rw [hz 46 2 (by omega)] at hk; omega
  · rw [h63 42 (by decide), hz 46 3 (by omega)]; decide
  · rw [hz 46 3 (by omega)] at hk; omega
  · have q := hs d hd
    rw [q.1, q.2.1, q.2.2.1, hz 46 2 (by omega)]
    exact ⟨by omega, by omega, by omega, fun _ => rfl, fun z => by omega, fun j hj => by omega⟩
  · have q := hs d hd
    rw [q.1, q.2.1, q.2.2.1, q.2.2.2.1, q.2.2.2.2]
    exact ⟨rfl, rfl, fun j hj => by omega⟩
