set_option maxHeartbeats 4000000 in
set_option maxRecDepth 100000 in
theorem m_X9_within (a b c : Int) (sh : List am_S) (σ : am_H) : am_Mi yX9_within cX9_within 3 (some .boolean) 0 0 0 [vi a, vi b, vi c] sh σ (fun r sh' σ' => sh = sh' ∧ σ = σ' ∧ am_b r (b ≤ a ∧ a ≤ c)) := by
  refine am_Mz_of (by decide +kernel) (Nat.le_of_ble_eq_true rfl) (fun K X hY hI hret => ?_)
  show am_G K 0 [some (vi a), some (vi b), some (vi c)] [] sh σ
  refine am_iload_n (x := a) X (by rfl) dX9_within_0 ?_
  refine am_iload_n (x := b) X (by rfl) dX9_within_1 ?_
  refine am_icmp_lt (tgt := 14) X dX9_within_2 (by decide) (fun h2 => ?_) (fun h2 => ?_)
  · skip
    refine am_ic X (by decide) dX9_within_14 ?_
    exact hret _ _ _ _ _ dX9_within_15 rfl rfl (by first | exact ⟨rfl, rfl, am_bt (by omega)⟩ | exact ⟨rfl, rfl, am_bf (by omega)⟩) (by first | exact Or.inl rfl | exact Or.inr rfl | omega)
  · skip
    refine am_iload_n (x := a) X (by rfl) dX9_within_5 ?_
    refine am_iload_n (x := c) X (by rfl) dX9_within_6 ?_
    refine am_icmp_gt (tgt := 14) X dX9_within_7 (by decide) (fun h7 => ?_) (fun h7 => ?_)
    · skip
      refine am_ic X (by decide) dX9_within_14 ?_
      exact hret _ _ _ _ _ dX9_within_15 rfl rfl (by first | exact ⟨rfl, rfl, am_bt (by omega)⟩ | exact ⟨rfl, rfl, am_bf (by omega)⟩) (by first | exact Or.inl rfl | exact Or.inr rfl | omega)
    · skip
      refine am_ic X (by decide) dX9_within_10 ?_
      refine am_goto (tgt := 15) X dX9_within_11 (by decide) ?_
      exact hret _ _ _ _ _ dX9_within_15 rfl rfl (by first | exact ⟨rfl, rfl, am_bt (by omega)⟩ | exact ⟨rfl, rfl, am_bf (by omega)⟩) (by first | exact Or.inl rfl | exact Or.inr rfl | omega)

set_option maxHeartbeats 4000000 in
set_option maxRecDepth 100000 in
theorem m_X9_isDay (a : Int) (sh : List am_S) (σ : am_H) : am_Mi yX9_isDay cX9_isDay 1 (some .boolean) 1 0 0 [vi a] sh σ (fun r sh' σ' => sh = sh' ∧ σ = σ' ∧ am_b r (0 ≤ a ∧ a ≤ 47)) := by
  refine am_Mz_of (by decide +kernel) (Nat.le_of_ble_eq_true rfl) (fun K X hY hI hret => ?_)
  show am_G K 0 [some (vi a)] [] sh σ
  refine am_iload_n (x := a) X (by rfl) dX9_isDay_0 ?_
  refine am_ic X (by decide) dX9_isDay_1 ?_
  refine am_bipush X (by decide) dX9_isDay_2 ?_
  refine am_callSi X hY lk_X9_75 mf_X9_within (m_X9_within a 0 47 _ σ) (by decide) (by decide) (Nat.le_refl _) (Nat.le_refl _) rfl rfl (Nat.le_of_ble_eq_true rfl) dX9_isDay_4 (fun r4 sh4 σ4 hr4 hp4 => ?_)
  obtain ⟨rfl, rfl, hq4⟩ := hp4
  exact hret _ _ _ _ _ dX9_isDay_7 rfl rfl (⟨rfl, rfl, hq4⟩) (am_bz hq4)

set_option maxHeartbeats 4000000 in
set_option maxRecDepth 100000 in
theorem m_X9_isShelf (a : Int) (sh : List am_S) (σ : am_H) : am_Mi yX9_isShelf cX9_isShelf 1 (some .boolean) 1 0 0 [vi a] sh σ (fun r sh' σ' => sh = sh' ∧ σ = σ' ∧ am_b r (0 ≤ a ∧ a ≤ 5)) := by
  refine am_Mz_of (by decide +kernel) (Nat.le_of_ble_eq_true rfl) (fun K X hY hI hret => ?_)
  show am_G K 0 [some (vi a)] [] sh σ
  refine am_iload_n (x := a) X (by rfl) dX9_isShelf_0 ?_
  refine am_ic X (by decide) dX9_isShelf_1 ?_
  refine am_ic X (by decide) dX9_isShelf_2 ?_
  refine am_callSi X hY lk_X9_75 mf_X9_within (m_X9_within a 0 5 _ σ) (by decide) (by decide) (Nat.le_refl _) (Nat.le_refl _) rfl rfl (Nat.le_of_ble_eq_true rfl) dX9_isShelf_3 (fun r3 sh3 σ3 hr3 hp3 => ?_)
  obtain ⟨rfl, rfl, hq3⟩ := hp3
  exact hret _ _ _ _ _ dX9_isShelf_6 rfl rfl (⟨rfl, rfl, hq3⟩) (am_bz hq3)

set_option maxHeartbeats 4000000 in
set_option maxRecDepth 100000 in
theorem m_X9_isHoly (a : Int) (ha : 0 ≤ a) (sh : List am_S) (σ : am_H) : am_Mi yX9_isHoly cX9_isHoly 1 (some .boolean) 0 0 0 [vi a] sh σ (fun r sh' σ' => sh = sh' ∧ σ = σ' ∧ am_b r (a % 4 = 3)) := by
  refine am_Mz_of (by decide +kernel) (Nat.le_of_ble_eq_true rfl) (fun K X hY hI hret => ?_)
  show am_G K 0 [some (vi a)] [] sh σ
  refine am_iload_n (x := a) X (by rfl) dX9_isHoly_0 ?_
  refine am_ic X (by decide) dX9_isHoly_1 ?_
  refine am_rem (v := (a % 4)) X (by omega) (by omega) rfl dX9_isHoly_2 ?_
  refine am_ic X (by decide) dX9_isHoly_3 ?_
  refine am_icmp_ne (tgt := 11) X dX9_isHoly_4 (by decide) (fun h4 => ?_) (fun h4 => ?_)
  · skip
    refine am_ic X (by decide) dX9_isHoly_11 ?_
    exact hret _ _ _ _ _ dX9_isHoly_12 rfl rfl (by first | exact ⟨rfl, rfl, am_bt (by omega)⟩ | exact ⟨rfl, rfl, am_bf (by omega)⟩) (by first | exact Or.inl rfl | exact Or.inr rfl | omega)
  · skip
    refine am_ic X (by decide) dX9_isHoly_7 ?_
    refine am_goto (tgt := 12) X dX9_isHoly_8 (by decide) ?_
    exact hret _ _ _ _ _ dX9_isHoly_12 rfl rfl (by first | exact ⟨rfl, rfl, am_bt (by omega)⟩ | exact ⟨rfl, rfl, am_bf (by omega)⟩) (by first | exact Or.inl rfl | exact Or.inr rfl | omega)

set_option maxHeartbeats 4000000 in
set_option maxRecDepth 100000 in
theorem m_X9_isDebtSo (a b : Int) (sh : List am_S) (σ : am_H) : am_Mi yX9_isDebtSo cX9_isDebtSo 2 (some .boolean) 1 0 0 [vi a, vi b] sh σ (fun r sh' σ' => sh = sh' ∧ σ = σ' ∧ am_b r ((1 ≤ a ∧ a ≤ 9) ∧ 0 ≤ b ∧ b ≤ 12)) := by
  refine am_Mz_of (by decide +kernel) (Nat.le_of_ble_eq_true rfl) (fun K X hY hI hret => ?_)
  show am_G K 0 [some (vi a), some (vi b)] [] sh σ
  refine am_iload_n (x := a) X (by rfl) dX9_isDebtSo_0 ?_
  refine am_ic X (by decide) dX9_isDebtSo_1 ?_
  refine am_bipush X (by decide) dX9_isDebtSo_2 ?_
  refine am_callSi X hY lk_X9_75 mf_X9_within (m_X9_within a 1 9 _ σ) (by decide) (by decide) (Nat.le_refl _) (Nat.le_refl _) rfl rfl (Nat.le_of_ble_eq_true rfl) dX9_isDebtSo_4 (fun r4 sh4 σ4 hr4 hp4 => ?_)
  obtain ⟨rfl, rfl, hq4⟩ := hp4
  refine am_if_eq (tgt := 24) X dX9_isDebtSo_7 (by decide) (fun h7 => ?_) (fun h7 => ?_)
  · skip
    refine am_ic X (by decide) dX9_isDebtSo_24 ?_
    exact hret _ _ _ _ _ dX9_isDebtSo_25 rfl rfl (by first | exact ⟨rfl, rfl, am_bt ⟨am_b1 hq4 h7, am_b1 hq14 h17⟩⟩ | exact ⟨rfl, rfl, am_bf (fun q => am_b0 hq4 h7 q.1)⟩ | exact ⟨rfl, rfl, am_bf (fun q => am_b0 hq14 h17 q.2)⟩) (by first | exact Or.inl rfl | exact Or.inr rfl | omega)
  · skip
    refine am_iload_n (x := b) X (by rfl) dX9_isDebtSo_10 ?_
    refine am_ic X (by decide) dX9_isDebtSo_11 ?_
    refine am_bipush X (by decide) dX9_isDebtSo_12 ?_
    refine am_callSi X hY lk_X9_75 mf_X9_within (m_X9_within b 0 12 _ σ) (by decide) (by decide) (Nat.le_refl _) (Nat.le_refl _) rfl rfl (Nat.le_of_ble_eq_true rfl) dX9_isDebtSo_14 (fun r14 sh14 σ14 hr14 hp14 => ?_)
    obtain ⟨rfl, rfl, hq14⟩ := hp14
    refine am_if_eq (tgt := 24) X dX9_isDebtSo_17 (by decide) (fun h17 => ?_) (fun h17 => ?_)
    · skip
      refine am_ic X (by decide) dX9_isDebtSo_24 ?_
      exact hret _ _ _ _ _ dX9_isDebtSo_25 rfl rfl (by first | exact ⟨rfl, rfl, am_bt ⟨am_b1 hq4 h7, am_b1 hq14 h17⟩⟩ | exact ⟨rfl, rfl, am_bf (fun q => am_b0 hq4 h7 q.1)⟩ | exact ⟨rfl, rfl, am_bf (fun q => am_b0 hq14 h17 q.2)⟩) (by first | exact Or.inl rfl | exact Or.inr rfl | omega)
    · skip
      refine am_ic X (by decide) dX9_isDebtSo_20 ?_
      refine am_goto (tgt := 25) X dX9_isDebtSo_21 (by decide) ?_
      exact hret _ _ _ _ _ dX9_isDebtSo_25 rfl rfl (by first | exact ⟨rfl, rfl, am_bt ⟨am_b1 hq4 h7, am_b1 hq14 h17⟩⟩ | exact ⟨rfl, rfl, am_bf (fun q => am_b0 hq4 h7 q.1)⟩ | exact ⟨rfl, rfl, am_bf (fun q => am_b0 hq14 h17 q.2)⟩) (by first | exact Or.inl rfl | exact Or.inr rfl | omega)
