set_option maxHeartbeats 4000000 in
set_option maxRecDepth 100000 in
theorem m_X10_within (a b c : Int) (sh : List am_S) (σ : am_H) : am_Mi yX10_within cX10_within 6 (some .boolean) 0 0 0 [vl a, vl b, vl c] sh σ (fun r sh' σ' => sh = sh' ∧ σ = σ' ∧ am_b r (b ≤ a ∧ a ≤ c)) := by
  refine am_Mz_of (by decide +kernel) (Nat.le_of_ble_eq_true rfl) (fun K X hY hI hret => ?_)
  show am_G K 0 [some (vl a), none, some (vl b), none, some (vl c), none] [] sh σ
  refine am_lload_n (x := a) X (by rfl) dX10_within_0 ?_
  refine am_lload_n (x := b) X (by rfl) dX10_within_1 ?_
  refine am_lcmp X dX10_within_2 ?_
  refine am_topi (fun y2 hy2 => ?_)
  have hc2 : (y2 = 1 ∧ b < a) ∨ (y2 = 0 ∧ a = b) ∨ (y2 = -1 ∧ a < b) := by rw [hy2]; split <;> (try split) <;> omega
  clear hy2
  refine am_if_lt (tgt := 17) X dX10_within_3 (by decide) (fun h3 => ?_) (fun h3 => ?_)
  · skip
    refine am_ic X (by decide) dX10_within_17 ?_
    exact hret _ _ _ _ _ dX10_within_18 rfl rfl (by first | exact ⟨rfl, rfl, am_bt (by omega)⟩ | exact ⟨rfl, rfl, am_bf (by omega)⟩) (by first | exact Or.inl rfl | exact Or.inr rfl | omega)
  · skip
    refine am_lload_n (x := a) X (by rfl) dX10_within_6 ?_
    refine am_lload (x := c) X (by rfl) dX10_within_7 ?_
    refine am_lcmp X dX10_within_9 ?_
    refine am_topi (fun y9 hy9 => ?_)
    have hc9 : (y9 = 1 ∧ c < a) ∨ (y9 = 0 ∧ a = c) ∨ (y9 = -1 ∧ a < c) := by rw [hy9]; split <;> (try split) <;> omega
    clear hy9
    refine am_if_gt (tgt := 17) X dX10_within_10 (by decide) (fun h10 => ?_) (fun h10 => ?_)
    · skip
      refine am_ic X (by decide) dX10_within_17 ?_
      exact hret _ _ _ _ _ dX10_within_18 rfl rfl (by first | exact ⟨rfl, rfl, am_bt (by omega)⟩ | exact ⟨rfl, rfl, am_bf (by omega)⟩) (by first | exact Or.inl rfl | exact Or.inr rfl | omega)
    · skip
      refine am_ic X (by decide) dX10_within_13 ?_
      refine am_goto (tgt := 18) X dX10_within_14 (by decide) ?_
      exact hret _ _ _ _ _ dX10_within_18 rfl rfl (by first | exact ⟨rfl, rfl, am_bt (by omega)⟩ | exact ⟨rfl, rfl, am_bf (by omega)⟩) (by first | exact Or.inl rfl | exact Or.inr rfl | omega)

set_option maxHeartbeats 4000000 in
set_option maxRecDepth 100000 in
theorem m_X10_isPerson (a : Int) (σ : am_H) (hp : 0 ≤ σ 63 6 ∧ σ 63 6 ≤ 8) : am_Mi yX10_isPerson cX10_isPerson 2 (some .boolean) 1 0 0 [vr 63, vi a] SH σ (fun r sh' σ' => SH = sh' ∧ σ = σ' ∧ am_b r (0 ≤ a ∧ a < σ 63 6)) := by
  refine am_Mz_of (by decide +kernel) (Nat.le_of_ble_eq_true rfl) (fun K X hY hI hret => ?_)
  show am_G K 0 [some (vr 63), some (vi a)] [] SH σ
  refine am_iload_n (x := a) X (by rfl) dX10_isPerson_0 ?_
  refine am_i2l X dX10_isPerson_1 ?_
  refine am_lc (v := 0) X (by rfl) dX10_isPerson_2 ?_
  refine am_aload_n (x := 63) X (by rfl) dX10_isPerson_3 ?_
  refine am_get (v := σ 63 6) X 63 fl_X10_100 (by decide) sh_63 (by decide) (rfl) dX10_isPerson_4 ?_
  refine am_ic X (by decide) dX10_isPerson_7 ?_
  refine am_sub (v := (σ 63 6 - 1)) X (by first | rfl | omega) (by omega) dX10_isPerson_8 ?_
  refine am_i2l X dX10_isPerson_9 ?_
  refine am_callSi X hY lk_X10_103 mf_X10_within (m_X10_within a 0 (σ 63 6 - 1) _ σ) (by decide) (by decide) (Nat.le_refl _) (Nat.le_refl _) rfl rfl (Nat.le_of_ble_eq_true rfl) dX10_isPerson_10 (fun r10 sh10 σ10 hr10 hp10 => ?_)
  obtain ⟨rfl, rfl, hq10⟩ := hp10
  exact hret _ _ _ _ _ dX10_isPerson_13 rfl rfl (⟨rfl, rfl, am_bi hq10 (by omega)⟩) (am_bz hq10)

set_option maxHeartbeats 4000000 in
set_option maxRecDepth 100000 in
theorem m_X10_isPq (a : Int) (σ : am_H) (hp : 0 ≤ σ 63 6 ∧ σ 63 6 ≤ 8) : am_Mi yX10_isPq cX10_isPq 2 (some .boolean) 2 0 0 [vr 63, vi a] SH σ (fun r sh' σ' => SH = sh' ∧ σ = σ' ∧ am_b r (0 ≤ a ∧ (0 ≤ a / 10 ∧ a / 10 < σ 63 6) ∧ (0 ≤ a % 10 ∧ a % 10 < σ 63 6) ∧ a / 10 ≠ a % 10)) := by
  refine am_Mz_of (by decide +kernel) (Nat.le_of_ble_eq_true rfl) (fun K X hY hI hret => ?_)
  show am_G K 0 [some (vr 63), some (vi a)] [] SH σ
  refine am_iload_n (x := a) X (by rfl) dX10_isPq_0 ?_
  refine am_if_lt (tgt := 41) X dX10_isPq_1 (by decide) (fun h1 => ?_) (fun h1 => ?_)
  · skip
    refine am_ic X (by decide) dX10_isPq_41 ?_
    exact hret _ _ _ _ _ dX10_isPq_42 rfl rfl (by first | exact ⟨rfl, rfl, am_bt (by omega)⟩ | exact ⟨rfl, rfl, am_bf (by omega)⟩) (by first | exact Or.inl rfl | exact Or.inr rfl | omega)
  · skip
    refine am_aload_n (x := 63) X (by rfl) dX10_isPq_4 ?_
    refine am_iload_n (x := a) X (by rfl) dX10_isPq_5 ?_
    refine am_bipush X (by decide) dX10_isPq_6 ?_
    refine am_div (v := (a / 10)) X (by omega) (by omega) rfl dX10_isPq_8 ?_
    refine am_callVi (ci := 9) X hY lk_X10_107 mf_X10_isPerson (m_X10_isPerson (a / 10) σ hp) (by decide) (by decide) (Nat.le_refl _) (Nat.le_refl _) sh_63 rfl rfl rfl (Nat.le_of_ble_eq_true rfl) dX10_isPq_9 (fun r9 sh9 σ9 hr9 hp9 => ?_)
    obtain ⟨rfl, rfl, hq9⟩ := hp9
    refine am_if_eq (tgt := 41) X dX10_isPq_12 (by decide) (fun h12 => ?_) (fun h12 => ?_)
    · skip
      refine am_ic X (by decide) dX10_isPq_41 ?_
      exact hret _ _ _ _ _ dX10_isPq_42 rfl rfl (by first | exact ⟨rfl, rfl, am_bt (by omega)⟩ | exact ⟨rfl, rfl, am_bf (by omega)⟩) (by first | exact Or.inl rfl | exact Or.inr rfl | omega)
    · skip
      refine am_aload_n (x := 63) X (by rfl) dX10_isPq_15 ?_
      refine am_iload_n (x := a) X (by rfl) dX10_isPq_16 ?_
      refine am_bipush X (by decide) dX10_isPq_17 ?_
      refine am_rem (v := (a % 10)) X (by omega) (by omega) rfl dX10_isPq_19 ?_
      refine am_callVi (ci := 9) X hY lk_X10_107 mf_X10_isPerson (m_X10_isPerson (a % 10) σ hp) (by decide) (by decide) (Nat.le_refl _) (Nat.le_refl _) sh_63 rfl rfl rfl (Nat.le_of_ble_eq_true rfl) dX10_isPq_20 (fun r20 sh20 σ20 hr20 hp20 => ?_)
      obtain ⟨rfl, rfl, hq20⟩ := hp20
      refine am_if_eq (tgt := 41) X dX10_isPq_23 (by decide) (fun h23 => ?_) (fun h23 => ?_)
      · skip
        refine am_ic X (by decide) dX10_isPq_41 ?_
        exact hret _ _ _ _ _ dX10_isPq_42 rfl rfl (by first | exact ⟨rfl, rfl, am_bt (by omega)⟩ | exact ⟨rfl, rfl, am_bf (by omega)⟩) (by first | exact Or.inl rfl | exact Or.inr rfl | omega)
      · skip
        refine am_iload_n (x := a) X (by rfl) dX10_isPq_26 ?_
        refine am_bipush X (by decide) dX10_isPq_27 ?_
        refine am_div (v := (a / 10)) X (by omega) (by omega) rfl dX10_isPq_29 ?_
        refine am_iload_n (x := a) X (by rfl) dX10_isPq_30 ?_
        refine am_bipush X (by decide) dX10_isPq_31 ?_
        refine am_rem (v := (a % 10)) X (by omega) (by omega) rfl dX10_isPq_33 ?_
        refine am_icmp_eq (tgt := 41) X dX10_isPq_34 (by decide) (fun h34 => ?_) (fun h34 => ?_)
        · skip
          refine am_ic X (by decide) dX10_isPq_41 ?_
          exact hret _ _ _ _ _ dX10_isPq_42 rfl rfl (by first | exact ⟨rfl, rfl, am_bt (by omega)⟩ | exact ⟨rfl, rfl, am_bf (by omega)⟩) (by first | exact Or.inl rfl | exact Or.inr rfl | omega)
        · skip
          refine am_ic X (by decide) dX10_isPq_37 ?_
          refine am_goto (tgt := 42) X dX10_isPq_38 (by decide) ?_
          exact hret _ _ _ _ _ dX10_isPq_42 rfl rfl (by first | exact ⟨rfl, rfl, am_bt (by omega)⟩ | exact ⟨rfl, rfl, am_bf (by omega)⟩) (by first | exact Or.inl rfl | exact Or.inr rfl | omega)

set_option maxHeartbeats 4000000 in
set_option maxRecDepth 100000 in
theorem m_X10_isDebt (a : Int) (σ : am_H) (hc : 0 ≤ σ 63 7 ∧ σ 63 7 ≤ 20) : am_Mi yX10_isDebt cX10_isDebt 2 (some .boolean) 1 0 0 [vr 63, vi a] SH σ (fun r sh' σ' => SH = sh' ∧ σ = σ' ∧ am_b r (0 ≤ a ∧ a < σ 63 7)) := by
  refine am_Mz_of (by decide +kernel) (Nat.le_of_ble_eq_true rfl) (fun K X hY hI hret => ?_)
  show am_G K 0 [some (vr 63), some (vi a)] [] SH σ
  refine am_iload_n (x := a) X (by rfl) dX10_isDebt_0 ?_
  refine am_i2l X dX10_isDebt_1 ?_
  refine am_lc (v := 0) X (by rfl) dX10_isDebt_2 ?_
  refine am_aload_n (x := 63) X (by rfl) dX10_isDebt_3 ?_
  refine am_get (v := σ 63 7) X 63 fl_X10_111 (by decide) sh_63 (by decide) (rfl) dX10_isDebt_4 ?_
  refine am_ic X (by decide) dX10_isDebt_7 ?_
  refine am_sub (v := (σ 63 7 - 1)) X (by first | rfl | omega) (by omega) dX10_isDebt_8 ?_
  refine am_i2l X dX10_isDebt_9 ?_
  refine am_callSi X hY lk_X10_103 mf_X10_within (m_X10_within a 0 (σ 63 7 - 1) _ σ) (by decide) (by decide) (Nat.le_refl _) (Nat.le_refl _) rfl rfl (Nat.le_of_ble_eq_true rfl) dX10_isDebt_10 (fun r10 sh10 σ10 hr10 hp10 => ?_)
  obtain ⟨rfl, rfl, hq10⟩ := hp10
  exact hret _ _ _ _ _ dX10_isDebt_13 rfl rfl (⟨rfl, rfl, am_bi hq10 (by omega)⟩) (am_bz hq10)

set_option maxHeartbeats 4000000 in
set_option maxRecDepth 100000 in
theorem m_X10_isDay (a : Int) (sh : List am_S) (σ : am_H) : am_Mi yX10_isDay cX10_isDay 1 (some .boolean) 1 0 0 [vi a] sh σ (fun r sh' σ' => sh = sh' ∧ σ = σ' ∧ am_b r (0 ≤ a ∧ a ≤ 47)) := by
  refine am_Mz_of (by decide +kernel) (Nat.le_of_ble_eq_true rfl) (fun K X hY hI hret => ?_)
  show am_G K 0 [some (vi a)] [] sh σ
  refine am_iload_n (x := a) X (by rfl) dX10_isDay_0 ?_
  refine am_i2l X dX10_isDay_1 ?_
  refine am_lc (v := 0) X (by rfl) dX10_isDay_2 ?_
  refine am_ldc2 X (n := 47) (by unfold R64; decide) cn_X10_114 dX10_isDay_3 ?_
  refine am_callSi X hY lk_X10_103 mf_X10_within (m_X10_within a 0 47 _ σ) (by decide) (by decide) (Nat.le_refl _) (Nat.le_refl _) rfl rfl (Nat.le_of_ble_eq_true rfl) dX10_isDay_6 (fun r6 sh6 σ6 hr6 hp6 => ?_)
  obtain ⟨rfl, rfl, hq6⟩ := hp6
  exact hret _ _ _ _ _ dX10_isDay_9 rfl rfl (⟨rfl, rfl, am_bi hq6 (by omega)⟩) (am_bz hq6)

set_option maxHeartbeats 4000000 in
set_option maxRecDepth 100000 in
theorem m_X10_isShelf (a : Int) (sh : List am_S) (σ : am_H) : am_Mi yX10_isShelf cX10_isShelf 1 (some .boolean) 1 0 0 [vi a] sh σ (fun r sh' σ' => sh = sh' ∧ σ = σ' ∧ am_b r (0 ≤ a ∧ a ≤ 5)) := by
  refine am_Mz_of (by decide +kernel) (Nat.le_of_ble_eq_true rfl) (fun K X hY hI hret => ?_)
  show am_G K 0 [some (vi a)] [] sh σ
  refine am_iload_n (x := a) X (by rfl) dX10_isShelf_0 ?_
  refine am_i2l X dX10_isShelf_1 ?_
  refine am_lc (v := 0) X (by rfl) dX10_isShelf_2 ?_
  refine am_ldc2 X (n := 5) (by unfold R64; decide) cn_X10_342 dX10_isShelf_3 ?_
  refine am_callSi X hY lk_X10_103 mf_X10_within (m_X10_within a 0 5 _ σ) (by decide) (by decide) (Nat.le_refl _) (Nat.le_refl _) rfl rfl (Nat.le_of_ble_eq_true rfl) dX10_isShelf_6 (fun r6 sh6 σ6 hr6 hp6 => ?_)
  obtain ⟨rfl, rfl, hq6⟩ := hp6
  exact hret _ _ _ _ _ dX10_isShelf_9 rfl rfl (⟨rfl, rfl, am_bi hq6 (by omega)⟩) (am_bz hq6)

set_option maxHeartbeats 4000000 in
set_option maxRecDepth 100000 in
theorem m_X10_isBody (a : Int) (σ : am_H) (hb : 0 ≤ σ 63 39 ∧ σ 63 39 ≤ 50) : am_Mi yX10_isBody cX10_isBody 2 (some .boolean) 1 0 0 [vr 63, vi a] SH σ (fun r sh' σ' => SH = sh' ∧ σ = σ' ∧ am_b r (0 ≤ a ∧ a < σ 63 39)) := by
  refine am_Mz_of (by decide +kernel) (Nat.le_of_ble_eq_true rfl) (fun K X hY hI hret => ?_)
  show am_G K 0 [some (vr 63), some (vi a)] [] SH σ
  refine am_iload_n (x := a) X (by rfl) dX10_isBody_0 ?_
  refine am_i2l X dX10_isBody_1 ?_
  refine am_lc (v := 0) X (by rfl) dX10_isBody_2 ?_
  refine am_aload_n (x := 63) X (by rfl) dX10_isBody_3 ?_
  refine am_get (v := σ 63 39) X 63 fl_X10_309 (by decide) sh_63 (by decide) (rfl) dX10_isBody_4 ?_
  refine am_ic X (by decide) dX10_isBody_7 ?_
  refine am_sub (v := (σ 63 39 - 1)) X (by first | rfl | omega) (by omega) dX10_isBody_8 ?_
  refine am_i2l X dX10_isBody_9 ?_
  refine am_callSi X hY lk_X10_103 mf_X10_within (m_X10_within a 0 (σ 63 39 - 1) _ σ) (by decide) (by decide) (Nat.le_refl _) (Nat.le_refl _) rfl rfl (Nat.le_of_ble_eq_true rfl) dX10_isBody_10 (fun r10 sh10 σ10 hr10 hp10 => ?_)
  obtain ⟨rfl, rfl, hq10⟩ := hp10
  exact hret _ _ _ _ _ dX10_isBody_13 rfl rfl (⟨rfl, rfl, am_bi hq10 (by omega)⟩) (am_bz hq10)

set_option maxHeartbeats 4000000 in
set_option maxRecDepth 100000 in
theorem m_X10_isHoly (a : Int) (ha : 0 ≤ a) (sh : List am_S) (σ : am_H) : am_Mi yX10_isHoly cX10_isHoly 1 (some .boolean) 0 0 0 [vi a] sh σ (fun r sh' σ' => sh = sh' ∧ σ = σ' ∧ am_b r (a % 4 = 3)) := by
  refine am_Mz_of (by decide +kernel) (Nat.le_of_ble_eq_true rfl) (fun K X hY hI hret => ?_)
  show am_G K 0 [some (vi a)] [] sh σ
  refine am_iload_n (x := a) X (by rfl) dX10_isHoly_0 ?_
  refine am_ic X (by decide) dX10_isHoly_1 ?_
  refine am_rem (v := (a % 4)) X (by omega) (by omega) rfl dX10_isHoly_2 ?_
  refine am_ic X (by decide) dX10_isHoly_3 ?_
  refine am_icmp_ne (tgt := 11) X dX10_isHoly_4 (by decide) (fun h4 => ?_) (fun h4 => ?_)
  · skip
    refine am_ic X (by decide) dX10_isHoly_11 ?_
    exact hret _ _ _ _ _ dX10_isHoly_12 rfl rfl (by first | exact ⟨rfl, rfl, am_bt (by omega)⟩ | exact ⟨rfl, rfl, am_bf (by omega)⟩) (by first | exact Or.inl rfl | exact Or.inr rfl | omega)
  · skip
    refine am_ic X (by decide) dX10_isHoly_7 ?_
    refine am_goto (tgt := 12) X dX10_isHoly_8 (by decide) ?_
    exact hret _ _ _ _ _ dX10_isHoly_12 rfl rfl (by first | exact ⟨rfl, rfl, am_bt (by omega)⟩ | exact ⟨rfl, rfl, am_bf (by omega)⟩) (by first | exact Or.inl rfl | exact Or.inr rfl | omega)

set_option maxHeartbeats 4000000 in
set_option maxRecDepth 100000 in
theorem m_X10_isOpen (a : Int) (k : Nat) (ha : a = k) (hk : k < 20) (σ : am_H) : am_Mi yX10_isOpen cX10_isOpen 2 (some .boolean) 0 0 0 [vr 63, vi a] SH σ (fun r sh' σ' => SH = sh' ∧ σ = σ' ∧ am_b r (0 < σ 68 (5 * k + 2))) := by
  refine am_Mz_of (by decide +kernel) (Nat.le_of_ble_eq_true rfl) (fun K X hY hI hret => ?_)
  show am_G K 0 [some (vr 63), some (vi a)] [] SH σ
  refine am_aload_n (x := 63) X (by rfl) dX10_isOpen_0 ?_
  refine am_getr (c1 := 68) X 63 fl_X10_22 (by decide) sh_63 (by decide) (by rfl) dX10_isOpen_1 ?_
  refine am_ic X (by decide) dX10_isOpen_4 ?_
  refine am_iload_n (x := a) X (by rfl) dX10_isOpen_5 ?_
  refine am_mul (v := (5 * a)) X (by first | rfl | omega) (by omega) dX10_isOpen_6 ?_
  refine am_ic X (by decide) dX10_isOpen_7 ?_
  refine am_add (v := ((5 * a) + 2)) X (by first | rfl | omega) (by omega) dX10_isOpen_8 ?_
  refine am_ald (v := σ 68 (5 * k + 2)) X 68 (5 * k + 2) sh_68 (by omega) (by omega) (rfl) dX10_isOpen_9 ?_
  refine am_if_le (tgt := 17) X dX10_isOpen_10 (by decide) (fun h10 => ?_) (fun h10 => ?_)
  · skip
    refine am_ic X (by decide) dX10_isOpen_17 ?_
    exact hret _ _ _ _ _ dX10_isOpen_18 rfl rfl (by first | exact ⟨rfl, rfl, am_bt (by omega)⟩ | exact ⟨rfl, rfl, am_bf (by omega)⟩) (by first | exact Or.inl rfl | exact Or.inr rfl | omega)
  · skip
    refine am_ic X (by decide) dX10_isOpen_13 ?_
    refine am_goto (tgt := 18) X dX10_isOpen_14 (by decide) ?_
    exact hret _ _ _ _ _ dX10_isOpen_18 rfl rfl (by first | exact ⟨rfl, rfl, am_bt (by omega)⟩ | exact ⟨rfl, rfl, am_bf (by omega)⟩) (by first | exact Or.inl rfl | exact Or.inr rfl | omega)

set_option maxHeartbeats 4000000 in
set_option maxRecDepth 100000 in
theorem m_X10_isOne (p q d k : Int) (σ : am_H) (hp : 0 ≤ σ 63 6 ∧ σ 63 6 ≤ 8) : am_Mi yX10_isOne cX10_isOne 9 (some .boolean) 1 0 0 [vr 63, vl p, vl q, vl d, vl k] SH σ (fun r sh' σ' => SH = sh' ∧ σ = σ' ∧ am_b r ((0 ≤ p ∧ p < σ 63 6) ∧ (0 ≤ q ∧ q < σ 63 6) ∧ p ≠ q ∧ (1 ≤ d ∧ d ≤ 9) ∧ 0 ≤ k ∧ k ≤ 12)) := by
  refine am_Mz_of (by decide +kernel) (Nat.le_of_ble_eq_true rfl) (fun K X hY hI hret => ?_)
  show am_G K 0 [some (vr 63), some (vl p), none, some (vl q), none, some (vl d), none, some (vl k), none] [] SH σ
  refine am_lload_n (x := p) X (by rfl) dX10_isOne_0 ?_
  refine am_lc (v := 0) X (by rfl) dX10_isOne_1 ?_
  refine am_aload_n (x := 63) X (by rfl) dX10_isOne_2 ?_
  refine am_get (v := σ 63 6) X 63 fl_X10_100 (by decide) sh_63 (by decide) (rfl) dX10_isOne_3 ?_
  refine am_ic X (by decide) dX10_isOne_6 ?_
  refine am_sub (v := (σ 63 6 - 1)) X (by first | rfl | omega) (by omega) dX10_isOne_7 ?_
  refine am_i2l X dX10_isOne_8 ?_
  refine am_callSi X hY lk_X10_103 mf_X10_within (m_X10_within p 0 (σ 63 6 - 1) _ σ) (by decide) (by decide) (Nat.le_refl _) (Nat.le_refl _) rfl rfl (Nat.le_of_ble_eq_true rfl) dX10_isOne_9 (fun r9 sh9 σ9 hr9 hp9 => ?_)
  obtain ⟨rfl, rfl, hq9⟩ := hp9
  refine am_if_eq (tgt := 64) X dX10_isOne_12 (by decide) (fun h12 => ?_) (fun h12 => ?_)
  · skip
    refine am_ic X (by decide) dX10_isOne_64 ?_
    exact hret _ _ _ _ _ dX10_isOne_65 rfl rfl (by first | exact ⟨rfl, rfl, am_bt (by omega)⟩ | exact ⟨rfl, rfl, am_bf (by omega)⟩) (by first | exact Or.inl rfl | exact Or.inr rfl | omega)
  · skip
    refine am_lload_n (x := q) X (by rfl) dX10_isOne_15 ?_
    refine am_lc (v := 0) X (by rfl) dX10_isOne_16 ?_
    refine am_aload_n (x := 63) X (by rfl) dX10_isOne_17 ?_
    refine am_get (v := σ 63 6) X 63 fl_X10_100 (by decide) sh_63 (by decide) (rfl) dX10_isOne_18 ?_
    refine am_ic X (by decide) dX10_isOne_21 ?_
    refine am_sub (v := (σ 63 6 - 1)) X (by first | rfl | omega) (by omega) dX10_isOne_22 ?_
    refine am_i2l X dX10_isOne_23 ?_
    refine am_callSi X hY lk_X10_103 mf_X10_within (m_X10_within q 0 (σ 63 6 - 1) _ σ) (by decide) (by decide) (Nat.le_refl _) (Nat.le_refl _) rfl rfl (Nat.le_of_ble_eq_true rfl) dX10_isOne_24 (fun r24 sh24 σ24 hr24 hp24 => ?_)
    obtain ⟨rfl, rfl, hq24⟩ := hp24
    refine am_if_eq (tgt := 64) X dX10_isOne_27 (by decide) (fun h27 => ?_) (fun h27 => ?_)
    · skip
      refine am_ic X (by decide) dX10_isOne_64 ?_
      exact hret _ _ _ _ _ dX10_isOne_65 rfl rfl (by first | exact ⟨rfl, rfl, am_bt (by omega)⟩ | exact ⟨rfl, rfl, am_bf (by omega)⟩) (by first | exact Or.inl rfl | exact Or.inr rfl | omega)
    · skip
      refine am_lload_n (x := p) X (by rfl) dX10_isOne_30 ?_
      refine am_lload_n (x := q) X (by rfl) dX10_isOne_31 ?_
      refine am_lcmp X dX10_isOne_32 ?_
      refine am_topi (fun y32 hy32 => ?_)
      have hc32 : (y32 = 1 ∧ q < p) ∨ (y32 = 0 ∧ p = q) ∨ (y32 = -1 ∧ p < q) := by rw [hy32]; split <;> (try split) <;> omega
      clear hy32
      refine am_if_eq (tgt := 64) X dX10_isOne_33 (by decide) (fun h33 => ?_) (fun h33 => ?_)
      · skip
        refine am_ic X (by decide) dX10_isOne_64 ?_
        exact hret _ _ _ _ _ dX10_isOne_65 rfl rfl (by first | exact ⟨rfl, rfl, am_bt (by omega)⟩ | exact ⟨rfl, rfl, am_bf (by omega)⟩) (by first | exact Or.inl rfl | exact Or.inr rfl | omega)
      · skip
        refine am_lload (x := d) X (by rfl) dX10_isOne_36 ?_
        refine am_lc (v := 1) X (by rfl) dX10_isOne_38 ?_
        refine am_ldc2 X (n := 9) (by unfold R64; decide) cn_X10_116 dX10_isOne_39 ?_
        refine am_callSi X hY lk_X10_103 mf_X10_within (m_X10_within d 1 9 _ σ) (by decide) (by decide) (Nat.le_refl _) (Nat.le_refl _) rfl rfl (Nat.le_of_ble_eq_true rfl) dX10_isOne_42 (fun r42 sh42 σ42 hr42 hp42 => ?_)
        obtain ⟨rfl, rfl, hq42⟩ := hp42
        refine am_if_eq (tgt := 64) X dX10_isOne_45 (by decide) (fun h45 => ?_) (fun h45 => ?_)
        · skip
          refine am_ic X (by decide) dX10_isOne_64 ?_
          exact hret _ _ _ _ _ dX10_isOne_65 rfl rfl (by first | exact ⟨rfl, rfl, am_bt (by omega)⟩ | exact ⟨rfl, rfl, am_bf (by omega)⟩) (by first | exact Or.inl rfl | exact Or.inr rfl | omega)
        · skip
          refine am_lload (x := k) X (by rfl) dX10_isOne_48 ?_
          refine am_lc (v := 0) X (by rfl) dX10_isOne_50 ?_
          refine am_ldc2 X (n := 12) (by unfold R64; decide) cn_X10_118 dX10_isOne_51 ?_
          refine am_callSi X hY lk_X10_103 mf_X10_within (m_X10_within k 0 12 _ σ) (by decide) (by decide) (Nat.le_refl _) (Nat.le_refl _) rfl rfl (Nat.le_of_ble_eq_true rfl) dX10_isOne_54 (fun r54 sh54 σ54 hr54 hp54 => ?_)
          obtain ⟨rfl, rfl, hq54⟩ := hp54
          refine am_if_eq (tgt := 64) X dX10_isOne_57 (by decide) (fun h57 => ?_) (fun h57 => ?_)
          · skip
            refine am_ic X (by decide) dX10_isOne_64 ?_
            exact hret _ _ _ _ _ dX10_isOne_65 rfl rfl (by first | exact ⟨rfl, rfl, am_bt (by omega)⟩ | exact ⟨rfl, rfl, am_bf (by omega)⟩) (by first | exact Or.inl rfl | exact Or.inr rfl | omega)
          · skip
            refine am_ic X (by decide) dX10_isOne_60 ?_
            refine am_goto (tgt := 65) X dX10_isOne_61 (by decide) ?_
            exact hret _ _ _ _ _ dX10_isOne_65 rfl rfl (by first | exact ⟨rfl, rfl, am_bt (by omega)⟩ | exact ⟨rfl, rfl, am_bf (by omega)⟩) (by first | exact Or.inl rfl | exact Or.inr rfl | omega)

set_option maxHeartbeats 4000000 in
set_option maxRecDepth 100000 in
theorem m_X10_owedBetween (p q : Int) (σ : am_H) (hc : 0 ≤ σ 63 7 ∧ σ 63 7 ≤ 20) (hd : ∀ n : Nat, (n : Int) < σ 63 7 → 0 ≤ σ 68 (5 * n + 2) ∧ σ 68 (5 * n + 2) ≤ 9) : am_Mi yX10_owedBetween cX10_owedBetween 5 (some .int) 0 0 0 [vr 63, vi p, vi q] SH σ (fun r sh' σ' => SH = sh' ∧ σ = σ' ∧ r = am_sum (fun n : Nat => if σ 68 (5 * n) = p ∧ σ 68 (5 * n + 1) = q then σ 68 (5 * n + 2) else 0) (σ 63 7).toNat ∧ 0 ≤ r ∧ r ≤ 180) := by
  refine am_Mi_of (by decide +kernel) (Nat.le_of_ble_eq_true rfl) (fun K X hY hI hret => ?_)
  show am_G K 0 [some (vr 63), some (vi p), some (vi q), none, none] [] SH σ
  refine am_ic X (by decide) dX10_owedBetween_0 ?_
  refine am_istore_n (i := 3) (L' := [some (vr 63), some (vi p), some (vi q), some (vi 0), none]) X rfl (Nat.le_of_ble_eq_true rfl) (by rfl) dX10_owedBetween_1 ?_
  refine am_ic X (by decide) dX10_owedBetween_2 ?_
  refine am_istore (i := 4) (L' := [some (vr 63), some (vi p), some (vi q), some (vi 0), some (vi 0)]) X (Nat.le_of_ble_eq_true rfl) (by rfl) dX10_owedBetween_3 ?_
  have hL5 : ∀ (m5 : Nat) (k : Nat) (s : Int) (hk : (k : Int) ≤ (σ 63 7)) (hs : s = am_sum (fun n : Nat => if σ 68 (5 * n) = p ∧ σ 68 (5 * n + 1) = q then σ 68 (5 * n + 2) else 0) k) (hm5 : (σ 63 7).toNat - k = m5), am_G K 5 [some (vr 63), some (vi p), some (vi q), some (vi s), some (vi (k : Int))] [] SH σ := by
    intro m5
    induction m5 using Nat.strongRecOn with
    | ind m5 ih5 =>
    intro k s hk hs hm5
    have hb := am_sum_9 (f := (fun n : Nat => if σ 68 (5 * n) = p ∧ σ 68 (5 * n + 1) = q then σ 68 (5 * n + 2) else 0)) (n := k) (fun j hj => by have := hd j (by omega); (repeat' split) <;> omega)
    have hdk := fun h : (k : Int) < (σ 63 7) => hd k h
    refine am_iload (x := (k : Int)) X (by rfl) dX10_owedBetween_5 ?_
    refine am_aload_n (x := 63) X (by rfl) dX10_owedBetween_7 ?_
    refine am_get (v := σ 63 7) X 63 fl_X10_111 (by decide) sh_63 (by decide) (rfl) dX10_owedBetween_8 ?_
    refine am_icmp_ge (tgt := 66) X dX10_owedBetween_11 (by decide) (fun h11 => ?_) (fun h11 => ?_)
    · skip
      refine am_iload_n (x := s) X (by rfl) dX10_owedBetween_66 ?_
      exact hret _ _ _ _ _ dX10_owedBetween_67 rfl rfl (⟨rfl, rfl, by rw [hs, show (σ 63 7).toNat = k by omega], by omega, by omega⟩)
    · skip
      refine am_iload_n (x := s) X (by rfl) dX10_owedBetween_14 ?_
      refine am_aload_n (x := 63) X (by rfl) dX10_owedBetween_15 ?_
      refine am_getr (c1 := 68) X 63 fl_X10_22 (by decide) sh_63 (by decide) (by rfl) dX10_owedBetween_16 ?_
      refine am_ic X (by decide) dX10_owedBetween_19 ?_
      refine am_iload (x := (k : Int)) X (by rfl) dX10_owedBetween_20 ?_
      refine am_mul (v := (5 * (k : Int))) X (by first | rfl | omega) (by omega) dX10_owedBetween_22 ?_
      refine am_ald (v := σ 68 (5 * k)) X 68 (5 * k) sh_68 (by omega) (by omega) (rfl) dX10_owedBetween_23 ?_
      refine am_iload_n (x := p) X (by rfl) dX10_owedBetween_24 ?_
      refine am_icmp_ne (tgt := 57) X dX10_owedBetween_25 (by decide) (fun h25 => ?_) (fun h25 => ?_)
      · skip
        refine am_ic X (by decide) dX10_owedBetween_57 ?_
        refine am_add (v := (s + 0)) X (by first | rfl | omega) (by omega) dX10_owedBetween_58 ?_
        refine am_istore_n (i := 3) (L' := [some (vr 63), some (vi p), some (vi q), some (vi (s + 0)), some (vi (k : Int))]) X rfl (Nat.le_of_ble_eq_true rfl) (by rfl) dX10_owedBetween_59 ?_
        refine am_inc (x := (k : Int)) (v := ((k : Int) + 1)) (L' := [some (vr 63), some (vi p), some (vi q), some (vi (s + 0)), some (vi ((k : Int) + 1))]) X (by rfl) (by omega) (by omega) (by rfl) dX10_owedBetween_60 ?_
        refine am_goto (tgt := 5) X dX10_owedBetween_63 (by decide) ?_
        exact ih5 _ (by omega) (k + 1) _ (by omega) (by (try subst s); (try simp only [hs]); show _ = am_sum (fun n : Nat => if σ 68 (5 * n) = p ∧ σ 68 (5 * n + 1) = q then σ 68 (5 * n + 2) else 0) k + (if _ then _ else _); first | rw [if_pos (by omega)] | (rw [if_neg (by omega)]; try omega)) rfl
      · skip
        refine am_aload_n (x := 63) X (by rfl) dX10_owedBetween_28 ?_
        refine am_getr (c1 := 68) X 63 fl_X10_22 (by decide) sh_63 (by decide) (by rfl) dX10_owedBetween_29 ?_
        refine am_ic X (by decide) dX10_owedBetween_32 ?_
        refine am_iload (x := (k : Int)) X (by rfl) dX10_owedBetween_33 ?_
        refine am_mul (v := (5 * (k : Int))) X (by first | rfl | omega) (by omega) dX10_owedBetween_35 ?_
        refine am_ic X (by decide) dX10_owedBetween_36 ?_
        refine am_add (v := ((5 * (k : Int)) + 1)) X (by first | rfl | omega) (by omega) dX10_owedBetween_37 ?_
        refine am_ald (v := σ 68 ((5 * k) + 1)) X 68 ((5 * k) + 1) sh_68 (by omega) (by omega) (rfl) dX10_owedBetween_38 ?_
        refine am_iload_n (x := q) X (by rfl) dX10_owedBetween_39 ?_
        refine am_icmp_ne (tgt := 57) X dX10_owedBetween_40 (by decide) (fun h40 => ?_) (fun h40 => ?_)
        · skip
          refine am_ic X (by decide) dX10_owedBetween_57 ?_
          refine am_add (v := (s + 0)) X (by first | rfl | omega) (by omega) dX10_owedBetween_58 ?_
          refine am_istore_n (i := 3) (L' := [some (vr 63), some (vi p), some (vi q), some (vi (s + 0)), some (vi (k : Int))]) X rfl (Nat.le_of_ble_eq_true rfl) (by rfl) dX10_owedBetween_59 ?_
          refine am_inc (x := (k : Int)) (v := ((k : Int) + 1)) (L' := [some (vr 63), some (vi p), some (vi q), some (vi (s + 0)), some (vi ((k : Int) + 1))]) X (by rfl) (by omega) (by omega) (by rfl) dX10_owedBetween_60 ?_
          refine am_goto (tgt := 5) X dX10_owedBetween_63 (by decide) ?_
          exact ih5 _ (by omega) (k + 1) _ (by omega) (by (try subst s); (try simp only [hs]); show _ = am_sum (fun n : Nat => if σ 68 (5 * n) = p ∧ σ 68 (5 * n + 1) = q then σ 68 (5 * n + 2) else 0) k + (if _ then _ else _); first | rw [if_pos (by omega)] | (rw [if_neg (by omega)]; try omega)) rfl
        · skip
          refine am_aload_n (x := 63) X (by rfl) dX10_owedBetween_43 ?_
          refine am_getr (c1 := 68) X 63 fl_X10_22 (by decide) sh_63 (by decide) (by rfl) dX10_owedBetween_44 ?_
          refine am_ic X (by decide) dX10_owedBetween_47 ?_
          refine am_iload (x := (k : Int)) X (by rfl) dX10_owedBetween_48 ?_
          refine am_mul (v := (5 * (k : Int))) X (by first | rfl | omega) (by omega) dX10_owedBetween_50 ?_
          refine am_ic X (by decide) dX10_owedBetween_51 ?_
          refine am_add (v := ((5 * (k : Int)) + 2)) X (by first | rfl | omega) (by omega) dX10_owedBetween_52 ?_
          refine am_ald (v := σ 68 ((5 * k) + 2)) X 68 ((5 * k) + 2) sh_68 (by omega) (by omega) (rfl) dX10_owedBetween_53 ?_
          refine am_goto (tgt := 58) X dX10_owedBetween_54 (by decide) ?_
          refine am_add (v := (s + σ 68 ((5 * k) + 2))) X (by first | rfl | omega) (by omega) dX10_owedBetween_58 ?_
          refine am_istore_n (i := 3) (L' := [some (vr 63), some (vi p), some (vi q), some (vi (s + σ 68 ((5 * k) + 2))), some (vi (k : Int))]) X rfl (Nat.le_of_ble_eq_true rfl) (by rfl) dX10_owedBetween_59 ?_
          refine am_inc (x := (k : Int)) (v := ((k : Int) + 1)) (L' := [some (vr 63), some (vi p), some (vi q), some (vi (s + σ 68 ((5 * k) + 2))), some (vi ((k : Int) + 1))]) X (by rfl) (by omega) (by omega) (by rfl) dX10_owedBetween_60 ?_
          refine am_goto (tgt := 5) X dX10_owedBetween_63 (by decide) ?_
          exact ih5 _ (by omega) (k + 1) _ (by omega) (by (try subst s); (try simp only [hs]); show _ = am_sum (fun n : Nat => if σ 68 (5 * n) = p ∧ σ 68 (5 * n + 1) = q then σ 68 (5 * n + 2) else 0) k + (if _ then _ else _); first | rw [if_pos (by omega)] | (rw [if_neg (by omega)]; try omega)) rfl
  exact hL5 _ 0 0 (by omega) (rfl) rfl

set_option maxHeartbeats 4000000 in
set_option maxRecDepth 100000 in
theorem m_X10_sumOf_0 (p : Int) (σ : am_H) (hc : 0 ≤ σ 63 7 ∧ σ 63 7 ≤ 20) (hd : ∀ n : Nat, (n : Int) < σ 63 7 → 0 ≤ σ 68 (5 * n + 2) ∧ σ 68 (5 * n + 2) ≤ 9) : am_Mi yX10_sumOf cX10_sumOf 5 (some .int) 0 0 0 [vr 63, vi p, vi 0] SH σ (fun r sh' σ' => SH = sh' ∧ σ = σ' ∧ r = am_sum (fun n : Nat => if σ 68 (5 * n + 0) = p then σ 68 (5 * n + 2) else 0) (σ 63 7).toNat ∧ 0 ≤ r ∧ r ≤ 180) := by
  refine am_Mi_of (by decide +kernel) (Nat.le_of_ble_eq_true rfl) (fun K X hY hI hret => ?_)
  show am_G K 0 [some (vr 63), some (vi p), some (vi 0), none, none] [] SH σ
  refine am_ic X (by decide) dX10_sumOf_0 ?_
  refine am_istore_n (i := 3) (L' := [some (vr 63), some (vi p), some (vi 0), some (vi 0), none]) X rfl (Nat.le_of_ble_eq_true rfl) (by rfl) dX10_sumOf_1 ?_
  refine am_ic X (by decide) dX10_sumOf_2 ?_
  refine am_istore (i := 4) (L' := [some (vr 63), some (vi p), some (vi 0), some (vi 0), some (vi 0)]) X (Nat.le_of_ble_eq_true rfl) (by rfl) dX10_sumOf_3 ?_
  have hL5 : ∀ (m5 : Nat) (k : Nat) (s : Int) (hk : (k : Int) ≤ (σ 63 7)) (hs : s = am_sum (fun n : Nat => if σ 68 (5 * n + 0) = p then σ 68 (5 * n + 2) else 0) k) (hm5 : (σ 63 7).toNat - k = m5), am_G K 5 [some (vr 63), some (vi p), some (vi 0), some (vi s), some (vi (k : Int))] [] SH σ := by
    intro m5
    induction m5 using Nat.strongRecOn with
    | ind m5 ih5 =>
    intro k s hk hs hm5
    have hb := am_sum_9 (f := (fun n : Nat => if σ 68 (5 * n + 0) = p then σ 68 (5 * n + 2) else 0)) (n := k) (fun j hj => by have := hd j (by omega); (repeat' split) <;> omega)
    have hdk := fun h : (k : Int) < (σ 63 7) => hd k h
    refine am_iload (x := (k : Int)) X (by rfl) dX10_sumOf_5 ?_
    refine am_aload_n (x := 63) X (by rfl) dX10_sumOf_7 ?_
    refine am_get (v := σ 63 7) X 63 fl_X10_111 (by decide) sh_63 (by decide) (rfl) dX10_sumOf_8 ?_
    refine am_icmp_ge (tgt := 53) X dX10_sumOf_11 (by decide) (fun h11 => ?_) (fun h11 => ?_)
    · skip
      refine am_iload_n (x := s) X (by rfl) dX10_sumOf_53 ?_
      exact hret _ _ _ _ _ dX10_sumOf_54 rfl rfl (⟨rfl, rfl, by rw [hs, show (σ 63 7).toNat = k by omega], by omega, by omega⟩)
    · skip
      refine am_iload_n (x := s) X (by rfl) dX10_sumOf_14 ?_
      refine am_aload_n (x := 63) X (by rfl) dX10_sumOf_15 ?_
      refine am_getr (c1 := 68) X 63 fl_X10_22 (by decide) sh_63 (by decide) (by rfl) dX10_sumOf_16 ?_
      refine am_ic X (by decide) dX10_sumOf_19 ?_
      refine am_iload (x := (k : Int)) X (by rfl) dX10_sumOf_20 ?_
      refine am_mul (v := (5 * (k : Int))) X (by first | rfl | omega) (by omega) dX10_sumOf_22 ?_
      refine am_iload_n (x := 0) X (by rfl) dX10_sumOf_23 ?_
      refine am_add (v := ((5 * (k : Int)) + 0)) X (by first | rfl | omega) (by omega) dX10_sumOf_24 ?_
      refine am_ald (v := σ 68 ((5 * k) + 0)) X 68 ((5 * k) + 0) sh_68 (by omega) (by omega) (rfl) dX10_sumOf_25 ?_
      refine am_iload_n (x := p) X (by rfl) dX10_sumOf_26 ?_
      refine am_icmp_ne (tgt := 44) X dX10_sumOf_27 (by decide) (fun h27 => ?_) (fun h27 => ?_)
      · skip
        refine am_ic X (by decide) dX10_sumOf_44 ?_
        refine am_add (v := (s + 0)) X (by first | rfl | omega) (by omega) dX10_sumOf_45 ?_
        refine am_istore_n (i := 3) (L' := [some (vr 63), some (vi p), some (vi 0), some (vi (s + 0)), some (vi (k : Int))]) X rfl (Nat.le_of_ble_eq_true rfl) (by rfl) dX10_sumOf_46 ?_
        refine am_inc (x := (k : Int)) (v := ((k : Int) + 1)) (L' := [some (vr 63), some (vi p), some (vi 0), some (vi (s + 0)), some (vi ((k : Int) + 1))]) X (by rfl) (by omega) (by omega) (by rfl) dX10_sumOf_47 ?_
        refine am_goto (tgt := 5) X dX10_sumOf_50 (by decide) ?_
        exact ih5 _ (by omega) (k + 1) _ (by omega) (by (try subst s); (try simp only [hs]); show _ = am_sum (fun n : Nat => if σ 68 (5 * n + 0) = p then σ 68 (5 * n + 2) else 0) k + (if _ then _ else _); first | rw [if_pos (by omega)] | (rw [if_neg (by omega)]; try omega)) rfl
      · skip
        refine am_aload_n (x := 63) X (by rfl) dX10_sumOf_30 ?_
        refine am_getr (c1 := 68) X 63 fl_X10_22 (by decide) sh_63 (by decide) (by rfl) dX10_sumOf_31 ?_
        refine am_ic X (by decide) dX10_sumOf_34 ?_
        refine am_iload (x := (k : Int)) X (by rfl) dX10_sumOf_35 ?_
        refine am_mul (v := (5 * (k : Int))) X (by first | rfl | omega) (by omega) dX10_sumOf_37 ?_
        refine am_ic X (by decide) dX10_sumOf_38 ?_
        refine am_add (v := ((5 * (k : Int)) + 2)) X (by first | rfl | omega) (by omega) dX10_sumOf_39 ?_
        refine am_ald (v := σ 68 ((5 * k) + 2)) X 68 ((5 * k) + 2) sh_68 (by omega) (by omega) (rfl) dX10_sumOf_40 ?_
        refine am_goto (tgt := 45) X dX10_sumOf_41 (by decide) ?_
        refine am_add (v := (s + σ 68 ((5 * k) + 2))) X (by first | rfl | omega) (by omega) dX10_sumOf_45 ?_
        refine am_istore_n (i := 3) (L' := [some (vr 63), some (vi p), some (vi 0), some (vi (s + σ 68 ((5 * k) + 2))), some (vi (k : Int))]) X rfl (Nat.le_of_ble_eq_true rfl) (by rfl) dX10_sumOf_46 ?_
        refine am_inc (x := (k : Int)) (v := ((k : Int) + 1)) (L' := [some (vr 63), some (vi p), some (vi 0), some (vi (s + σ 68 ((5 * k) + 2))), some (vi ((k : Int) + 1))]) X (by rfl) (by omega) (by omega) (by rfl) dX10_sumOf_47 ?_
        refine am_goto (tgt := 5) X dX10_sumOf_50 (by decide) ?_
        exact ih5 _ (by omega) (k + 1) _ (by omega) (by (try subst s); (try simp only [hs]); show _ = am_sum (fun n : Nat => if σ 68 (5 * n + 0) = p then σ 68 (5 * n + 2) else 0) k + (if _ then _ else _); first | rw [if_pos (by omega)] | (rw [if_neg (by omega)]; try omega)) rfl
  exact hL5 _ 0 0 (by omega) (rfl) rfl

set_option maxHeartbeats 4000000 in
set_option maxRecDepth 100000 in
theorem m_X10_sumOf_1 (p : Int) (σ : am_H) (hc : 0 ≤ σ 63 7 ∧ σ 63 7 ≤ 20) (hd : ∀ n : Nat, (n : Int) < σ 63 7 → 0 ≤ σ 68 (5 * n + 2) ∧ σ 68 (5 * n + 2) ≤ 9) : am_Mi yX10_sumOf cX10_sumOf 5 (some .int) 0 0 0 [vr 63, vi p, vi 1] SH σ (fun r sh' σ' => SH = sh' ∧ σ = σ' ∧ r = am_sum (fun n : Nat => if σ 68 (5 * n + 1) = p then σ 68 (5 * n + 2) else 0) (σ 63 7).toNat ∧ 0 ≤ r ∧ r ≤ 180) := by
  refine am_Mi_of (by decide +kernel) (Nat.le_of_ble_eq_true rfl) (fun K X hY hI hret => ?_)
  show am_G K 0 [some (vr 63), some (vi p), some (vi 1), none, none] [] SH σ
  refine am_ic X (by decide) dX10_sumOf_0 ?_
  refine am_istore_n (i := 3) (L' := [some (vr 63), some (vi p), some (vi 1), some (vi 0), none]) X rfl (Nat.le_of_ble_eq_true rfl) (by rfl) dX10_sumOf_1 ?_
  refine am_ic X (by decide) dX10_sumOf_2 ?_
  refine am_istore (i := 4) (L' := [some (vr 63), some (vi p), some (vi 1), some (vi 0), some (vi 0)]) X (Nat.le_of_ble_eq_true rfl) (by rfl) dX10_sumOf_3 ?_
  have hL5 : ∀ (m5 : Nat) (k : Nat) (s : Int) (hk : (k : Int) ≤ (σ 63 7)) (hs : s = am_sum (fun n : Nat => if σ 68 (5 * n + 1) = p then σ 68 (5 * n + 2) else 0) k) (hm5 : (σ 63 7).toNat - k = m5), am_G K 5 [some (vr 63), some (vi p), some (vi 1), some (vi s), some (vi (k : Int))] [] SH σ := by
    intro m5
    induction m5 using Nat.strongRecOn with
    | ind m5 ih5 =>
    intro k s hk hs hm5
    have hb := am_sum_9 (f := (fun n : Nat => if σ 68 (5 * n + 1) = p then σ 68 (5 * n + 2) else 0)) (n := k) (fun j hj => by have := hd j (by omega); (repeat' split) <;> omega)
    have hdk := fun h : (k : Int) < (σ 63 7) => hd k h
    refine am_iload (x := (k : Int)) X (by rfl) dX10_sumOf_5 ?_
    refine am_aload_n (x := 63) X (by rfl) dX10_sumOf_7 ?_
    refine am_get (v := σ 63 7) X 63 fl_X10_111 (by decide) sh_63 (by decide) (rfl) dX10_sumOf_8 ?_
    refine am_icmp_ge (tgt := 53) X dX10_sumOf_11 (by decide) (fun h11 => ?_) (fun h11 => ?_)
    · skip
      refine am_iload_n (x := s) X (by rfl) dX10_sumOf_53 ?_
      exact hret _ _ _ _ _ dX10_sumOf_54 rfl rfl (⟨rfl, rfl, by rw [hs, show (σ 63 7).toNat = k by omega], by omega, by omega⟩)
    · skip
      refine am_iload_n (x := s) X (by rfl) dX10_sumOf_14 ?_
      refine am_aload_n (x := 63) X (by rfl) dX10_sumOf_15 ?_
      refine am_getr (c1 := 68) X 63 fl_X10_22 (by decide) sh_63 (by decide) (by rfl) dX10_sumOf_16 ?_
      refine am_ic X (by decide) dX10_sumOf_19 ?_
      refine am_iload (x := (k : Int)) X (by rfl) dX10_sumOf_20 ?_
      refine am_mul (v := (5 * (k : Int))) X (by first | rfl | omega) (by omega) dX10_sumOf_22 ?_
      refine am_iload_n (x := 1) X (by rfl) dX10_sumOf_23 ?_
      refine am_add (v := ((5 * (k : Int)) + 1)) X (by first | rfl | omega) (by omega) dX10_sumOf_24 ?_
      refine am_ald (v := σ 68 ((5 * k) + 1)) X 68 ((5 * k) + 1) sh_68 (by omega) (by omega) (rfl) dX10_sumOf_25 ?_
      refine am_iload_n (x := p) X (by rfl) dX10_sumOf_26 ?_
      refine am_icmp_ne (tgt := 44) X dX10_sumOf_27 (by decide) (fun h27 => ?_) (fun h27 => ?_)
      · skip
        refine am_ic X (by decide) dX10_sumOf_44 ?_
        refine am_add (v := (s + 0)) X (by first | rfl | omega) (by omega) dX10_sumOf_45 ?_
        refine am_istore_n (i := 3) (L' := [some (vr 63), some (vi p), some (vi 1), some (vi (s + 0)), some (vi (k : Int))]) X rfl (Nat.le_of_ble_eq_true rfl) (by rfl) dX10_sumOf_46 ?_
        refine am_inc (x := (k : Int)) (v := ((k : Int) + 1)) (L' := [some (vr 63), some (vi p), some (vi 1), some (vi (s + 0)), some (vi ((k : Int) + 1))]) X (by rfl) (by omega) (by omega) (by rfl) dX10_sumOf_47 ?_
        refine am_goto (tgt := 5) X dX10_sumOf_50 (by decide) ?_
        exact ih5 _ (by omega) (k + 1) _ (by omega) (by (try subst s); (try simp only [hs]); show _ = am_sum (fun n : Nat => if σ 68 (5 * n + 1) = p then σ 68 (5 * n + 2) else 0) k + (if _ then _ else _); first | rw [if_pos (by omega)] | (rw [if_neg (by omega)]; try omega)) rfl
      · skip
        refine am_aload_n (x := 63) X (by rfl) dX10_sumOf_30 ?_
        refine am_getr (c1 := 68) X 63 fl_X10_22 (by decide) sh_63 (by decide) (by rfl) dX10_sumOf_31 ?_
        refine am_ic X (by decide) dX10_sumOf_34 ?_
        refine am_iload (x := (k : Int)) X (by rfl) dX10_sumOf_35 ?_
        refine am_mul (v := (5 * (k : Int))) X (by first | rfl | omega) (by omega) dX10_sumOf_37 ?_
        refine am_ic X (by decide) dX10_sumOf_38 ?_
        refine am_add (v := ((5 * (k : Int)) + 2)) X (by first | rfl | omega) (by omega) dX10_sumOf_39 ?_
        refine am_ald (v := σ 68 ((5 * k) + 2)) X 68 ((5 * k) + 2) sh_68 (by omega) (by omega) (rfl) dX10_sumOf_40 ?_
        refine am_goto (tgt := 45) X dX10_sumOf_41 (by decide) ?_
        refine am_add (v := (s + σ 68 ((5 * k) + 2))) X (by first | rfl | omega) (by omega) dX10_sumOf_45 ?_
        refine am_istore_n (i := 3) (L' := [some (vr 63), some (vi p), some (vi 1), some (vi (s + σ 68 ((5 * k) + 2))), some (vi (k : Int))]) X rfl (Nat.le_of_ble_eq_true rfl) (by rfl) dX10_sumOf_46 ?_
        refine am_inc (x := (k : Int)) (v := ((k : Int) + 1)) (L' := [some (vr 63), some (vi p), some (vi 1), some (vi (s + σ 68 ((5 * k) + 2))), some (vi ((k : Int) + 1))]) X (by rfl) (by omega) (by omega) (by rfl) dX10_sumOf_47 ?_
        refine am_goto (tgt := 5) X dX10_sumOf_50 (by decide) ?_
        exact ih5 _ (by omega) (k + 1) _ (by omega) (by (try subst s); (try simp only [hs]); show _ = am_sum (fun n : Nat => if σ 68 (5 * n + 1) = p then σ 68 (5 * n + 2) else 0) k + (if _ then _ else _); first | rw [if_pos (by omega)] | (rw [if_neg (by omega)]; try omega)) rfl
  exact hL5 _ 0 0 (by omega) (rfl) rfl

set_option maxHeartbeats 4000000 in
set_option maxRecDepth 100000 in
theorem m_X10_openMany (σ : am_H) (hc : 0 ≤ σ 63 7 ∧ σ 63 7 ≤ 20) : am_Mi yX10_openMany cX10_openMany 3 (some .int) 1 0 0 [vr 63] SH σ (fun r sh' σ' => SH = sh' ∧ σ = σ' ∧ r = am_sum (fun n : Nat => if 0 < σ 68 (5 * n + 2) then 1 else 0) (σ 63 7).toNat ∧ 0 ≤ r ∧ r ≤ 180) := by
  refine am_Mi_of (by decide +kernel) (Nat.le_of_ble_eq_true rfl) (fun K X hY hI hret => ?_)
  show am_G K 0 [some (vr 63), none, none] [] SH σ
  refine am_ic X (by decide) dX10_openMany_0 ?_
  refine am_istore_n (i := 1) (L' := [some (vr 63), some (vi 0), none]) X rfl (Nat.le_of_ble_eq_true rfl) (by rfl) dX10_openMany_1 ?_
  refine am_ic X (by decide) dX10_openMany_2 ?_
  refine am_istore_n (i := 2) (L' := [some (vr 63), some (vi 0), some (vi 0)]) X rfl (Nat.le_of_ble_eq_true rfl) (by rfl) dX10_openMany_3 ?_
  have hL4 : ∀ (m4 : Nat) (k : Nat) (s : Int) (hk : (k : Int) ≤ (σ 63 7)) (hs : s = am_sum (fun n : Nat => if 0 < σ 68 (5 * n + 2) then 1 else 0) k) (hm4 : (σ 63 7).toNat - k = m4), am_G K 4 [some (vr 63), some (vi s), some (vi (k : Int))] [] SH σ := by
    intro m4
    induction m4 using Nat.strongRecOn with
    | ind m4 ih4 =>
    intro k s hk hs hm4
    have hb := am_sum_1 (f := (fun n : Nat => if 0 < σ 68 (5 * n + 2) then 1 else 0)) (n := k) (fun j hj => by (repeat' split) <;> omega)
    refine am_iload_n (x := (k : Int)) X (by rfl) dX10_openMany_4 ?_
    refine am_aload_n (x := 63) X (by rfl) dX10_openMany_5 ?_
    refine am_get (v := σ 63 7) X 63 fl_X10_111 (by decide) sh_63 (by decide) (rfl) dX10_openMany_6 ?_
    refine am_icmp_ge (tgt := 34) X dX10_openMany_9 (by decide) (fun h9 => ?_) (fun h9 => ?_)
    · skip
      refine am_iload_n (x := s) X (by rfl) dX10_openMany_34 ?_
      exact hret _ _ _ _ _ dX10_openMany_35 rfl rfl (⟨rfl, rfl, by rw [hs, show (σ 63 7).toNat = k by omega], by omega, by omega⟩)
    · skip
      refine am_iload_n (x := s) X (by rfl) dX10_openMany_12 ?_
      refine am_aload_n (x := 63) X (by rfl) dX10_openMany_13 ?_
      refine am_iload_n (x := (k : Int)) X (by rfl) dX10_openMany_14 ?_
      refine am_callVi (ci := 9) X hY lk_X10_240 mf_X10_isOpen (m_X10_isOpen (k : Int) k (by omega) (by omega) σ) (by decide) (by decide) (Nat.le_refl _) (Nat.le_refl _) sh_63 rfl rfl rfl (Nat.le_of_ble_eq_true rfl) dX10_openMany_15 (fun r15 sh15 σ15 hr15 hp15 => ?_)
      obtain ⟨rfl, rfl, hq15⟩ := hp15
      refine am_if_eq (tgt := 25) X dX10_openMany_18 (by decide) (fun h18 => ?_) (fun h18 => ?_)
      · skip
        refine am_ic X (by decide) dX10_openMany_25 ?_
        refine am_add (v := (s + 0)) X (by first | rfl | omega) (by omega) dX10_openMany_26 ?_
        refine am_istore_n (i := 1) (L' := [some (vr 63), some (vi (s + 0)), some (vi (k : Int))]) X rfl (Nat.le_of_ble_eq_true rfl) (by rfl) dX10_openMany_27 ?_
        refine am_inc (x := (k : Int)) (v := ((k : Int) + 1)) (L' := [some (vr 63), some (vi (s + 0)), some (vi ((k : Int) + 1))]) X (by rfl) (by omega) (by omega) (by rfl) dX10_openMany_28 ?_
        refine am_goto (tgt := 4) X dX10_openMany_31 (by decide) ?_
        exact ih4 _ (by omega) (k + 1) _ (by omega) (by (try subst s); (try simp only [hs]); show _ = am_sum (fun n : Nat => if 0 < σ 68 (5 * n + 2) then 1 else 0) k + (if _ then _ else _); first | rw [if_pos (by omega)] | (rw [if_neg (by omega)]; try omega)) rfl
      · skip
        refine am_ic X (by decide) dX10_openMany_21 ?_
        refine am_goto (tgt := 26) X dX10_openMany_22 (by decide) ?_
        refine am_add (v := (s + 1)) X (by first | rfl | omega) (by omega) dX10_openMany_26 ?_
        refine am_istore_n (i := 1) (L' := [some (vr 63), some (vi (s + 1)), some (vi (k : Int))]) X rfl (Nat.le_of_ble_eq_true rfl) (by rfl) dX10_openMany_27 ?_
        refine am_inc (x := (k : Int)) (v := ((k : Int) + 1)) (L' := [some (vr 63), some (vi (s + 1)), some (vi ((k : Int) + 1))]) X (by rfl) (by omega) (by omega) (by rfl) dX10_openMany_28 ?_
        refine am_goto (tgt := 4) X dX10_openMany_31 (by decide) ?_
        exact ih4 _ (by omega) (k + 1) _ (by omega) (by (try subst s); (try simp only [hs]); show _ = am_sum (fun n : Nat => if 0 < σ 68 (5 * n + 2) then 1 else 0) k + (if _ then _ else _); first | rw [if_pos (by omega)] | (rw [if_neg (by omega)]; try omega)) rfl
  exact hL4 _ 0 0 (by omega) (rfl) rfl

set_option maxHeartbeats 4000000 in
set_option maxRecDepth 100000 in
theorem m_X10_waits (σ : am_H) (ha : 0 ≤ σ 63 20 ∧ σ 63 20 ≤ 30) : am_Mi yX10_waits cX10_waits 3 (some .int) 0 0 0 [vr 63] SH σ (fun r sh' σ' => SH = sh' ∧ σ = σ' ∧ r = am_sum (fun n : Nat => if σ 72 (3 * n + 2) = 0 then 1 else 0) (σ 63 20).toNat ∧ 0 ≤ r ∧ r ≤ 180) := by
  refine am_Mi_of (by decide +kernel) (Nat.le_of_ble_eq_true rfl) (fun K X hY hI hret => ?_)
  show am_G K 0 [some (vr 63), none, none] [] SH σ
  refine am_ic X (by decide) dX10_waits_0 ?_
  refine am_istore_n (i := 1) (L' := [some (vr 63), some (vi 0), none]) X rfl (Nat.le_of_ble_eq_true rfl) (by rfl) dX10_waits_1 ?_
  refine am_ic X (by decide) dX10_waits_2 ?_
  refine am_istore_n (i := 2) (L' := [some (vr 63), some (vi 0), some (vi 0)]) X rfl (Nat.le_of_ble_eq_true rfl) (by rfl) dX10_waits_3 ?_
  have hL4 : ∀ (m4 : Nat) (k : Nat) (s : Int) (hk : (k : Int) ≤ (σ 63 20)) (hs : s = am_sum (fun n : Nat => if σ 72 (3 * n + 2) = 0 then 1 else 0) k) (hm4 : (σ 63 20).toNat - k = m4), am_G K 4 [some (vr 63), some (vi s), some (vi (k : Int))] [] SH σ := by
    intro m4
    induction m4 using Nat.strongRecOn with
    | ind m4 ih4 =>
    intro k s hk hs hm4
    have hb := am_sum_1 (f := (fun n : Nat => if σ 72 (3 * n + 2) = 0 then 1 else 0)) (n := k) (fun j hj => by (repeat' split) <;> omega)
    refine am_iload_n (x := (k : Int)) X (by rfl) dX10_waits_4 ?_
    refine am_aload_n (x := 63) X (by rfl) dX10_waits_5 ?_
    refine am_get (v := σ 63 20) X 63 fl_X10_161 (by decide) sh_63 (by decide) (rfl) dX10_waits_6 ?_
    refine am_icmp_ge (tgt := 39) X dX10_waits_9 (by decide) (fun h9 => ?_) (fun h9 => ?_)
    · skip
      refine am_iload_n (x := s) X (by rfl) dX10_waits_39 ?_
      exact hret _ _ _ _ _ dX10_waits_40 rfl rfl (⟨rfl, rfl, by rw [hs, show (σ 63 20).toNat = k by omega], by omega, by omega⟩)
    · skip
      refine am_iload_n (x := s) X (by rfl) dX10_waits_12 ?_
      refine am_aload_n (x := 63) X (by rfl) dX10_waits_13 ?_
      refine am_getr (c1 := 72) X 63 fl_X10_34 (by decide) sh_63 (by decide) (by rfl) dX10_waits_14 ?_
      refine am_ic X (by decide) dX10_waits_17 ?_
      refine am_iload_n (x := (k : Int)) X (by rfl) dX10_waits_18 ?_
      refine am_mul (v := (3 * (k : Int))) X (by first | rfl | omega) (by omega) dX10_waits_19 ?_
      refine am_ic X (by decide) dX10_waits_20 ?_
      refine am_add (v := ((3 * (k : Int)) + 2)) X (by first | rfl | omega) (by omega) dX10_waits_21 ?_
      refine am_ald (v := σ 72 ((3 * k) + 2)) X 72 ((3 * k) + 2) sh_72 (by omega) (by omega) (rfl) dX10_waits_22 ?_
      refine am_if_ne (tgt := 30) X dX10_waits_23 (by decide) (fun h23 => ?_) (fun h23 => ?_)
      · skip
        refine am_ic X (by decide) dX10_waits_30 ?_
        refine am_add (v := (s + 0)) X (by first | rfl | omega) (by omega) dX10_waits_31 ?_
        refine am_istore_n (i := 1) (L' := [some (vr 63), some (vi (s + 0)), some (vi (k : Int))]) X rfl (Nat.le_of_ble_eq_true rfl) (by rfl) dX10_waits_32 ?_
        refine am_inc (x := (k : Int)) (v := ((k : Int) + 1)) (L' := [some (vr 63), some (vi (s + 0)), some (vi ((k : Int) + 1))]) X (by rfl) (by omega) (by omega) (by rfl) dX10_waits_33 ?_
        refine am_goto (tgt := 4) X dX10_waits_36 (by decide) ?_
        exact ih4 _ (by omega) (k + 1) _ (by omega) (by (try subst s); (try simp only [hs]); show _ = am_sum (fun n : Nat => if σ 72 (3 * n + 2) = 0 then 1 else 0) k + (if _ then _ else _); first | rw [if_pos (by omega)] | (rw [if_neg (by omega)]; try omega)) rfl
      · skip
        refine am_ic X (by decide) dX10_waits_26 ?_
        refine am_goto (tgt := 31) X dX10_waits_27 (by decide) ?_
        refine am_add (v := (s + 1)) X (by first | rfl | omega) (by omega) dX10_waits_31 ?_
        refine am_istore_n (i := 1) (L' := [some (vr 63), some (vi (s + 1)), some (vi (k : Int))]) X rfl (Nat.le_of_ble_eq_true rfl) (by rfl) dX10_waits_32 ?_
        refine am_inc (x := (k : Int)) (v := ((k : Int) + 1)) (L' := [some (vr 63), some (vi (s + 1)), some (vi ((k : Int) + 1))]) X (by rfl) (by omega) (by omega) (by rfl) dX10_waits_33 ?_
        refine am_goto (tgt := 4) X dX10_waits_36 (by decide) ?_
        exact ih4 _ (by omega) (k + 1) _ (by omega) (by (try subst s); (try simp only [hs]); show _ = am_sum (fun n : Nat => if σ 72 (3 * n + 2) = 0 then 1 else 0) k + (if _ then _ else _); first | rw [if_pos (by omega)] | (rw [if_neg (by omega)]; try omega)) rfl
  exact hL4 _ 0 0 (by omega) (rfl) rfl
