set_option maxHeartbeats 4000000 in
set_option maxRecDepth 100000 in
theorem m_X6_isPerson (a : Int) (σ : am_H) (hp : 0 ≤ σ 1 2 ∧ σ 1 2 ≤ 8) : am_Mi yX6_isPerson cX6_isPerson 2 (some .boolean) 1 0 0 [vr 1, vi a] SH σ (fun r sh' σ' => SH = sh' ∧ σ = σ' ∧ am_b r (0 ≤ a ∧ a < σ 1 2)) := by
  refine am_Mz_of (by decide +kernel) (Nat.le_of_ble_eq_true rfl) (fun K X hY hI hret => ?_)
  show am_G K 0 [some (vr 1), some (vi a)] [] SH σ
  refine am_iload_n (x := a) X (by rfl) dX6_isPerson_0 ?_
  refine am_ic X (by decide) dX6_isPerson_1 ?_
  refine am_aload_n (x := 1) X (by rfl) dX6_isPerson_2 ?_
  refine am_get (v := σ 1 2) X 1 fl_X6_22 (by decide) sh_1 (by decide) (rfl) dX6_isPerson_3 ?_
  refine am_ic X (by decide) dX6_isPerson_6 ?_
  refine am_sub (v := (σ 1 2 - 1)) X (by first | rfl | omega) (by omega) dX6_isPerson_7 ?_
  refine am_callSNi X hY lk_X6_25 mf_X9_within (m_X9_within a 0 (σ 1 2 - 1) _ σ) (by decide) (by decide) (Nat.le_refl _) (Nat.le_refl _) rfl rfl (Nat.le_of_ble_eq_true rfl) dX6_isPerson_8 (fun r8 sh8 σ8 hr8 hp8 => ?_)
  obtain ⟨rfl, rfl, hq8⟩ := hp8
  exact hret _ _ _ _ _ dX6_isPerson_11 rfl rfl (by first | exact ⟨rfl, rfl, am_bi hq8 (by omega)⟩) (am_bz hq8)

set_option maxHeartbeats 4000000 in
set_option maxRecDepth 100000 in
theorem m_X6_areUnlike (a b : Int) (σ : am_H) (hp : 0 ≤ σ 1 2 ∧ σ 1 2 ≤ 8) : am_Mi yX6_areUnlike cX6_areUnlike 3 (some .boolean) 2 0 0 [vr 1, vi a, vi b] SH σ (fun r sh' σ' => SH = sh' ∧ σ = σ' ∧ am_b r ((0 ≤ a ∧ a < σ 1 2) ∧ (0 ≤ b ∧ b < σ 1 2) ∧ a ≠ b)) := by
  refine am_Mz_of (by decide +kernel) (Nat.le_of_ble_eq_true rfl) (fun K X hY hI hret => ?_)
  show am_G K 0 [some (vr 1), some (vi a), some (vi b)] [] SH σ
  refine am_aload_n (x := 1) X (by rfl) dX6_areUnlike_0 ?_
  refine am_iload_n (x := a) X (by rfl) dX6_areUnlike_1 ?_
  refine am_callVi (ci := 5) X hY lk_X6_29 mf_X6_isPerson (m_X6_isPerson a σ hp) (by decide) (by decide) (Nat.le_refl _) (Nat.le_refl _) sh_1 rfl rfl rfl (Nat.le_of_ble_eq_true rfl) dX6_areUnlike_2 (fun r2 sh2 σ2 hr2 hp2 => ?_)
  obtain ⟨rfl, rfl, hq2⟩ := hp2
  refine am_if_eq (tgt := 25) X dX6_areUnlike_5 (by decide) (fun h5 => ?_) (fun h5 => ?_)
  · skip
    refine am_ic X (by decide) dX6_areUnlike_25 ?_
    exact hret _ _ _ _ _ dX6_areUnlike_26 rfl rfl (by first | exact ⟨rfl, rfl, am_bt (by omega)⟩ | exact ⟨rfl, rfl, am_bf (by omega)⟩) (by first | exact Or.inl rfl | exact Or.inr rfl | omega)
  · skip
    refine am_aload_n (x := 1) X (by rfl) dX6_areUnlike_8 ?_
    refine am_iload_n (x := b) X (by rfl) dX6_areUnlike_9 ?_
    refine am_callVi (ci := 5) X hY lk_X6_29 mf_X6_isPerson (m_X6_isPerson b σ hp) (by decide) (by decide) (Nat.le_refl _) (Nat.le_refl _) sh_1 rfl rfl rfl (Nat.le_of_ble_eq_true rfl) dX6_areUnlike_10 (fun r10 sh10 σ10 hr10 hp10 => ?_)
    obtain ⟨rfl, rfl, hq10⟩ := hp10
    refine am_if_eq (tgt := 25) X dX6_areUnlike_13 (by decide) (fun h13 => ?_) (fun h13 => ?_)
    · skip
      refine am_ic X (by decide) dX6_areUnlike_25 ?_
      exact hret _ _ _ _ _ dX6_areUnlike_26 rfl rfl (by first | exact ⟨rfl, rfl, am_bt (by omega)⟩ | exact ⟨rfl, rfl, am_bf (by omega)⟩) (by first | exact Or.inl rfl | exact Or.inr rfl | omega)
    · skip
      refine am_iload_n (x := a) X (by rfl) dX6_areUnlike_16 ?_
      refine am_iload_n (x := b) X (by rfl) dX6_areUnlike_17 ?_
      refine am_icmp_eq (tgt := 25) X dX6_areUnlike_18 (by decide) (fun h18 => ?_) (fun h18 => ?_)
      · skip
        refine am_ic X (by decide) dX6_areUnlike_25 ?_
        exact hret _ _ _ _ _ dX6_areUnlike_26 rfl rfl (by first | exact ⟨rfl, rfl, am_bt (by omega)⟩ | exact ⟨rfl, rfl, am_bf (by omega)⟩) (by first | exact Or.inl rfl | exact Or.inr rfl | omega)
      · skip
        refine am_ic X (by decide) dX6_areUnlike_21 ?_
        refine am_goto (tgt := 26) X dX6_areUnlike_22 (by decide) ?_
        exact hret _ _ _ _ _ dX6_areUnlike_26 rfl rfl (by first | exact ⟨rfl, rfl, am_bt (by omega)⟩ | exact ⟨rfl, rfl, am_bf (by omega)⟩) (by first | exact Or.inl rfl | exact Or.inr rfl | omega)

set_option maxHeartbeats 4000000 in
set_option maxRecDepth 100000 in
theorem m_X6_isPair (a : Int) (σ : am_H) (hp : 0 ≤ σ 1 2 ∧ σ 1 2 ≤ 8) : am_Mi yX6_isPair cX6_isPair 2 (some .boolean) 3 0 0 [vr 1, vi a] SH σ (fun r sh' σ' => SH = sh' ∧ σ = σ' ∧ am_b r (0 ≤ a ∧ (0 ≤ a / 10 ∧ a / 10 < σ 1 2) ∧ (0 ≤ a % 10 ∧ a % 10 < σ 1 2) ∧ a / 10 ≠ a % 10)) := by
  refine am_Mz_of (by decide +kernel) (Nat.le_of_ble_eq_true rfl) (fun K X hY hI hret => ?_)
  show am_G K 0 [some (vr 1), some (vi a)] [] SH σ
  refine am_iload_n (x := a) X (by rfl) dX6_isPair_0 ?_
  refine am_if_lt (tgt := 23) X dX6_isPair_1 (by decide) (fun h1 => ?_) (fun h1 => ?_)
  · skip
    refine am_ic X (by decide) dX6_isPair_23 ?_
    exact hret _ _ _ _ _ dX6_isPair_24 rfl rfl (by first | exact ⟨rfl, rfl, am_bt (by omega)⟩ | exact ⟨rfl, rfl, am_bf (by omega)⟩) (by first | exact Or.inl rfl | exact Or.inr rfl | omega)
  · skip
    refine am_aload_n (x := 1) X (by rfl) dX6_isPair_4 ?_
    refine am_iload_n (x := a) X (by rfl) dX6_isPair_5 ?_
    refine am_bipush X (by decide) dX6_isPair_6 ?_
    refine am_div (v := (a / 10)) X (by omega) (by omega) rfl dX6_isPair_8 ?_
    refine am_iload_n (x := a) X (by rfl) dX6_isPair_9 ?_
    refine am_bipush X (by decide) dX6_isPair_10 ?_
    refine am_rem (v := (a % 10)) X (by omega) (by omega) rfl dX6_isPair_12 ?_
    refine am_callVi (ci := 5) X hY lk_X6_33 mf_X6_areUnlike (m_X6_areUnlike (a / 10) (a % 10) σ hp) (by decide) (by decide) (Nat.le_refl _) (Nat.le_refl _) sh_1 rfl rfl rfl (Nat.le_of_ble_eq_true rfl) dX6_isPair_13 (fun r13 sh13 σ13 hr13 hp13 => ?_)
    obtain ⟨rfl, rfl, hq13⟩ := hp13
    refine am_if_eq (tgt := 23) X dX6_isPair_16 (by decide) (fun h16 => ?_) (fun h16 => ?_)
    · skip
      refine am_ic X (by decide) dX6_isPair_23 ?_
      exact hret _ _ _ _ _ dX6_isPair_24 rfl rfl (by first | exact ⟨rfl, rfl, am_bt (by omega)⟩ | exact ⟨rfl, rfl, am_bf (by omega)⟩) (by first | exact Or.inl rfl | exact Or.inr rfl | omega)
    · skip
      refine am_ic X (by decide) dX6_isPair_19 ?_
      refine am_goto (tgt := 24) X dX6_isPair_20 (by decide) ?_
      exact hret _ _ _ _ _ dX6_isPair_24 rfl rfl (by first | exact ⟨rfl, rfl, am_bt (by omega)⟩ | exact ⟨rfl, rfl, am_bf (by omega)⟩) (by first | exact Or.inl rfl | exact Or.inr rfl | omega)

set_option maxHeartbeats 4000000 in
set_option maxRecDepth 100000 in
theorem m_X6_isNumber (a b : Int) (σ : am_H) (hp : 0 ≤ σ 1 2 ∧ σ 1 2 ≤ 8) : am_Mi yX6_isNumber cX6_isNumber 3 (some .boolean) 2 0 0 [vr 1, vi a, vi b] SH σ (fun r sh' σ' => SH = sh' ∧ σ = σ' ∧ am_b r ((b = 0 ∧ 0 ≤ a ∧ a ≤ 11) ∨ (b = 1 ∧ 0 ≤ a ∧ a < σ 1 2) ∨ (b = 2 ∧ a = 0) ∨ (b = 3 ∧ a = 0))) := by
  refine am_Mz_of (by decide +kernel) (Nat.le_of_ble_eq_true rfl) (fun K X hY hI hret => ?_)
  show am_G K 0 [some (vr 1), some (vi a), some (vi b)] [] SH σ
  refine am_iload_n (x := b) X (by rfl) dX6_isNumber_0 ?_
  by_cases h1o : b < 0 ∨ 3 < b
  · skip
    refine am_tableOut (tgt := 66) X dX6_isNumber_1 h1o (by decide) ?_
    refine am_ic X (by decide) dX6_isNumber_66 ?_
    exact hret _ _ _ _ _ dX6_isNumber_67 rfl rfl (by first | exact ⟨rfl, rfl, am_bt (by omega)⟩ | exact ⟨rfl, rfl, am_bf (by omega)⟩ | exact ⟨rfl, rfl, am_bi hq36 (by omega)⟩ | exact ⟨rfl, rfl, am_bi hq42 (by omega)⟩) (by first | exact Or.inl rfl | exact Or.inr rfl | omega)
  rcases (show b = 0 ∨ b = 1 ∨ b = 2 ∨ b = 3 by omega) with h1 | h1 | h1 | h1
  · skip
    refine am_tableIn (off := 31) (tgt := 32) X dX6_isNumber_1 (by omega) (by omega) (by rw [h1]; rfl) (by decide) ?_
    refine am_iload_n (x := a) X (by rfl) dX6_isNumber_32 ?_
    refine am_ic X (by decide) dX6_isNumber_33 ?_
    refine am_bipush X (by decide) dX6_isNumber_34 ?_
    refine am_callSNi X hY lk_X6_25 mf_X9_within (m_X9_within a 0 11 _ σ) (by decide) (by decide) (Nat.le_refl _) (Nat.le_refl _) rfl rfl (Nat.le_of_ble_eq_true rfl) dX6_isNumber_36 (fun r36 sh36 σ36 hr36 hp36 => ?_)
    obtain ⟨rfl, rfl, hq36⟩ := hp36
    exact hret _ _ _ _ _ dX6_isNumber_39 rfl rfl (by first | exact ⟨rfl, rfl, am_bt (by omega)⟩ | exact ⟨rfl, rfl, am_bf (by omega)⟩ | exact ⟨rfl, rfl, am_bi hq36 (by omega)⟩ | exact ⟨rfl, rfl, am_bi hq42 (by omega)⟩) (by first | exact Or.inl rfl | exact Or.inr rfl | omega)
  · skip
    refine am_tableIn (off := 39) (tgt := 40) X dX6_isNumber_1 (by omega) (by omega) (by rw [h1]; rfl) (by decide) ?_
    refine am_aload_n (x := 1) X (by rfl) dX6_isNumber_40 ?_
    refine am_iload_n (x := a) X (by rfl) dX6_isNumber_41 ?_
    refine am_callVi (ci := 5) X hY lk_X6_29 mf_X6_isPerson (m_X6_isPerson a σ hp) (by decide) (by decide) (Nat.le_refl _) (Nat.le_refl _) sh_1 rfl rfl rfl (Nat.le_of_ble_eq_true rfl) dX6_isNumber_42 (fun r42 sh42 σ42 hr42 hp42 => ?_)
    obtain ⟨rfl, rfl, hq42⟩ := hp42
    exact hret _ _ _ _ _ dX6_isNumber_45 rfl rfl (by first | exact ⟨rfl, rfl, am_bt (by omega)⟩ | exact ⟨rfl, rfl, am_bf (by omega)⟩ | exact ⟨rfl, rfl, am_bi hq36 (by omega)⟩ | exact ⟨rfl, rfl, am_bi hq42 (by omega)⟩) (by first | exact Or.inl rfl | exact Or.inr rfl | omega)
  · skip
    refine am_tableIn (off := 45) (tgt := 46) X dX6_isNumber_1 (by omega) (by omega) (by rw [h1]; rfl) (by decide) ?_
    refine am_iload_n (x := a) X (by rfl) dX6_isNumber_46 ?_
    refine am_if_ne (tgt := 54) X dX6_isNumber_47 (by decide) (fun h47 => ?_) (fun h47 => ?_)
    · skip
      refine am_ic X (by decide) dX6_isNumber_54 ?_
      exact hret _ _ _ _ _ dX6_isNumber_55 rfl rfl (by first | exact ⟨rfl, rfl, am_bt (by omega)⟩ | exact ⟨rfl, rfl, am_bf (by omega)⟩ | exact ⟨rfl, rfl, am_bi hq36 (by omega)⟩ | exact ⟨rfl, rfl, am_bi hq42 (by omega)⟩) (by first | exact Or.inl rfl | exact Or.inr rfl | omega)
    · skip
      refine am_ic X (by decide) dX6_isNumber_50 ?_
      refine am_goto (tgt := 55) X dX6_isNumber_51 (by decide) ?_
      exact hret _ _ _ _ _ dX6_isNumber_55 rfl rfl (by first | exact ⟨rfl, rfl, am_bt (by omega)⟩ | exact ⟨rfl, rfl, am_bf (by omega)⟩ | exact ⟨rfl, rfl, am_bi hq36 (by omega)⟩ | exact ⟨rfl, rfl, am_bi hq42 (by omega)⟩) (by first | exact Or.inl rfl | exact Or.inr rfl | omega)
  · skip
    refine am_tableIn (off := 55) (tgt := 56) X dX6_isNumber_1 (by omega) (by omega) (by rw [h1]; rfl) (by decide) ?_
    refine am_iload_n (x := a) X (by rfl) dX6_isNumber_56 ?_
    refine am_if_ne (tgt := 64) X dX6_isNumber_57 (by decide) (fun h57 => ?_) (fun h57 => ?_)
    · skip
      refine am_ic X (by decide) dX6_isNumber_64 ?_
      exact hret _ _ _ _ _ dX6_isNumber_65 rfl rfl (by first | exact ⟨rfl, rfl, am_bt (by omega)⟩ | exact ⟨rfl, rfl, am_bf (by omega)⟩ | exact ⟨rfl, rfl, am_bi hq36 (by omega)⟩ | exact ⟨rfl, rfl, am_bi hq42 (by omega)⟩) (by first | exact Or.inl rfl | exact Or.inr rfl | omega)
    · skip
      refine am_ic X (by decide) dX6_isNumber_60 ?_
      refine am_goto (tgt := 65) X dX6_isNumber_61 (by decide) ?_
      exact hret _ _ _ _ _ dX6_isNumber_65 rfl rfl (by first | exact ⟨rfl, rfl, am_bt (by omega)⟩ | exact ⟨rfl, rfl, am_bf (by omega)⟩ | exact ⟨rfl, rfl, am_bi hq36 (by omega)⟩ | exact ⟨rfl, rfl, am_bi hq42 (by omega)⟩) (by first | exact Or.inl rfl | exact Or.inr rfl | omega)

set_option maxHeartbeats 4000000 in
set_option maxRecDepth 100000 in
theorem m_X6_allows (b a : Int) (σ : am_H) : am_Mi yX6_allows cX6_allows 3 (some .boolean) 1 0 0 [vr 1, vi b, vi a] SH σ (fun r sh' σ' => SH = sh' ∧ σ = σ' ∧ am_b r ((b = 2 ∧ 0 ≤ a ∧ a ≤ 2) ∨ (b = 3 ∧ 0 ≤ a ∧ a ≤ 12) ∨ (b ≠ 2 ∧ b ≠ 3 ∧ 1 ≤ a ∧ a ≤ 9))) := by
  refine am_Mz_of (by decide +kernel) (Nat.le_of_ble_eq_true rfl) (fun K X hY hI hret => ?_)
  show am_G K 0 [some (vr 1), some (vi b), some (vi a)] [] SH σ
  refine am_iload_n (x := b) X (by rfl) dX6_allows_0 ?_
  by_cases h1_0 : b = 2
  · skip
    refine am_lookup (off := 27) (tgt := 28) X dX6_allows_1 (by decide) (by rw [h1_0]; rfl) (by decide) ?_
    refine am_iload_n (x := a) X (by rfl) dX6_allows_28 ?_
    refine am_ic X (by decide) dX6_allows_29 ?_
    refine am_ic X (by decide) dX6_allows_30 ?_
    refine am_callSNi X hY lk_X6_25 mf_X9_within (m_X9_within a 0 2 _ σ) (by decide) (by decide) (Nat.le_refl _) (Nat.le_refl _) rfl rfl (Nat.le_of_ble_eq_true rfl) dX6_allows_31 (fun r31 sh31 σ31 hr31 hp31 => ?_)
    obtain ⟨rfl, rfl, hq31⟩ := hp31
    exact hret _ _ _ _ _ dX6_allows_34 rfl rfl (by first | exact ⟨rfl, rfl, am_bi hq31 (by omega)⟩ | exact ⟨rfl, rfl, am_bi hq39 (by omega)⟩ | exact ⟨rfl, rfl, am_bi hq47 (by omega)⟩) (by first | exact Or.inl rfl | exact Or.inr rfl | omega)
  by_cases h1_1 : b = 3
  · skip
    refine am_lookup (off := 34) (tgt := 35) X dX6_allows_1 (by decide) (by rw [h1_1]; rfl) (by decide) ?_
    refine am_iload_n (x := a) X (by rfl) dX6_allows_35 ?_
    refine am_ic X (by decide) dX6_allows_36 ?_
    refine am_bipush X (by decide) dX6_allows_37 ?_
    refine am_callSNi X hY lk_X6_25 mf_X9_within (m_X9_within a 0 12 _ σ) (by decide) (by decide) (Nat.le_refl _) (Nat.le_refl _) rfl rfl (Nat.le_of_ble_eq_true rfl) dX6_allows_39 (fun r39 sh39 σ39 hr39 hp39 => ?_)
    obtain ⟨rfl, rfl, hq39⟩ := hp39
    exact hret _ _ _ _ _ dX6_allows_42 rfl rfl (by first | exact ⟨rfl, rfl, am_bi hq31 (by omega)⟩ | exact ⟨rfl, rfl, am_bi hq39 (by omega)⟩ | exact ⟨rfl, rfl, am_bi hq47 (by omega)⟩) (by first | exact Or.inl rfl | exact Or.inr rfl | omega)
  refine am_lookup (off := 42) (tgt := 43) X dX6_allows_1 (by decide) (by simp [Op.lookupswitch.offset, h1_0, h1_1, Ne.symm h1_0, Ne.symm h1_1]) (by decide) ?_
  refine am_iload_n (x := a) X (by rfl) dX6_allows_43 ?_
  refine am_ic X (by decide) dX6_allows_44 ?_
  refine am_bipush X (by decide) dX6_allows_45 ?_
  refine am_callSNi X hY lk_X6_25 mf_X9_within (m_X9_within a 1 9 _ σ) (by decide) (by decide) (Nat.le_refl _) (Nat.le_refl _) rfl rfl (Nat.le_of_ble_eq_true rfl) dX6_allows_47 (fun r47 sh47 σ47 hr47 hp47 => ?_)
  obtain ⟨rfl, rfl, hq47⟩ := hp47
  exact hret _ _ _ _ _ dX6_allows_50 rfl rfl (by first | exact ⟨rfl, rfl, am_bi hq31 (by omega)⟩ | exact ⟨rfl, rfl, am_bi hq39 (by omega)⟩ | exact ⟨rfl, rfl, am_bi hq47 (by omega)⟩) (by first | exact Or.inl rfl | exact Or.inr rfl | omega)

set_option maxHeartbeats 4000000 in
set_option maxRecDepth 100000 in
theorem m_X6_told (a b : Int) (k : Nat) (hk : a = k) (σ : am_H) (hn : (b = 0 ∧ 0 ≤ a ∧ a ≤ 11) ∨ (b = 1 ∧ 0 ≤ a ∧ a < 8) ∨ (b = 2 ∧ a = 0) ∨ (b = 3 ∧ a = 0)) : am_Mi yX6_told cX6_told 3 (some .int) 0 0 0 [vr 1, vi a, vi b] SH σ (fun r sh' σ' => SH = sh' ∧ σ = σ' ∧ r = set_told σ k b) := by
  refine am_Mi_of (by decide +kernel) (Nat.le_of_ble_eq_true rfl) (fun K X hY hI hret => ?_)
  show am_G K 0 [some (vr 1), some (vi a), some (vi b)] [] SH σ
  refine am_iload_n (x := b) X (by rfl) dX6_told_0 ?_
  by_cases h1o : b < 0 ∨ 2 < b
  · skip
    refine am_tableOut (tgt := 47) X dX6_told_1 h1o (by decide) ?_
    refine am_aload_n (x := 1) X (by rfl) dX6_told_47 ?_
    refine am_get (v := σ 1 4) X 1 fl_X6_18 (by decide) sh_1 (by decide) (rfl) dX6_told_48 ?_
    exact hret _ _ _ _ _ dX6_told_51 rfl rfl (by refine ⟨rfl, rfl, ?_⟩; unfold set_told; repeat (first | rw [if_pos (by omega)] | rw [if_neg (by omega)]))
  rcases (show b = 0 ∨ b = 1 ∨ b = 2 by omega) with h1 | h1 | h1
  · skip
    refine am_tableIn (off := 27) (tgt := 28) X dX6_told_1 (by omega) (by omega) (by rw [h1]; rfl) (by decide) ?_
    refine am_aload_n (x := 1) X (by rfl) dX6_told_28 ?_
    refine am_getr (c1 := 2) X 1 fl_X6_9 (by decide) sh_1 (by decide) (by rfl) dX6_told_29 ?_
    refine am_iload_n (x := a) X (by rfl) dX6_told_32 ?_
    refine am_ald (v := σ 2 k) X 2 k sh_2 (by omega) (by omega) (rfl) dX6_told_33 ?_
    exact hret _ _ _ _ _ dX6_told_34 rfl rfl (by refine ⟨rfl, rfl, ?_⟩; unfold set_told; repeat (first | rw [if_pos (by omega)] | rw [if_neg (by omega)]))
  · skip
    refine am_tableIn (off := 34) (tgt := 35) X dX6_told_1 (by omega) (by omega) (by rw [h1]; rfl) (by decide) ?_
    refine am_aload_n (x := 1) X (by rfl) dX6_told_35 ?_
    refine am_getr (c1 := 3) X 1 fl_X6_15 (by decide) sh_1 (by decide) (by rfl) dX6_told_36 ?_
    refine am_iload_n (x := a) X (by rfl) dX6_told_39 ?_
    refine am_ald (v := σ 3 k) X 3 k sh_3 (by omega) (by omega) (rfl) dX6_told_40 ?_
    exact hret _ _ _ _ _ dX6_told_41 rfl rfl (by refine ⟨rfl, rfl, ?_⟩; unfold set_told; repeat (first | rw [if_pos (by omega)] | rw [if_neg (by omega)]))
  · skip
    refine am_tableIn (off := 41) (tgt := 42) X dX6_told_1 (by omega) (by omega) (by rw [h1]; rfl) (by decide) ?_
    refine am_aload_n (x := 1) X (by rfl) dX6_told_42 ?_
    refine am_get (v := σ 1 3) X 1 fl_X6_37 (by decide) sh_1 (by decide) (rfl) dX6_told_43 ?_
    exact hret _ _ _ _ _ dX6_told_46 rfl rfl (by refine ⟨rfl, rfl, ?_⟩; unfold set_told; repeat (first | rw [if_pos (by omega)] | rw [if_neg (by omega)]))

set_option maxHeartbeats 4000000 in
set_option maxRecDepth 100000 in
theorem m_X6_tell (a b v : Int) (k : Nat) (hk : a = k) (σ : am_H) (hn : (b = 0 ∧ 0 ≤ a ∧ a ≤ 11) ∨ (b = 1 ∧ 0 ≤ a ∧ a < 8) ∨ (b = 2 ∧ a = 0) ∨ (b = 3 ∧ a = 0)) : am_Mv yX6_tell cX6_tell 4 none 0 0 0 [vr 1, vi a, vi b, vi v] SH σ (fun sh' σ' => SH = sh' ∧ (set_tell σ k b v) = σ' ∧ True) := by
  refine am_Mv_of (by decide +kernel) (Nat.le_of_ble_eq_true rfl) (fun K X hY hI hret => ?_)
  show am_G K 0 [some (vr 1), some (vi a), some (vi b), some (vi v)] [] SH σ
  refine am_iload_n (x := b) X (by rfl) dX6_tell_0 ?_
  by_cases h1o : b < 0 ∨ 2 < b
  · skip
    refine am_tableOut (tgt := 56) X dX6_tell_1 h1o (by decide) ?_
    refine am_aload_n (x := 1) X (by rfl) dX6_tell_56 ?_
    refine am_iload_n (x := v) X (by rfl) dX6_tell_57 ?_
    refine am_puti X 1 fl_X6_18 rfl rfl sh_1 (by decide) dX6_tell_58 ?_
    exact hret _ _ _ _ dX6_tell_61 rfl rfl (by refine ⟨rfl, ?_, trivial⟩; unfold set_tell; repeat (first | rw [if_pos (by omega)] | rw [if_neg (by omega)]))
  rcases (show b = 0 ∨ b = 1 ∨ b = 2 by omega) with h1 | h1 | h1
  · skip
    refine am_tableIn (off := 27) (tgt := 28) X dX6_tell_1 (by omega) (by omega) (by rw [h1]; rfl) (by decide) ?_
    refine am_aload_n (x := 1) X (by rfl) dX6_tell_28 ?_
    refine am_getr (c1 := 2) X 1 fl_X6_9 (by decide) sh_1 (by decide) (by rfl) dX6_tell_29 ?_
    refine am_iload_n (x := a) X (by rfl) dX6_tell_32 ?_
    refine am_iload_n (x := v) X (by rfl) dX6_tell_33 ?_
    refine am_ast X 2 k sh_2 (by omega) (by omega) dX6_tell_34 ?_
    refine am_goto (tgt := 61) X dX6_tell_35 (by decide) ?_
    exact hret _ _ _ _ dX6_tell_61 rfl rfl (by refine ⟨rfl, ?_, trivial⟩; unfold set_tell; repeat (first | rw [if_pos (by omega)] | rw [if_neg (by omega)]))
  · skip
    refine am_tableIn (off := 37) (tgt := 38) X dX6_tell_1 (by omega) (by omega) (by rw [h1]; rfl) (by decide) ?_
    refine am_aload_n (x := 1) X (by rfl) dX6_tell_38 ?_
    refine am_getr (c1 := 3) X 1 fl_X6_15 (by decide) sh_1 (by decide) (by rfl) dX6_tell_39 ?_
    refine am_iload_n (x := a) X (by rfl) dX6_tell_42 ?_
    refine am_iload_n (x := v) X (by rfl) dX6_tell_43 ?_
    refine am_ast X 3 k sh_3 (by omega) (by omega) dX6_tell_44 ?_
    refine am_goto (tgt := 61) X dX6_tell_45 (by decide) ?_
    exact hret _ _ _ _ dX6_tell_61 rfl rfl (by refine ⟨rfl, ?_, trivial⟩; unfold set_tell; repeat (first | rw [if_pos (by omega)] | rw [if_neg (by omega)]))
  · skip
    refine am_tableIn (off := 47) (tgt := 48) X dX6_tell_1 (by omega) (by omega) (by rw [h1]; rfl) (by decide) ?_
    refine am_aload_n (x := 1) X (by rfl) dX6_tell_48 ?_
    refine am_iload_n (x := v) X (by rfl) dX6_tell_49 ?_
    refine am_puti X 1 fl_X6_37 rfl rfl sh_1 (by decide) dX6_tell_50 ?_
    refine am_goto (tgt := 61) X dX6_tell_53 (by decide) ?_
    exact hret _ _ _ _ dX6_tell_61 rfl rfl (by refine ⟨rfl, ?_, trivial⟩; unfold set_tell; repeat (first | rw [if_pos (by omega)] | rw [if_neg (by omega)]))

set_option maxHeartbeats 4000000 in
set_option maxRecDepth 100000 in
theorem m_X6_addPerson (v : Int) (σ : am_H) (hp : 0 ≤ σ 1 2 ∧ σ 1 2 < 8) : am_Mi yX6_addPerson cX6_addPerson 2 (some .int) 0 0 0 [vr 1, vi v] SH σ (fun r sh' σ' => SH = sh' ∧ (set_add σ v) = σ' ∧ r = σ 1 2) := by
  refine am_Mi_of (by decide +kernel) (Nat.le_of_ble_eq_true rfl) (fun K X hY hI hret => ?_)
  show am_G K 0 [some (vr 1), some (vi v)] [] SH σ
  refine am_aload_n (x := 1) X (by rfl) dX6_addPerson_0 ?_
  refine am_getr (c1 := 3) X 1 fl_X6_15 (by decide) sh_1 (by decide) (by rfl) dX6_addPerson_1 ?_
  refine am_aload_n (x := 1) X (by rfl) dX6_addPerson_4 ?_
  refine am_get (v := σ 1 2) X 1 fl_X6_22 (by decide) sh_1 (by decide) (rfl) dX6_addPerson_5 ?_
  refine am_iload_n (x := v) X (by rfl) dX6_addPerson_8 ?_
  refine am_ast X 3 (σ 1 2).toNat sh_3 (by omega) (by omega) dX6_addPerson_9 ?_
  refine am_aload_n (x := 1) X (by rfl) dX6_addPerson_10 ?_
  refine am_dup X (Nat.ne_of_beq_eq_false rfl) dX6_addPerson_11 ?_
  refine am_get (v := σ 1 2) X 1 fl_X6_22 (by decide) sh_1 (by decide) (by simp [am_up]) dX6_addPerson_12 ?_
  refine am_ic X (by decide) dX6_addPerson_15 ?_
  refine am_add (v := (σ 1 2 + 1)) X (by first | rfl | omega) (by omega) dX6_addPerson_16 ?_
  refine am_puti X 1 fl_X6_22 rfl rfl sh_1 (by decide) dX6_addPerson_17 ?_
  refine am_aload_n (x := 1) X (by rfl) dX6_addPerson_20 ?_
  refine am_get (v := (σ 1 2 + 1)) X 1 fl_X6_22 (by decide) sh_1 (by decide) (by simp [am_up]) dX6_addPerson_21 ?_
  refine am_ic X (by decide) dX6_addPerson_24 ?_
  refine am_sub (v := ((σ 1 2 + 1) - 1)) X (by first | rfl | omega) (by omega) dX6_addPerson_25 ?_
  exact hret _ _ _ _ _ dX6_addPerson_26 rfl rfl (⟨rfl, rfl, by omega⟩)

set_option maxHeartbeats 4000000 in
set_option maxRecDepth 100000 in
theorem m_X4_isDebt (a : Int) (σ : am_H) (hc : 0 ≤ σ 16 5 ∧ σ 16 5 ≤ 20) : am_Mi yX4_isDebt cX4_isDebt 2 (some .boolean) 1 0 0 [vr 16, vi a] SH σ (fun r sh' σ' => SH = sh' ∧ σ = σ' ∧ am_b r (0 ≤ a ∧ a < σ 16 5)) := by
  refine am_Mz_of (by decide +kernel) (Nat.le_of_ble_eq_true rfl) (fun K X hY hI hret => ?_)
  show am_G K 0 [some (vr 16), some (vi a)] [] SH σ
  refine am_iload_n (x := a) X (by rfl) dX4_isDebt_0 ?_
  refine am_ic X (by decide) dX4_isDebt_1 ?_
  refine am_aload_n (x := 16) X (by rfl) dX4_isDebt_2 ?_
  refine am_get (v := σ 16 5) X 16 fl_X4_33 (by decide) sh_16 (by decide) (rfl) dX4_isDebt_3 ?_
  refine am_ic X (by decide) dX4_isDebt_6 ?_
  refine am_sub (v := (σ 16 5 - 1)) X (by first | rfl | omega) (by omega) dX4_isDebt_7 ?_
  refine am_callSNi X hY lk_X4_37 mf_X9_within (m_X9_within a 0 (σ 16 5 - 1) _ σ) (by decide) (by decide) (Nat.le_refl _) (Nat.le_refl _) rfl rfl (Nat.le_of_ble_eq_true rfl) dX4_isDebt_8 (fun r8 sh8 σ8 hr8 hp8 => ?_)
  obtain ⟨rfl, rfl, hq8⟩ := hp8
  exact hret _ _ _ _ _ dX4_isDebt_11 rfl rfl (⟨rfl, rfl, am_bi hq8 (by omega)⟩) (am_bz hq8)

set_option maxHeartbeats 4000000 in
set_option maxRecDepth 100000 in
theorem m_X4_isOpen (a : Int) (k : Nat) (ha : a = k) (σ : am_H) (hc : 0 ≤ σ 16 5 ∧ σ 16 5 ≤ 20) : am_Mi yX4_isOpen cX4_isOpen 2 (some .boolean) 2 0 0 [vr 16, vi a] SH σ (fun r sh' σ' => SH = sh' ∧ σ = σ' ∧ am_b r (a < σ 16 5 ∧ 0 < σ 19 k)) := by
  refine am_Mz_of (by decide +kernel) (Nat.le_of_ble_eq_true rfl) (fun K X hY hI hret => ?_)
  show am_G K 0 [some (vr 16), some (vi a)] [] SH σ
  refine am_aload_n (x := 16) X (by rfl) dX4_isOpen_0 ?_
  refine am_iload_n (x := a) X (by rfl) dX4_isOpen_1 ?_
  refine am_callVi (ci := 4) X hY lk_X4_41 mf_X4_isDebt (m_X4_isDebt a σ hc) (by decide) (by decide) (Nat.le_refl _) (Nat.le_refl _) sh_16 rfl rfl rfl (Nat.le_of_ble_eq_true rfl) dX4_isOpen_2 (fun r2 sh2 σ2 hr2 hp2 => ?_)
  obtain ⟨rfl, rfl, hq2⟩ := hp2
  refine am_if_eq (tgt := 21) X dX4_isOpen_5 (by decide) (fun h5 => ?_) (fun h5 => ?_)
  · skip
    refine am_ic X (by decide) dX4_isOpen_21 ?_
    exact hret _ _ _ _ _ dX4_isOpen_22 rfl rfl (by first | exact ⟨rfl, rfl, am_bt (by omega)⟩ | exact ⟨rfl, rfl, am_bf (by omega)⟩) (by first | exact Or.inl rfl | exact Or.inr rfl | omega)
  · skip
    refine am_aload_n (x := 16) X (by rfl) dX4_isOpen_8 ?_
    refine am_getr (c1 := 19) X 16 fl_X4_18 (by decide) sh_16 (by decide) (by rfl) dX4_isOpen_9 ?_
    refine am_iload_n (x := a) X (by rfl) dX4_isOpen_12 ?_
    refine am_ald (v := σ 19 k) X 19 k sh_19 (by omega) (by omega) (rfl) dX4_isOpen_13 ?_
    refine am_if_le (tgt := 21) X dX4_isOpen_14 (by decide) (fun h14 => ?_) (fun h14 => ?_)
    · skip
      refine am_ic X (by decide) dX4_isOpen_21 ?_
      exact hret _ _ _ _ _ dX4_isOpen_22 rfl rfl (by first | exact ⟨rfl, rfl, am_bt (by omega)⟩ | exact ⟨rfl, rfl, am_bf (by omega)⟩) (by first | exact Or.inl rfl | exact Or.inr rfl | omega)
    · skip
      refine am_ic X (by decide) dX4_isOpen_17 ?_
      refine am_goto (tgt := 22) X dX4_isOpen_18 (by decide) ?_
      exact hret _ _ _ _ _ dX4_isOpen_22 rfl rfl (by first | exact ⟨rfl, rfl, am_bt (by omega)⟩ | exact ⟨rfl, rfl, am_bf (by omega)⟩) (by first | exact Or.inl rfl | exact Or.inr rfl | omega)

set_option maxHeartbeats 4000000 in
set_option maxRecDepth 100000 in
theorem m_X4_owed (p q : Int) (σ : am_H) (hc : 0 ≤ σ 16 5 ∧ σ 16 5 ≤ 20) (hd : ∀ n : Nat, (n : Int) < σ 16 5 → 0 ≤ σ 19 n ∧ σ 19 n ≤ 9) : am_Mi yX4_owed cX4_owed 5 (some .int) 0 0 0 [vr 16, vi p, vi q] SH σ (fun r sh' σ' => SH = sh' ∧ σ = σ' ∧ r = am_sum (fun n : Nat => if σ 17 n = p ∧ σ 18 n = q then σ 19 n else 0) (σ 16 5).toNat ∧ 0 ≤ r ∧ r ≤ 180) := by
  refine am_Mi_of (by decide +kernel) (Nat.le_of_ble_eq_true rfl) (fun K X hY hI hret => ?_)
  show am_G K 0 [some (vr 16), some (vi p), some (vi q), none, none] [] SH σ
  refine am_ic X (by decide) dX4_owed_0 ?_
  refine am_istore_n (i := 3) (L' := [some (vr 16), some (vi p), some (vi q), some (vi 0), none]) X rfl (Nat.le_of_ble_eq_true rfl) (by rfl) dX4_owed_1 ?_
  refine am_ic X (by decide) dX4_owed_2 ?_
  refine am_istore (i := 4) (L' := [some (vr 16), some (vi p), some (vi q), some (vi 0), some (vi 0)]) X (Nat.le_of_ble_eq_true rfl) (by rfl) dX4_owed_3 ?_
  have hL5 : ∀ (m5 : Nat) (k : Nat) (s : Int) (hk : (k : Int) ≤ (σ 16 5)) (hs : s = am_sum (fun n : Nat => if σ 17 n = p ∧ σ 18 n = q then σ 19 n else 0) k) (hm5 : (σ 16 5).toNat - k = m5), am_G K 5 [some (vr 16), some (vi p), some (vi q), some (vi s), some (vi (k : Int))] [] SH σ := by
    intro m5
    induction m5 using Nat.strongRecOn with
    | ind m5 ih5 =>
    intro k s hk hs hm5
    have hb := am_sum_9 (f := (fun n : Nat => if σ 17 n = p ∧ σ 18 n = q then σ 19 n else 0)) (n := k) (fun j hj => by have := hd j (by omega); (repeat' split) <;> omega)
    have hdk := fun h : (k : Int) < (σ 16 5) => hd k h
    refine am_iload (x := (k : Int)) X (by rfl) dX4_owed_5 ?_
    refine am_aload_n (x := 16) X (by rfl) dX4_owed_7 ?_
    refine am_get (v := σ 16 5) X 16 fl_X4_33 (by decide) sh_16 (by decide) (rfl) dX4_owed_8 ?_
    refine am_icmp_ge (tgt := 52) X dX4_owed_11 (by decide) (fun h11 => ?_) (fun h11 => ?_)
    · skip
      refine am_iload_n (x := s) X (by rfl) dX4_owed_52 ?_
      exact hret _ _ _ _ _ dX4_owed_53 rfl rfl (⟨rfl, rfl, by rw [hs, show (σ 16 5).toNat = k by omega], by omega, by omega⟩)
    · skip
      refine am_aload_n (x := 16) X (by rfl) dX4_owed_14 ?_
      refine am_getr (c1 := 17) X 16 fl_X4_9 (by decide) sh_16 (by decide) (by rfl) dX4_owed_15 ?_
      refine am_iload (x := (k : Int)) X (by rfl) dX4_owed_18 ?_
      refine am_ald (v := σ 17 k) X 17 k sh_17 (by omega) (by omega) (rfl) dX4_owed_20 ?_
      refine am_iload_n (x := p) X (by rfl) dX4_owed_21 ?_
      refine am_icmp_ne (tgt := 46) X dX4_owed_22 (by decide) (fun h22 => ?_) (fun h22 => ?_)
      · skip
        refine am_inc (x := (k : Int)) (v := ((k : Int) + 1)) (L' := [some (vr 16), some (vi p), some (vi q), some (vi s), some (vi ((k : Int) + 1))]) X (by rfl) (by omega) (by omega) (by rfl) dX4_owed_46 ?_
        refine am_goto (tgt := 5) X dX4_owed_49 (by decide) ?_
        exact ih5 _ (by omega) (k + 1) _ (by omega) (by (try subst s); (try simp only [hs]); show _ = am_sum (fun n : Nat => if σ 17 n = p ∧ σ 18 n = q then σ 19 n else 0) k + (if _ then _ else _); first | rw [if_pos (by omega)] | (rw [if_neg (by omega)]; try omega)) rfl
      · skip
        refine am_aload_n (x := 16) X (by rfl) dX4_owed_25 ?_
        refine am_getr (c1 := 18) X 16 fl_X4_15 (by decide) sh_16 (by decide) (by rfl) dX4_owed_26 ?_
        refine am_iload (x := (k : Int)) X (by rfl) dX4_owed_29 ?_
        refine am_ald (v := σ 18 k) X 18 k sh_18 (by omega) (by omega) (rfl) dX4_owed_31 ?_
        refine am_iload_n (x := q) X (by rfl) dX4_owed_32 ?_
        refine am_icmp_ne (tgt := 46) X dX4_owed_33 (by decide) (fun h33 => ?_) (fun h33 => ?_)
        · skip
          refine am_inc (x := (k : Int)) (v := ((k : Int) + 1)) (L' := [some (vr 16), some (vi p), some (vi q), some (vi s), some (vi ((k : Int) + 1))]) X (by rfl) (by omega) (by omega) (by rfl) dX4_owed_46 ?_
          refine am_goto (tgt := 5) X dX4_owed_49 (by decide) ?_
          exact ih5 _ (by omega) (k + 1) _ (by omega) (by (try subst s); (try simp only [hs]); show _ = am_sum (fun n : Nat => if σ 17 n = p ∧ σ 18 n = q then σ 19 n else 0) k + (if _ then _ else _); first | rw [if_pos (by omega)] | (rw [if_neg (by omega)]; try omega)) rfl
        · skip
          refine am_iload_n (x := s) X (by rfl) dX4_owed_36 ?_
          refine am_aload_n (x := 16) X (by rfl) dX4_owed_37 ?_
          refine am_getr (c1 := 19) X 16 fl_X4_18 (by decide) sh_16 (by decide) (by rfl) dX4_owed_38 ?_
          refine am_iload (x := (k : Int)) X (by rfl) dX4_owed_41 ?_
          refine am_ald (v := σ 19 k) X 19 k sh_19 (by omega) (by omega) (rfl) dX4_owed_43 ?_
          refine am_add (v := (s + σ 19 k)) X (by first | rfl | omega) (by omega) dX4_owed_44 ?_
          refine am_istore_n (i := 3) (L' := [some (vr 16), some (vi p), some (vi q), some (vi (s + σ 19 k)), some (vi (k : Int))]) X rfl (Nat.le_of_ble_eq_true rfl) (by rfl) dX4_owed_45 ?_
          refine am_inc (x := (k : Int)) (v := ((k : Int) + 1)) (L' := [some (vr 16), some (vi p), some (vi q), some (vi (s + σ 19 k)), some (vi ((k : Int) + 1))]) X (by rfl) (by omega) (by omega) (by rfl) dX4_owed_46 ?_
          refine am_goto (tgt := 5) X dX4_owed_49 (by decide) ?_
          exact ih5 _ (by omega) (k + 1) _ (by omega) (by (try subst s); (try simp only [hs]); show _ = am_sum (fun n : Nat => if σ 17 n = p ∧ σ 18 n = q then σ 19 n else 0) k + (if _ then _ else _); first | rw [if_pos (by omega)] | (rw [if_neg (by omega)]; try omega)) rfl
  exact hL5 _ 0 0 (by omega) (rfl) rfl

set_option maxHeartbeats 4000000 in
set_option maxRecDepth 100000 in
theorem m_X4_owedBy (p : Int) (σ : am_H) (hc : 0 ≤ σ 16 5 ∧ σ 16 5 ≤ 20) (hd : ∀ n : Nat, (n : Int) < σ 16 5 → 0 ≤ σ 19 n ∧ σ 19 n ≤ 9) : am_Mi yX4_owedBy cX4_owedBy 4 (some .int) 0 0 0 [vr 16, vi p] SH σ (fun r sh' σ' => SH = sh' ∧ σ = σ' ∧ r = am_sum (fun n : Nat => if σ 17 n = p then σ 19 n else 0) (σ 16 5).toNat ∧ 0 ≤ r ∧ r ≤ 180) := by
  refine am_Mi_of (by decide +kernel) (Nat.le_of_ble_eq_true rfl) (fun K X hY hI hret => ?_)
  show am_G K 0 [some (vr 16), some (vi p), none, none] [] SH σ
  refine am_ic X (by decide) dX4_owedBy_0 ?_
  refine am_istore_n (i := 2) (L' := [some (vr 16), some (vi p), some (vi 0), none]) X rfl (Nat.le_of_ble_eq_true rfl) (by rfl) dX4_owedBy_1 ?_
  refine am_ic X (by decide) dX4_owedBy_2 ?_
  refine am_istore_n (i := 3) (L' := [some (vr 16), some (vi p), some (vi 0), some (vi 0)]) X rfl (Nat.le_of_ble_eq_true rfl) (by rfl) dX4_owedBy_3 ?_
  have hL4 : ∀ (m4 : Nat) (k : Nat) (s : Int) (hk : (k : Int) ≤ (σ 16 5)) (hs : s = am_sum (fun n : Nat => if σ 17 n = p then σ 19 n else 0) k) (hm4 : (σ 16 5).toNat - k = m4), am_G K 4 [some (vr 16), some (vi p), some (vi s), some (vi (k : Int))] [] SH σ := by
    intro m4
    induction m4 using Nat.strongRecOn with
    | ind m4 ih4 =>
    intro k s hk hs hm4
    have hb := am_sum_9 (f := (fun n : Nat => if σ 17 n = p then σ 19 n else 0)) (n := k) (fun j hj => by have := hd j (by omega); (repeat' split) <;> omega)
    have hdk := fun h : (k : Int) < (σ 16 5) => hd k h
    refine am_iload_n (x := (k : Int)) X (by rfl) dX4_owedBy_4 ?_
    refine am_aload_n (x := 16) X (by rfl) dX4_owedBy_5 ?_
    refine am_get (v := σ 16 5) X 16 fl_X4_33 (by decide) sh_16 (by decide) (rfl) dX4_owedBy_6 ?_
    refine am_icmp_ge (tgt := 37) X dX4_owedBy_9 (by decide) (fun h9 => ?_) (fun h9 => ?_)
    · skip
      refine am_iload_n (x := s) X (by rfl) dX4_owedBy_37 ?_
      exact hret _ _ _ _ _ dX4_owedBy_38 rfl rfl (⟨rfl, rfl, by rw [hs, show (σ 16 5).toNat = k by omega], by omega, by omega⟩)
    · skip
      refine am_aload_n (x := 16) X (by rfl) dX4_owedBy_12 ?_
      refine am_getr (c1 := 17) X 16 fl_X4_9 (by decide) sh_16 (by decide) (by rfl) dX4_owedBy_13 ?_
      refine am_iload_n (x := (k : Int)) X (by rfl) dX4_owedBy_16 ?_
      refine am_ald (v := σ 17 k) X 17 k sh_17 (by omega) (by omega) (rfl) dX4_owedBy_17 ?_
      refine am_iload_n (x := p) X (by rfl) dX4_owedBy_18 ?_
      refine am_icmp_ne (tgt := 31) X dX4_owedBy_19 (by decide) (fun h19 => ?_) (fun h19 => ?_)
      · skip
        refine am_inc (x := (k : Int)) (v := ((k : Int) + 1)) (L' := [some (vr 16), some (vi p), some (vi s), some (vi ((k : Int) + 1))]) X (by rfl) (by omega) (by omega) (by rfl) dX4_owedBy_31 ?_
        refine am_goto (tgt := 4) X dX4_owedBy_34 (by decide) ?_
        exact ih4 _ (by omega) (k + 1) _ (by omega) (by (try subst s); (try simp only [hs]); show _ = am_sum (fun n : Nat => if σ 17 n = p then σ 19 n else 0) k + (if _ then _ else _); first | rw [if_pos (by omega)] | (rw [if_neg (by omega)]; try omega)) rfl
      · skip
        refine am_iload_n (x := s) X (by rfl) dX4_owedBy_22 ?_
        refine am_aload_n (x := 16) X (by rfl) dX4_owedBy_23 ?_
        refine am_getr (c1 := 19) X 16 fl_X4_18 (by decide) sh_16 (by decide) (by rfl) dX4_owedBy_24 ?_
        refine am_iload_n (x := (k : Int)) X (by rfl) dX4_owedBy_27 ?_
        refine am_ald (v := σ 19 k) X 19 k sh_19 (by omega) (by omega) (rfl) dX4_owedBy_28 ?_
        refine am_add (v := (s + σ 19 k)) X (by first | rfl | omega) (by omega) dX4_owedBy_29 ?_
        refine am_istore_n (i := 2) (L' := [some (vr 16), some (vi p), some (vi (s + σ 19 k)), some (vi (k : Int))]) X rfl (Nat.le_of_ble_eq_true rfl) (by rfl) dX4_owedBy_30 ?_
        refine am_inc (x := (k : Int)) (v := ((k : Int) + 1)) (L' := [some (vr 16), some (vi p), some (vi (s + σ 19 k)), some (vi ((k : Int) + 1))]) X (by rfl) (by omega) (by omega) (by rfl) dX4_owedBy_31 ?_
        refine am_goto (tgt := 4) X dX4_owedBy_34 (by decide) ?_
        exact ih4 _ (by omega) (k + 1) _ (by omega) (by (try subst s); (try simp only [hs]); show _ = am_sum (fun n : Nat => if σ 17 n = p then σ 19 n else 0) k + (if _ then _ else _); first | rw [if_pos (by omega)] | (rw [if_neg (by omega)]; try omega)) rfl
  exact hL4 _ 0 0 (by omega) (rfl) rfl

set_option maxHeartbeats 4000000 in
set_option maxRecDepth 100000 in
theorem m_X4_owedTo (p : Int) (σ : am_H) (hc : 0 ≤ σ 16 5 ∧ σ 16 5 ≤ 20) (hd : ∀ n : Nat, (n : Int) < σ 16 5 → 0 ≤ σ 19 n ∧ σ 19 n ≤ 9) : am_Mi yX4_owedTo cX4_owedTo 4 (some .int) 0 0 0 [vr 16, vi p] SH σ (fun r sh' σ' => SH = sh' ∧ σ = σ' ∧ r = am_sum (fun n : Nat => if σ 18 n = p then σ 19 n else 0) (σ 16 5).toNat ∧ 0 ≤ r ∧ r ≤ 180) := by
  refine am_Mi_of (by decide +kernel) (Nat.le_of_ble_eq_true rfl) (fun K X hY hI hret => ?_)
  show am_G K 0 [some (vr 16), some (vi p), none, none] [] SH σ
  refine am_ic X (by decide) dX4_owedTo_0 ?_
  refine am_istore_n (i := 2) (L' := [some (vr 16), some (vi p), some (vi 0), none]) X rfl (Nat.le_of_ble_eq_true rfl) (by rfl) dX4_owedTo_1 ?_
  refine am_ic X (by decide) dX4_owedTo_2 ?_
  refine am_istore_n (i := 3) (L' := [some (vr 16), some (vi p), some (vi 0), some (vi 0)]) X rfl (Nat.le_of_ble_eq_true rfl) (by rfl) dX4_owedTo_3 ?_
  have hL4 : ∀ (m4 : Nat) (k : Nat) (s : Int) (hk : (k : Int) ≤ (σ 16 5)) (hs : s = am_sum (fun n : Nat => if σ 18 n = p then σ 19 n else 0) k) (hm4 : (σ 16 5).toNat - k = m4), am_G K 4 [some (vr 16), some (vi p), some (vi s), some (vi (k : Int))] [] SH σ := by
    intro m4
    induction m4 using Nat.strongRecOn with
    | ind m4 ih4 =>
    intro k s hk hs hm4
    have hb := am_sum_9 (f := (fun n : Nat => if σ 18 n = p then σ 19 n else 0)) (n := k) (fun j hj => by have := hd j (by omega); (repeat' split) <;> omega)
    have hdk := fun h : (k : Int) < (σ 16 5) => hd k h
    refine am_iload_n (x := (k : Int)) X (by rfl) dX4_owedTo_4 ?_
    refine am_aload_n (x := 16) X (by rfl) dX4_owedTo_5 ?_
    refine am_get (v := σ 16 5) X 16 fl_X4_33 (by decide) sh_16 (by decide) (rfl) dX4_owedTo_6 ?_
    refine am_icmp_ge (tgt := 37) X dX4_owedTo_9 (by decide) (fun h9 => ?_) (fun h9 => ?_)
    · skip
      refine am_iload_n (x := s) X (by rfl) dX4_owedTo_37 ?_
      exact hret _ _ _ _ _ dX4_owedTo_38 rfl rfl (⟨rfl, rfl, by rw [hs, show (σ 16 5).toNat = k by omega], by omega, by omega⟩)
    · skip
      refine am_aload_n (x := 16) X (by rfl) dX4_owedTo_12 ?_
      refine am_getr (c1 := 18) X 16 fl_X4_15 (by decide) sh_16 (by decide) (by rfl) dX4_owedTo_13 ?_
      refine am_iload_n (x := (k : Int)) X (by rfl) dX4_owedTo_16 ?_
      refine am_ald (v := σ 18 k) X 18 k sh_18 (by omega) (by omega) (rfl) dX4_owedTo_17 ?_
      refine am_iload_n (x := p) X (by rfl) dX4_owedTo_18 ?_
      refine am_icmp_ne (tgt := 31) X dX4_owedTo_19 (by decide) (fun h19 => ?_) (fun h19 => ?_)
      · skip
        refine am_inc (x := (k : Int)) (v := ((k : Int) + 1)) (L' := [some (vr 16), some (vi p), some (vi s), some (vi ((k : Int) + 1))]) X (by rfl) (by omega) (by omega) (by rfl) dX4_owedTo_31 ?_
        refine am_goto (tgt := 4) X dX4_owedTo_34 (by decide) ?_
        exact ih4 _ (by omega) (k + 1) _ (by omega) (by (try subst s); (try simp only [hs]); show _ = am_sum (fun n : Nat => if σ 18 n = p then σ 19 n else 0) k + (if _ then _ else _); first | rw [if_pos (by omega)] | (rw [if_neg (by omega)]; try omega)) rfl
      · skip
        refine am_iload_n (x := s) X (by rfl) dX4_owedTo_22 ?_
        refine am_aload_n (x := 16) X (by rfl) dX4_owedTo_23 ?_
        refine am_getr (c1 := 19) X 16 fl_X4_18 (by decide) sh_16 (by decide) (by rfl) dX4_owedTo_24 ?_
        refine am_iload_n (x := (k : Int)) X (by rfl) dX4_owedTo_27 ?_
        refine am_ald (v := σ 19 k) X 19 k sh_19 (by omega) (by omega) (rfl) dX4_owedTo_28 ?_
        refine am_add (v := (s + σ 19 k)) X (by first | rfl | omega) (by omega) dX4_owedTo_29 ?_
        refine am_istore_n (i := 2) (L' := [some (vr 16), some (vi p), some (vi (s + σ 19 k)), some (vi (k : Int))]) X rfl (Nat.le_of_ble_eq_true rfl) (by rfl) dX4_owedTo_30 ?_
        refine am_inc (x := (k : Int)) (v := ((k : Int) + 1)) (L' := [some (vr 16), some (vi p), some (vi (s + σ 19 k)), some (vi ((k : Int) + 1))]) X (by rfl) (by omega) (by omega) (by rfl) dX4_owedTo_31 ?_
        refine am_goto (tgt := 4) X dX4_owedTo_34 (by decide) ?_
        exact ih4 _ (by omega) (k + 1) _ (by omega) (by (try subst s); (try simp only [hs]); show _ = am_sum (fun n : Nat => if σ 18 n = p then σ 19 n else 0) k + (if _ then _ else _); first | rw [if_pos (by omega)] | (rw [if_neg (by omega)]; try omega)) rfl
  exact hL4 _ 0 0 (by omega) (rfl) rfl

set_option maxHeartbeats 4000000 in
set_option maxRecDepth 100000 in
theorem m_X4_open (σ : am_H) (hc : 0 ≤ σ 16 5 ∧ σ 16 5 ≤ 20) : am_Mi yX4_open cX4_open 3 (some .int) 0 0 0 [vr 16] SH σ (fun r sh' σ' => SH = sh' ∧ σ = σ' ∧ r = am_sum (fun n : Nat => if 0 < σ 19 n then 1 else 0) (σ 16 5).toNat ∧ 0 ≤ r ∧ r ≤ 180) := by
  refine am_Mi_of (by decide +kernel) (Nat.le_of_ble_eq_true rfl) (fun K X hY hI hret => ?_)
  show am_G K 0 [some (vr 16), none, none] [] SH σ
  refine am_ic X (by decide) dX4_open_0 ?_
  refine am_istore_n (i := 1) (L' := [some (vr 16), some (vi 0), none]) X rfl (Nat.le_of_ble_eq_true rfl) (by rfl) dX4_open_1 ?_
  refine am_ic X (by decide) dX4_open_2 ?_
  refine am_istore_n (i := 2) (L' := [some (vr 16), some (vi 0), some (vi 0)]) X rfl (Nat.le_of_ble_eq_true rfl) (by rfl) dX4_open_3 ?_
  have hL4 : ∀ (m4 : Nat) (k : Nat) (s : Int) (hk : (k : Int) ≤ (σ 16 5)) (hs : s = am_sum (fun n : Nat => if 0 < σ 19 n then 1 else 0) k) (hm4 : (σ 16 5).toNat - k = m4), am_G K 4 [some (vr 16), some (vi s), some (vi (k : Int))] [] SH σ := by
    intro m4
    induction m4 using Nat.strongRecOn with
    | ind m4 ih4 =>
    intro k s hk hs hm4
    have hb := am_sum_1 (f := (fun n : Nat => if 0 < σ 19 n then 1 else 0)) (n := k) (fun j hj => by (repeat' split) <;> omega)
    refine am_iload_n (x := (k : Int)) X (by rfl) dX4_open_4 ?_
    refine am_aload_n (x := 16) X (by rfl) dX4_open_5 ?_
    refine am_get (v := σ 16 5) X 16 fl_X4_33 (by decide) sh_16 (by decide) (rfl) dX4_open_6 ?_
    refine am_icmp_ge (tgt := 30) X dX4_open_9 (by decide) (fun h9 => ?_) (fun h9 => ?_)
    · skip
      refine am_iload_n (x := s) X (by rfl) dX4_open_30 ?_
      exact hret _ _ _ _ _ dX4_open_31 rfl rfl (⟨rfl, rfl, by rw [hs, show (σ 16 5).toNat = k by omega], by omega, by omega⟩)
    · skip
      refine am_aload_n (x := 16) X (by rfl) dX4_open_12 ?_
      refine am_getr (c1 := 19) X 16 fl_X4_18 (by decide) sh_16 (by decide) (by rfl) dX4_open_13 ?_
      refine am_iload_n (x := (k : Int)) X (by rfl) dX4_open_16 ?_
      refine am_ald (v := σ 19 k) X 19 k sh_19 (by omega) (by omega) (rfl) dX4_open_17 ?_
      refine am_if_le (tgt := 24) X dX4_open_18 (by decide) (fun h18 => ?_) (fun h18 => ?_)
      · skip
        refine am_inc (x := (k : Int)) (v := ((k : Int) + 1)) (L' := [some (vr 16), some (vi s), some (vi ((k : Int) + 1))]) X (by rfl) (by omega) (by omega) (by rfl) dX4_open_24 ?_
        refine am_goto (tgt := 4) X dX4_open_27 (by decide) ?_
        exact ih4 _ (by omega) (k + 1) _ (by omega) (by (try subst s); (try simp only [hs]); show _ = am_sum (fun n : Nat => if 0 < σ 19 n then 1 else 0) k + (if _ then _ else _); first | rw [if_pos (by omega)] | (rw [if_neg (by omega)]; try omega)) rfl
      · skip
        refine am_inc (x := s) (v := (s + 1)) (L' := [some (vr 16), some (vi (s + 1)), some (vi (k : Int))]) X (by rfl) (by omega) (by omega) (by rfl) dX4_open_21 ?_
        refine am_inc (x := (k : Int)) (v := ((k : Int) + 1)) (L' := [some (vr 16), some (vi (s + 1)), some (vi ((k : Int) + 1))]) X (by rfl) (by omega) (by omega) (by rfl) dX4_open_24 ?_
        refine am_goto (tgt := 4) X dX4_open_27 (by decide) ?_
        exact ih4 _ (by omega) (k + 1) _ (by omega) (by (try subst s); (try simp only [hs]); show _ = am_sum (fun n : Nat => if 0 < σ 19 n then 1 else 0) k + (if _ then _ else _); first | rw [if_pos (by omega)] | (rw [if_neg (by omega)]; try omega)) rfl
  exact hL4 _ 0 0 (by omega) (rfl) rfl
