set_option maxHeartbeats 4000000 in
set_option maxRecDepth 100000 in
theorem m_X9_person (a : Int) (σ : am_H) (hp : 0 ≤ σ 1 2 ∧ σ 1 2 ≤ 8) : am_Mi yX9_person cX9_person 2 (some .int) 1 0 0 [vr 0, vi a] SH σ (fun r sh' σ' => SH = sh' ∧ ((¬ (1 ≤ a ∧ a ≤ 9) ∧ r = -1 ∧ σ = σ') ∨ (((1 ≤ a ∧ a ≤ 9) ∧ σ 1 2 = 8) ∧ r = -3 ∧ σ = σ') ∨ (((1 ≤ a ∧ a ≤ 9) ∧ σ 1 2 < 8) ∧ r = σ 1 2 ∧ (set_add σ a) = σ'))) := by
  refine am_Mi_of (by decide +kernel) (Nat.le_of_ble_eq_true rfl) (fun K X hY hI hret => ?_)
  show am_G K 0 [some (vr 0), some (vi a)] [] SH σ
  refine am_iload_n (x := a) X (by rfl) dX9_person_0 ?_
  refine am_ic X (by decide) dX9_person_1 ?_
  refine am_bipush X (by decide) dX9_person_2 ?_
  refine am_callSi X hY lk_X9_75 mf_X9_within (m_X9_within a 1 9 _ σ) (by decide) (by decide) (Nat.le_refl _) (Nat.le_refl _) rfl rfl (Nat.le_of_ble_eq_true rfl) dX9_person_4 (fun r4 sh4 σ4 hr4 hp4 => ?_)
  obtain ⟨rfl, rfl, hq4⟩ := hp4
  refine am_if_ne (tgt := 12) X dX9_person_7 (by decide) (fun h7 => ?_) (fun h7 => ?_)
  · skip
    refine am_aload_n (x := 0) X (by rfl) dX9_person_12 ?_
    refine am_getr (c1 := 1) X 0 fl_X9_10 (by decide) sh_0 (by decide) (by rfl) dX9_person_13 ?_
    refine am_get (v := σ 1 2) X 1 fl_X9_79 (by decide) sh_1 (by decide) (rfl) dX9_person_16 ?_
    refine am_bipush X (by decide) dX9_person_19 ?_
    refine am_icmp_lt (tgt := 27) X dX9_person_21 (by decide) (fun h21 => ?_) (fun h21 => ?_)
    · skip
      refine am_aload_n (x := 0) X (by rfl) dX9_person_27 ?_
      refine am_getr (c1 := 1) X 0 fl_X9_10 (by decide) sh_0 (by decide) (by rfl) dX9_person_28 ?_
      refine am_iload_n (x := a) X (by rfl) dX9_person_31 ?_
      refine am_callVi (ci := 5) X hY lk_X9_83 mf_X6_addPerson (m_X6_addPerson a σ (by omega)) (by decide) (by decide) (Nat.le_refl _) (Nat.le_refl _) sh_1 rfl rfl rfl (Nat.le_of_ble_eq_true rfl) dX9_person_32 (fun r32 sh32 σ32 hr32 hp32 => ?_)
      obtain ⟨rfl, rfl, hq32⟩ := hp32
      exact hret _ _ _ _ _ dX9_person_35 rfl rfl (by first | exact ⟨rfl, Or.inl ⟨by omega, by omega, rfl⟩⟩ | exact ⟨rfl, Or.inr (Or.inl ⟨by omega, by omega, rfl⟩)⟩ | exact ⟨rfl, Or.inr (Or.inr (⟨by omega, by omega, rfl⟩))⟩)
    · skip
      refine am_bipush X (by decide) dX9_person_24 ?_
      exact hret _ _ _ _ _ dX9_person_26 rfl rfl (by first | exact ⟨rfl, Or.inl ⟨by omega, by omega, rfl⟩⟩ | exact ⟨rfl, Or.inr (Or.inl ⟨by omega, by omega, rfl⟩)⟩ | exact ⟨rfl, Or.inr (Or.inr (⟨by omega, by omega, rfl⟩))⟩)
  · skip
    refine am_ic X (by decide) dX9_person_10 ?_
    exact hret _ _ _ _ _ dX9_person_11 rfl rfl (by first | exact ⟨rfl, Or.inl ⟨by omega, by omega, rfl⟩⟩ | exact ⟨rfl, Or.inr (Or.inl ⟨by omega, by omega, rfl⟩)⟩ | exact ⟨rfl, Or.inr (Or.inr (⟨by omega, by omega, rfl⟩))⟩)

set_option maxHeartbeats 4000000 in
set_option maxRecDepth 100000 in
theorem m_X9_debt (a b : Int) (σ : am_H) (hp : 0 ≤ σ 1 2 ∧ σ 1 2 ≤ 8) (hc : 0 ≤ σ 16 5 ∧ σ 16 5 ≤ 20) : am_Mi yX9_debt cX9_debt 3 (some .int) 4 0 0 [vr 0, vi a, vi b] SH σ (fun r sh' σ' => SH = sh' ∧ ((¬ (c_pair σ a ∧ 0 ≤ b ∧ (1 ≤ b / 100 ∧ b / 100 ≤ 9) ∧ 0 ≤ b % 100 ∧ b % 100 ≤ 12) ∧ r = -1 ∧ σ = σ') ∨ (((c_pair σ a ∧ 0 ≤ b ∧ (1 ≤ b / 100 ∧ b / 100 ≤ 9) ∧ 0 ≤ b % 100 ∧ b % 100 ≤ 12) ∧ σ 16 5 = 20) ∧ r = -3 ∧ σ = σ') ∨ (((c_pair σ a ∧ 0 ≤ b ∧ (1 ≤ b / 100 ∧ b / 100 ≤ 9) ∧ 0 ≤ b % 100 ∧ b % 100 ≤ 12) ∧ σ 16 5 < 20) ∧ r = σ 16 5 ∧ (led_add σ (a / 10) (a % 10) (b / 100) (b % 100)) = σ'))) := by
  refine am_Mi_of (by decide +kernel) (Nat.le_of_ble_eq_true rfl) (fun K X hY hI hret => ?_)
  show am_G K 0 [some (vr 0), some (vi a), some (vi b)] [] SH σ
  refine am_aload_n (x := 0) X (by rfl) dX9_debt_0 ?_
  refine am_getr (c1 := 1) X 0 fl_X9_10 (by decide) sh_0 (by decide) (by rfl) dX9_debt_1 ?_
  refine am_iload_n (x := a) X (by rfl) dX9_debt_4 ?_
  refine am_callVi (ci := 5) X hY lk_X9_87 mf_X6_isPair (m_X6_isPair a σ hp) (by decide) (by decide) (Nat.le_refl _) (Nat.le_refl _) sh_1 rfl rfl rfl (Nat.le_of_ble_eq_true rfl) dX9_debt_5 (fun r5 sh5 σ5 hr5 hp5 => ?_)
  obtain ⟨rfl, rfl, hq5⟩ := hp5
  refine am_if_eq (tgt := 29) X dX9_debt_8 (by decide) (fun h8 => ?_) (fun h8 => ?_)
  · skip
    refine am_ic X (by decide) dX9_debt_29 ?_
    exact hret _ _ _ _ _ dX9_debt_30 rfl rfl (by first | exact ⟨rfl, Or.inl ⟨by omega, by omega, rfl⟩⟩ | exact ⟨rfl, Or.inr (Or.inl ⟨by omega, by omega, rfl⟩)⟩ | exact ⟨rfl, Or.inr (Or.inr (⟨by omega, by omega, rfl⟩))⟩)
  · skip
    refine am_iload_n (x := b) X (by rfl) dX9_debt_11 ?_
    refine am_if_lt (tgt := 29) X dX9_debt_12 (by decide) (fun h12 => ?_) (fun h12 => ?_)
    · skip
      refine am_ic X (by decide) dX9_debt_29 ?_
      exact hret _ _ _ _ _ dX9_debt_30 rfl rfl (by first | exact ⟨rfl, Or.inl ⟨by omega, by omega, rfl⟩⟩ | exact ⟨rfl, Or.inr (Or.inl ⟨by omega, by omega, rfl⟩)⟩ | exact ⟨rfl, Or.inr (Or.inr (⟨by omega, by omega, rfl⟩))⟩)
    · skip
      refine am_iload_n (x := b) X (by rfl) dX9_debt_15 ?_
      refine am_bipush X (by decide) dX9_debt_16 ?_
      refine am_div (v := (b / 100)) X (by omega) (by omega) rfl dX9_debt_18 ?_
      refine am_iload_n (x := b) X (by rfl) dX9_debt_19 ?_
      refine am_bipush X (by decide) dX9_debt_20 ?_
      refine am_rem (v := (b % 100)) X (by omega) (by omega) rfl dX9_debt_22 ?_
      refine am_callSi X hY lk_X9_91 mf_X9_isDebtSo (m_X9_isDebtSo (b / 100) (b % 100) _ σ) (by decide) (by decide) (Nat.le_refl _) (Nat.le_refl _) rfl rfl (Nat.le_of_ble_eq_true rfl) dX9_debt_23 (fun r23 sh23 σ23 hr23 hp23 => ?_)
      obtain ⟨rfl, rfl, hq23⟩ := hp23
      refine am_if_ne (tgt := 31) X dX9_debt_26 (by decide) (fun h26 => ?_) (fun h26 => ?_)
      · skip
        refine am_aload_n (x := 0) X (by rfl) dX9_debt_31 ?_
        refine am_getr (c1 := 16) X 0 fl_X9_33 (by decide) sh_0 (by decide) (by rfl) dX9_debt_32 ?_
        refine am_get (v := σ 16 5) X 16 fl_X9_95 (by decide) sh_16 (by decide) (rfl) dX9_debt_35 ?_
        refine am_bipush X (by decide) dX9_debt_38 ?_
        refine am_icmp_lt (tgt := 46) X dX9_debt_40 (by decide) (fun h40 => ?_) (fun h40 => ?_)
        · skip
          refine am_aload_n (x := 0) X (by rfl) dX9_debt_46 ?_
          refine am_getr (c1 := 16) X 0 fl_X9_33 (by decide) sh_0 (by decide) (by rfl) dX9_debt_47 ?_
          refine am_iload_n (x := a) X (by rfl) dX9_debt_50 ?_
          refine am_bipush X (by decide) dX9_debt_51 ?_
          refine am_div (v := (a / 10)) X (by omega) (by omega) rfl dX9_debt_53 ?_
          refine am_iload_n (x := a) X (by rfl) dX9_debt_54 ?_
          refine am_bipush X (by decide) dX9_debt_55 ?_
          refine am_rem (v := (a % 10)) X (by omega) (by omega) rfl dX9_debt_57 ?_
          refine am_iload_n (x := b) X (by rfl) dX9_debt_58 ?_
          refine am_bipush X (by decide) dX9_debt_59 ?_
          refine am_div (v := (b / 100)) X (by omega) (by omega) rfl dX9_debt_61 ?_
          refine am_iload_n (x := b) X (by rfl) dX9_debt_62 ?_
          refine am_bipush X (by decide) dX9_debt_63 ?_
          refine am_rem (v := (b % 100)) X (by omega) (by omega) rfl dX9_debt_65 ?_
          refine am_callVi (ci := 4) X hY lk_X9_98 mf_X4_add (m_X4_add (a / 10) (a % 10) (b / 100) (b % 100) σ (by omega)) (by decide) (by decide) (Nat.le_refl _) (Nat.le_refl _) sh_16 rfl rfl rfl (Nat.le_of_ble_eq_true rfl) dX9_debt_66 (fun r66 sh66 σ66 hr66 hp66 => ?_)
          obtain ⟨rfl, rfl, hq66⟩ := hp66
          exact hret _ _ _ _ _ dX9_debt_69 rfl rfl (by first | exact ⟨rfl, Or.inl ⟨by omega, by omega, rfl⟩⟩ | exact ⟨rfl, Or.inr (Or.inl ⟨by omega, by omega, rfl⟩)⟩ | exact ⟨rfl, Or.inr (Or.inr (⟨by omega, by omega, rfl⟩))⟩)
        · skip
          refine am_bipush X (by decide) dX9_debt_43 ?_
          exact hret _ _ _ _ _ dX9_debt_45 rfl rfl (by first | exact ⟨rfl, Or.inl ⟨by omega, by omega, rfl⟩⟩ | exact ⟨rfl, Or.inr (Or.inl ⟨by omega, by omega, rfl⟩)⟩ | exact ⟨rfl, Or.inr (Or.inr (⟨by omega, by omega, rfl⟩))⟩)
      · skip
        refine am_ic X (by decide) dX9_debt_29 ?_
        exact hret _ _ _ _ _ dX9_debt_30 rfl rfl (by first | exact ⟨rfl, Or.inl ⟨by omega, by omega, rfl⟩⟩ | exact ⟨rfl, Or.inr (Or.inl ⟨by omega, by omega, rfl⟩)⟩ | exact ⟨rfl, Or.inr (Or.inr (⟨by omega, by omega, rfl⟩))⟩)

set_option maxHeartbeats 4000000 in
set_option maxRecDepth 100000 in
theorem m_X9_mend (a b c : Int) (σ : am_H) (hp : 0 ≤ σ 1 2 ∧ σ 1 2 ≤ 8) (hD : 0 ≤ σ 4 4 ∧ σ 4 4 ≤ 40) : am_Mi yX9_mend cX9_mend 5 (some .int) 3 0 0 [vr 0, vi a, vi b, vi c] SH σ (fun r sh' σ' => SH = sh' ∧ ((¬ (c_num σ a b ∧ c_alw b c) ∧ r = -1 ∧ σ = σ') ∨ (((c_num σ a b ∧ c_alw b c) ∧ set_told σ a.toNat b = c) ∧ r = set_told σ a.toNat b ∧ σ = σ') ∨ (((c_num σ a b ∧ c_alw b c) ∧ set_told σ a.toNat b ≠ c) ∧ r = set_told σ a.toNat b ∧ (set_tell (chg_note σ a b (set_told σ a.toNat b) c) a.toNat b c) = σ'))) := by
  refine am_Mi_of (by decide +kernel) (Nat.le_of_ble_eq_true rfl) (fun K X hY hI hret => ?_)
  show am_G K 0 [some (vr 0), some (vi a), some (vi b), some (vi c), none] [] SH σ
  refine am_aload_n (x := 0) X (by rfl) dX9_mend_0 ?_
  refine am_getr (c1 := 1) X 0 fl_X9_10 (by decide) sh_0 (by decide) (by rfl) dX9_mend_1 ?_
  refine am_iload_n (x := a) X (by rfl) dX9_mend_4 ?_
  refine am_iload_n (x := b) X (by rfl) dX9_mend_5 ?_
  refine am_callVi (ci := 5) X hY lk_X9_118 mf_X6_isNumber (m_X6_isNumber a b σ hp) (by decide) (by decide) (Nat.le_refl _) (Nat.le_refl _) sh_1 rfl rfl rfl (Nat.le_of_ble_eq_true rfl) dX9_mend_6 (fun r6 sh6 σ6 hr6 hp6 => ?_)
  obtain ⟨rfl, rfl, hq6⟩ := hp6
  refine am_if_eq (tgt := 24) X dX9_mend_9 (by decide) (fun h9 => ?_) (fun h9 => ?_)
  · skip
    refine am_ic X (by decide) dX9_mend_24 ?_
    exact hret _ _ _ _ _ dX9_mend_25 rfl rfl (by first | exact ⟨rfl, Or.inl ⟨by omega, by omega, rfl⟩⟩ | exact ⟨rfl, Or.inr (Or.inl ⟨by omega, by omega, rfl⟩)⟩ | exact ⟨rfl, Or.inr (Or.inr (⟨by omega, by omega, rfl⟩))⟩ | (subst hq32; exact ⟨rfl, Or.inr (Or.inr ⟨by omega, rfl, rfl⟩)⟩))
  · skip
    refine am_aload_n (x := 0) X (by rfl) dX9_mend_12 ?_
    refine am_getr (c1 := 1) X 0 fl_X9_10 (by decide) sh_0 (by decide) (by rfl) dX9_mend_13 ?_
    refine am_iload_n (x := b) X (by rfl) dX9_mend_16 ?_
    refine am_iload_n (x := c) X (by rfl) dX9_mend_17 ?_
    refine am_callVi (ci := 5) X hY lk_X9_121 mf_X6_allows (m_X6_allows b c σ) (by decide) (by decide) (Nat.le_refl _) (Nat.le_refl _) sh_1 rfl rfl rfl (Nat.le_of_ble_eq_true rfl) dX9_mend_18 (fun r18 sh18 σ18 hr18 hp18 => ?_)
    obtain ⟨rfl, rfl, hq18⟩ := hp18
    refine am_if_ne (tgt := 26) X dX9_mend_21 (by decide) (fun h21 => ?_) (fun h21 => ?_)
    · skip
      refine am_aload_n (x := 0) X (by rfl) dX9_mend_26 ?_
      refine am_getr (c1 := 1) X 0 fl_X9_10 (by decide) sh_0 (by decide) (by rfl) dX9_mend_27 ?_
      refine am_iload_n (x := a) X (by rfl) dX9_mend_30 ?_
      refine am_iload_n (x := b) X (by rfl) dX9_mend_31 ?_
      refine am_callVi (ci := 5) X hY lk_X9_124 mf_X6_told (m_X6_told a b ((a).toNat) (by omega) σ (by omega)) (by decide) (by decide) (Nat.le_refl _) (Nat.le_refl _) sh_1 rfl rfl rfl (Nat.le_of_ble_eq_true rfl) dX9_mend_32 (fun r32 sh32 σ32 hr32 hp32 => ?_)
      obtain ⟨rfl, rfl, hq32⟩ := hp32
      refine am_istore (i := 4) (L' := [some (vr 0), some (vi a), some (vi b), some (vi c), some (vi r32)]) X (Nat.le_of_ble_eq_true rfl) (by rfl) dX9_mend_35 ?_
      refine am_iload (x := r32) X (by rfl) dX9_mend_37 ?_
      refine am_iload_n (x := c) X (by rfl) dX9_mend_39 ?_
      refine am_icmp_eq (tgt := 65) X dX9_mend_40 (by decide) (fun h40 => ?_) (fun h40 => ?_)
      · skip
        refine am_iload (x := r32) X (by rfl) dX9_mend_65 ?_
        exact hret _ _ _ _ _ dX9_mend_67 rfl rfl (by first | exact ⟨rfl, Or.inl ⟨by omega, by omega, rfl⟩⟩ | exact ⟨rfl, Or.inr (Or.inl ⟨by omega, by omega, rfl⟩)⟩ | exact ⟨rfl, Or.inr (Or.inr (⟨by omega, by omega, rfl⟩))⟩ | (subst hq32; exact ⟨rfl, Or.inr (Or.inr ⟨by omega, rfl, rfl⟩)⟩))
      · skip
        refine am_aload_n (x := 0) X (by rfl) dX9_mend_43 ?_
        refine am_getr (c1 := 4) X 0 fl_X9_19 (by decide) sh_0 (by decide) (by rfl) dX9_mend_44 ?_
        refine am_iload_n (x := a) X (by rfl) dX9_mend_47 ?_
        refine am_iload_n (x := b) X (by rfl) dX9_mend_48 ?_
        refine am_iload (x := r32) X (by rfl) dX9_mend_49 ?_
        refine am_iload_n (x := c) X (by rfl) dX9_mend_51 ?_
        refine am_callVv (ci := 1) X hY lk_X9_128 mf_X1_note (m_X1_note a b r32 c σ (by omega)) (by decide) (by decide) (Nat.le_refl _) (Nat.le_refl _) sh_4 rfl rfl rfl (Nat.le_of_ble_eq_true rfl) dX9_mend_52 (fun sh52 σ52 hp52 => ?_)
        obtain ⟨rfl, rfl, hq52⟩ := hp52
        refine am_aload_n (x := 0) X (by rfl) dX9_mend_55 ?_
        refine am_getr (c1 := 1) X 0 fl_X9_10 (by decide) sh_0 (by decide) (by rfl) dX9_mend_56 ?_
        refine am_iload_n (x := a) X (by rfl) dX9_mend_59 ?_
        refine am_iload_n (x := b) X (by rfl) dX9_mend_60 ?_
        refine am_iload_n (x := c) X (by rfl) dX9_mend_61 ?_
        refine am_callVv (ci := 5) X hY lk_X9_132 mf_X6_tell (m_X6_tell a b c ((a).toNat) (by omega) (chg_note σ a b r32 c) (by omega)) (by decide) (by decide) (Nat.le_refl _) (Nat.le_refl _) sh_1 rfl rfl rfl (Nat.le_of_ble_eq_true rfl) dX9_mend_62 (fun sh62 σ62 hp62 => ?_)
        obtain ⟨rfl, rfl, hq62⟩ := hp62
        refine am_iload (x := r32) X (by rfl) dX9_mend_65 ?_
        exact hret _ _ _ _ _ dX9_mend_67 rfl rfl (by first | exact ⟨rfl, Or.inl ⟨by omega, by omega, rfl⟩⟩ | exact ⟨rfl, Or.inr (Or.inl ⟨by omega, by omega, rfl⟩)⟩ | exact ⟨rfl, Or.inr (Or.inr (⟨by omega, by omega, rfl⟩))⟩ | (subst hq32; exact ⟨rfl, Or.inr (Or.inr ⟨by omega, rfl, rfl⟩)⟩))
    · skip
      refine am_ic X (by decide) dX9_mend_24 ?_
      exact hret _ _ _ _ _ dX9_mend_25 rfl rfl (by first | exact ⟨rfl, Or.inl ⟨by omega, by omega, rfl⟩⟩ | exact ⟨rfl, Or.inr (Or.inl ⟨by omega, by omega, rfl⟩)⟩ | exact ⟨rfl, Or.inr (Or.inr (⟨by omega, by omega, rfl⟩))⟩ | (subst hq32; exact ⟨rfl, Or.inr (Or.inr ⟨by omega, rfl, rfl⟩)⟩))

set_option maxHeartbeats 4000000 in
set_option maxRecDepth 100000 in
theorem m_X9_ofDebt (a b : Int) (k : Nat) (hk : a = k) (hk2 : k < 20) (σ : am_H) (hb : 0 ≤ b ∧ b ≤ 4) : am_Mi yX9_ofDebt cX9_ofDebt 3 (some .int) 0 0 0 [vr 0, vi a, vi b] SH σ (fun r sh' σ' => SH = sh' ∧ σ = σ' ∧ r = c_ofDebt σ k b) := by
  refine am_Mi_of (by decide +kernel) (Nat.le_of_ble_eq_true rfl) (fun K X hY hI hret => ?_)
  show am_G K 0 [some (vr 0), some (vi a), some (vi b)] [] SH σ
  refine am_iload_n (x := b) X (by rfl) dX9_ofDebt_0 ?_
  by_cases h1o : b < 0 ∨ 3 < b
  · skip
    refine am_tableOut (tgt := 72) X dX9_ofDebt_1 h1o (by decide) ?_
    refine am_aload_n (x := 0) X (by rfl) dX9_ofDebt_72 ?_
    refine am_getr (c1 := 16) X 0 fl_X9_33 (by decide) sh_0 (by decide) (by rfl) dX9_ofDebt_73 ?_
    refine am_getr (c1 := 21) X 16 fl_X9_364 (by decide) sh_16 (by decide) (by rfl) dX9_ofDebt_76 ?_
    refine am_iload_n (x := a) X (by rfl) dX9_ofDebt_79 ?_
    refine am_ald (v := σ 21 k) X 21 k sh_21 (by omega) (by omega) (rfl) dX9_ofDebt_80 ?_
    exact hret _ _ _ _ _ dX9_ofDebt_81 rfl rfl (by refine ⟨rfl, rfl, ?_⟩; unfold c_ofDebt; (repeat' split) <;> first | omega | assumption)
  rcases (show b = 0 ∨ b = 1 ∨ b = 2 ∨ b = 3 by omega) with h1 | h1 | h1 | h1
  · skip
    refine am_tableIn (off := 31) (tgt := 32) X dX9_ofDebt_1 (by omega) (by omega) (by rw [h1]; rfl) (by decide) ?_
    refine am_aload_n (x := 0) X (by rfl) dX9_ofDebt_32 ?_
    refine am_getr (c1 := 16) X 0 fl_X9_33 (by decide) sh_0 (by decide) (by rfl) dX9_ofDebt_33 ?_
    refine am_getr (c1 := 17) X 16 fl_X9_218 (by decide) sh_16 (by decide) (by rfl) dX9_ofDebt_36 ?_
    refine am_iload_n (x := a) X (by rfl) dX9_ofDebt_39 ?_
    refine am_ald (v := σ 17 k) X 17 k sh_17 (by omega) (by omega) (rfl) dX9_ofDebt_40 ?_
    exact hret _ _ _ _ _ dX9_ofDebt_41 rfl rfl (by refine ⟨rfl, rfl, ?_⟩; unfold c_ofDebt; (repeat' split) <;> first | omega | assumption)
  · skip
    refine am_tableIn (off := 41) (tgt := 42) X dX9_ofDebt_1 (by omega) (by omega) (by rw [h1]; rfl) (by decide) ?_
    refine am_aload_n (x := 0) X (by rfl) dX9_ofDebt_42 ?_
    refine am_getr (c1 := 16) X 0 fl_X9_33 (by decide) sh_0 (by decide) (by rfl) dX9_ofDebt_43 ?_
    refine am_getr (c1 := 18) X 16 fl_X9_193 (by decide) sh_16 (by decide) (by rfl) dX9_ofDebt_46 ?_
    refine am_iload_n (x := a) X (by rfl) dX9_ofDebt_49 ?_
    refine am_ald (v := σ 18 k) X 18 k sh_18 (by omega) (by omega) (rfl) dX9_ofDebt_50 ?_
    exact hret _ _ _ _ _ dX9_ofDebt_51 rfl rfl (by refine ⟨rfl, rfl, ?_⟩; unfold c_ofDebt; (repeat' split) <;> first | omega | assumption)
  · skip
    refine am_tableIn (off := 51) (tgt := 52) X dX9_ofDebt_1 (by omega) (by omega) (by rw [h1]; rfl) (by decide) ?_
    refine am_aload_n (x := 0) X (by rfl) dX9_ofDebt_52 ?_
    refine am_getr (c1 := 16) X 0 fl_X9_33 (by decide) sh_0 (by decide) (by rfl) dX9_ofDebt_53 ?_
    refine am_getr (c1 := 19) X 16 fl_X9_358 (by decide) sh_16 (by decide) (by rfl) dX9_ofDebt_56 ?_
    refine am_iload_n (x := a) X (by rfl) dX9_ofDebt_59 ?_
    refine am_ald (v := σ 19 k) X 19 k sh_19 (by omega) (by omega) (rfl) dX9_ofDebt_60 ?_
    exact hret _ _ _ _ _ dX9_ofDebt_61 rfl rfl (by refine ⟨rfl, rfl, ?_⟩; unfold c_ofDebt; (repeat' split) <;> first | omega | assumption)
  · skip
    refine am_tableIn (off := 61) (tgt := 62) X dX9_ofDebt_1 (by omega) (by omega) (by rw [h1]; rfl) (by decide) ?_
    refine am_aload_n (x := 0) X (by rfl) dX9_ofDebt_62 ?_
    refine am_getr (c1 := 16) X 0 fl_X9_33 (by decide) sh_0 (by decide) (by rfl) dX9_ofDebt_63 ?_
    refine am_getr (c1 := 20) X 16 fl_X9_361 (by decide) sh_16 (by decide) (by rfl) dX9_ofDebt_66 ?_
    refine am_iload_n (x := a) X (by rfl) dX9_ofDebt_69 ?_
    refine am_ald (v := σ 20 k) X 20 k sh_20 (by omega) (by omega) (rfl) dX9_ofDebt_70 ?_
    exact hret _ _ _ _ _ dX9_ofDebt_71 rfl rfl (by refine ⟨rfl, rfl, ?_⟩; unfold c_ofDebt; (repeat' split) <;> first | omega | assumption)

set_option maxHeartbeats 4000000 in
set_option maxRecDepth 100000 in
theorem m_X9_ofPerson (b : Int) (k : Nat) (hk2 : k < 8) (σ : am_H) (hb : 10 ≤ b ∧ b ≤ 13) (hc : 0 ≤ σ 16 5 ∧ σ 16 5 ≤ 20) (hd : ∀ n : Nat, (n : Int) < σ 16 5 → 0 ≤ σ 19 n ∧ σ 19 n ≤ 9) : am_Mi yX9_ofPerson cX9_ofPerson 3 (some .int) 1 0 0 [vr 0, vi (k : Int), vi b] SH σ (fun r sh' σ' => SH = sh' ∧ σ = σ' ∧ r = c_ofPers σ k b) := by
  refine am_Mi_of (by decide +kernel) (Nat.le_of_ble_eq_true rfl) (fun K X hY hI hret => ?_)
  show am_G K 0 [some (vr 0), some (vi (k : Int)), some (vi b)] [] SH σ
  refine am_iload_n (x := b) X (by rfl) dX9_ofPerson_0 ?_
  by_cases h1o : b < 10 ∨ 12 < b
  · skip
    refine am_tableOut (tgt := 56) X dX9_ofPerson_1 h1o (by decide) ?_
    refine am_aload_n (x := 0) X (by rfl) dX9_ofPerson_56 ?_
    refine am_getr (c1 := 22) X 0 fl_X9_40 (by decide) sh_0 (by decide) (by rfl) dX9_ofPerson_57 ?_
    refine am_getr (c1 := 28) X 22 fl_X9_370 (by decide) sh_22 (by decide) (by rfl) dX9_ofPerson_60 ?_
    refine am_iload_n (x := (k : Int)) X (by rfl) dX9_ofPerson_63 ?_
    refine am_ald (v := σ 28 k) X 28 k sh_28 (by omega) (by omega) (rfl) dX9_ofPerson_64 ?_
    exact hret _ _ _ _ _ dX9_ofPerson_65 rfl rfl (by refine ⟨rfl, rfl, ?_⟩; unfold c_ofPers c_by c_to; (repeat' split) <;> first | omega | assumption)
  rcases (show b = 10 ∨ b = 11 ∨ b = 12 by omega) with h1 | h1 | h1
  · skip
    refine am_tableIn (off := 27) (tgt := 28) X dX9_ofPerson_1 (by omega) (by omega) (by rw [h1]; rfl) (by decide) ?_
    refine am_aload_n (x := 0) X (by rfl) dX9_ofPerson_28 ?_
    refine am_getr (c1 := 1) X 0 fl_X9_10 (by decide) sh_0 (by decide) (by rfl) dX9_ofPerson_29 ?_
    refine am_getr (c1 := 3) X 1 fl_X9_367 (by decide) sh_1 (by decide) (by rfl) dX9_ofPerson_32 ?_
    refine am_iload_n (x := (k : Int)) X (by rfl) dX9_ofPerson_35 ?_
    refine am_ald (v := σ 3 k) X 3 k sh_3 (by omega) (by omega) (rfl) dX9_ofPerson_36 ?_
    exact hret _ _ _ _ _ dX9_ofPerson_37 rfl rfl (by refine ⟨rfl, rfl, ?_⟩; unfold c_ofPers c_by c_to; (repeat' split) <;> first | omega | assumption)
  · skip
    refine am_tableIn (off := 37) (tgt := 38) X dX9_ofPerson_1 (by omega) (by omega) (by rw [h1]; rfl) (by decide) ?_
    refine am_aload_n (x := 0) X (by rfl) dX9_ofPerson_38 ?_
    refine am_getr (c1 := 16) X 0 fl_X9_33 (by decide) sh_0 (by decide) (by rfl) dX9_ofPerson_39 ?_
    refine am_iload_n (x := (k : Int)) X (by rfl) dX9_ofPerson_42 ?_
    refine am_callVi (ci := 4) X hY lk_X9_224 mf_X4_owedBy (m_X4_owedBy (k : Int) σ hc hd) (by decide) (by decide) (Nat.le_refl _) (Nat.le_refl _) sh_16 rfl rfl rfl (Nat.le_of_ble_eq_true rfl) dX9_ofPerson_43 (fun r43 sh43 σ43 hr43 hp43 => ?_)
    obtain ⟨rfl, rfl, hq43⟩ := hp43
    exact hret _ _ _ _ _ dX9_ofPerson_46 rfl rfl (by refine ⟨rfl, rfl, ?_⟩; unfold c_ofPers c_by c_to; (repeat' split) <;> first | omega | assumption)
  · skip
    refine am_tableIn (off := 46) (tgt := 47) X dX9_ofPerson_1 (by omega) (by omega) (by rw [h1]; rfl) (by decide) ?_
    refine am_aload_n (x := 0) X (by rfl) dX9_ofPerson_47 ?_
    refine am_getr (c1 := 16) X 0 fl_X9_33 (by decide) sh_0 (by decide) (by rfl) dX9_ofPerson_48 ?_
    refine am_iload_n (x := (k : Int)) X (by rfl) dX9_ofPerson_51 ?_
    refine am_callVi (ci := 4) X hY lk_X9_237 mf_X4_owedTo (m_X4_owedTo (k : Int) σ hc hd) (by decide) (by decide) (Nat.le_refl _) (Nat.le_refl _) sh_16 rfl rfl rfl (Nat.le_of_ble_eq_true rfl) dX9_ofPerson_52 (fun r52 sh52 σ52 hr52 hp52 => ?_)
    obtain ⟨rfl, rfl, hq52⟩ := hp52
    exact hret _ _ _ _ _ dX9_ofPerson_55 rfl rfl (by refine ⟨rfl, rfl, ?_⟩; unfold c_ofPers c_by c_to; (repeat' split) <;> first | omega | assumption)

set_option maxHeartbeats 4000000 in
set_option maxRecDepth 100000 in
theorem m_X9_ofAsk (a b : Int) (k : Nat) (hk : a = k) (hk2 : k < 30) (σ : am_H) (hb : 40 ≤ b ∧ b ≤ 42) : am_Mi yX9_ofAsk cX9_ofAsk 3 (some .int) 0 0 0 [vr 0, vi a, vi b] SH σ (fun r sh' σ' => SH = sh' ∧ σ = σ' ∧ r = c_ofAsk σ k b) := by
  refine am_Mi_of (by decide +kernel) (Nat.le_of_ble_eq_true rfl) (fun K X hY hI hret => ?_)
  show am_G K 0 [some (vr 0), some (vi a), some (vi b)] [] SH σ
  refine am_iload_n (x := b) X (by rfl) dX9_ofAsk_0 ?_
  by_cases h1_0 : b = 40
  · skip
    refine am_lookup (off := 27) (tgt := 28) X dX9_ofAsk_1 (by decide) (by rw [h1_0]; rfl) (by decide) ?_
    refine am_aload_n (x := 0) X (by rfl) dX9_ofAsk_28 ?_
    refine am_getr (c1 := 22) X 0 fl_X9_40 (by decide) sh_0 (by decide) (by rfl) dX9_ofAsk_29 ?_
    refine am_getr (c1 := 23) X 22 fl_X9_373 (by decide) sh_22 (by decide) (by rfl) dX9_ofAsk_32 ?_
    refine am_iload_n (x := a) X (by rfl) dX9_ofAsk_35 ?_
    refine am_ald (v := σ 23 k) X 23 k sh_23 (by omega) (by omega) (rfl) dX9_ofAsk_36 ?_
    exact hret _ _ _ _ _ dX9_ofAsk_37 rfl rfl (by refine ⟨rfl, rfl, ?_⟩; unfold c_ofAsk; (repeat' split) <;> first | omega | assumption)
  by_cases h1_1 : b = 41
  · skip
    refine am_lookup (off := 37) (tgt := 38) X dX9_ofAsk_1 (by decide) (by rw [h1_1]; rfl) (by decide) ?_
    refine am_aload_n (x := 0) X (by rfl) dX9_ofAsk_38 ?_
    refine am_getr (c1 := 22) X 0 fl_X9_40 (by decide) sh_0 (by decide) (by rfl) dX9_ofAsk_39 ?_
    refine am_getr (c1 := 24) X 22 fl_X9_376 (by decide) sh_22 (by decide) (by rfl) dX9_ofAsk_42 ?_
    refine am_iload_n (x := a) X (by rfl) dX9_ofAsk_45 ?_
    refine am_ald (v := σ 24 k) X 24 k sh_24 (by omega) (by omega) (rfl) dX9_ofAsk_46 ?_
    exact hret _ _ _ _ _ dX9_ofAsk_47 rfl rfl (by refine ⟨rfl, rfl, ?_⟩; unfold c_ofAsk; (repeat' split) <;> first | omega | assumption)
  refine am_lookup (off := 47) (tgt := 48) X dX9_ofAsk_1 (by decide) (by simp [Op.lookupswitch.offset, h1_0, h1_1, Ne.symm h1_0, Ne.symm h1_1]) (by decide) ?_
  refine am_aload_n (x := 0) X (by rfl) dX9_ofAsk_48 ?_
  refine am_getr (c1 := 22) X 0 fl_X9_40 (by decide) sh_0 (by decide) (by rfl) dX9_ofAsk_49 ?_
  refine am_getr (c1 := 25) X 22 fl_X9_379 (by decide) sh_22 (by decide) (by rfl) dX9_ofAsk_52 ?_
  refine am_iload_n (x := a) X (by rfl) dX9_ofAsk_55 ?_
  refine am_zalj (v := σ 25 k) X 25 k sh_25 (by omega) (by omega) (rfl) dX9_ofAsk_56 ?_
  refine am_if_eq (tgt := 64) X dX9_ofAsk_57 (by decide) (fun h57 => ?_) (fun h57 => ?_)
  · skip
    refine am_ic X (by decide) dX9_ofAsk_64 ?_
    exact hret _ _ _ _ _ dX9_ofAsk_65 rfl rfl (by refine ⟨rfl, rfl, ?_⟩; unfold c_ofAsk; (repeat' split) <;> first | omega | assumption)
  · skip
    refine am_ic X (by decide) dX9_ofAsk_60 ?_
    refine am_goto (tgt := 65) X dX9_ofAsk_61 (by decide) ?_
    exact hret _ _ _ _ _ dX9_ofAsk_65 rfl rfl (by refine ⟨rfl, rfl, ?_⟩; unfold c_ofAsk; (repeat' split) <;> first | omega | assumption)

set_option maxHeartbeats 4000000 in
set_option maxRecDepth 100000 in
theorem m_X9_of (a b : Int) (σ : am_H) (hp : 0 ≤ σ 1 2 ∧ σ 1 2 ≤ 8) (hc : 0 ≤ σ 16 5 ∧ σ 16 5 ≤ 20) (hd : ∀ n : Nat, (n : Int) < σ 16 5 → 0 ≤ σ 19 n ∧ σ 19 n ≤ 9) (ha : 0 ≤ σ 22 6 ∧ σ 22 6 ≤ 30) : am_Mi yX9_of cX9_of 4 (some .int) 4 0 0 [vr 0, vi a, vi b] SH σ (fun r sh' σ' => SH = sh' ∧ σ = σ' ∧ r = c_of σ a b) := by
  refine am_Mi_of (by decide +kernel) (Nat.le_of_ble_eq_true rfl) (fun K X hY hI hret => ?_)
  show am_G K 0 [some (vr 0), some (vi a), some (vi b), none] [] SH σ
  refine am_iload_n (x := b) X (by rfl) dX9_of_0 ?_
  refine am_ic X (by decide) dX9_of_1 ?_
  refine am_ic X (by decide) dX9_of_2 ?_
  refine am_callSi X hY lk_X9_75 mf_X9_within (m_X9_within b 0 4 _ σ) (by decide) (by decide) (Nat.le_refl _) (Nat.le_refl _) rfl rfl (Nat.le_of_ble_eq_true rfl) dX9_of_3 (fun r3 sh3 σ3 hr3 hp3 => ?_)
  obtain ⟨rfl, rfl, hq3⟩ := hp3
  refine am_if_eq (tgt := 32) X dX9_of_6 (by decide) (fun h6 => ?_) (fun h6 => ?_)
  · skip
    refine am_iload_n (x := b) X (by rfl) dX9_of_32 ?_
    refine am_bipush X (by decide) dX9_of_33 ?_
    refine am_bipush X (by decide) dX9_of_35 ?_
    refine am_callSi X hY lk_X9_75 mf_X9_within (m_X9_within b 10 13 _ σ) (by decide) (by decide) (Nat.le_refl _) (Nat.le_refl _) rfl rfl (Nat.le_of_ble_eq_true rfl) dX9_of_37 (fun r37 sh37 σ37 hr37 hp37 => ?_)
    obtain ⟨rfl, rfl, hq37⟩ := hp37
    refine am_if_eq (tgt := 66) X dX9_of_40 (by decide) (fun h40 => ?_) (fun h40 => ?_)
    · skip
      refine am_iload_n (x := b) X (by rfl) dX9_of_66 ?_
      refine am_bipush X (by decide) dX9_of_67 ?_
      refine am_icmp_ne (tgt := 104) X dX9_of_69 (by decide) (fun h69 => ?_) (fun h69 => ?_)
      · skip
        refine am_iload_n (x := b) X (by rfl) dX9_of_104 ?_
        refine am_bipush X (by decide) dX9_of_105 ?_
        refine am_bipush X (by decide) dX9_of_107 ?_
        refine am_callSi X hY lk_X9_75 mf_X9_within (m_X9_within b 40 42 _ σ) (by decide) (by decide) (Nat.le_refl _) (Nat.le_refl _) rfl rfl (Nat.le_of_ble_eq_true rfl) dX9_of_109 (fun r109 sh109 σ109 hr109 hp109 => ?_)
        obtain ⟨rfl, rfl, hq109⟩ := hp109
        refine am_if_eq (tgt := 138) X dX9_of_112 (by decide) (fun h112 => ?_) (fun h112 => ?_)
        · skip
          refine am_iload_n (x := b) X (by rfl) dX9_of_138 ?_
          refine am_bipush X (by decide) dX9_of_139 ?_
          refine am_icmp_ne (tgt := 171) X dX9_of_141 (by decide) (fun h141 => ?_) (fun h141 => ?_)
          · skip
            refine am_iload_n (x := b) X (by rfl) dX9_of_171 ?_
            refine am_bipush X (by decide) dX9_of_172 ?_
            refine am_icmp_eq (tgt := 183) X dX9_of_174 (by decide) (fun h174 => ?_) (fun h174 => ?_)
            · skip
              refine am_iload_n (x := b) X (by rfl) dX9_of_183 ?_
              refine am_bipush X (by decide) dX9_of_184 ?_
              refine am_icmp_ne (tgt := 193) X dX9_of_186 (by decide) (fun h186 => ?_) (fun h186 => ?_)
              · skip
                refine am_ic X (by decide) dX9_of_193 ?_
                refine am_istore_n (i := 3) (L' := [some (vr 0), some (vi a), some (vi b), some (vi 3)]) X rfl (Nat.le_of_ble_eq_true rfl) (by rfl) dX9_of_194 ?_
                refine am_aload_n (x := 0) X (by rfl) dX9_of_195 ?_
                refine am_getr (c1 := 1) X 0 fl_X9_10 (by decide) sh_0 (by decide) (by rfl) dX9_of_196 ?_
                refine am_iload_n (x := a) X (by rfl) dX9_of_199 ?_
                refine am_iload_n (x := 3) X (by rfl) dX9_of_200 ?_
                refine am_callVi (ci := 5) X hY lk_X9_118 mf_X6_isNumber (m_X6_isNumber a 3 σ hp) (by decide) (by decide) (Nat.le_refl _) (Nat.le_refl _) sh_1 rfl rfl rfl (Nat.le_of_ble_eq_true rfl) dX9_of_201 (fun r201 sh201 σ201 hr201 hp201 => ?_)
                obtain ⟨rfl, rfl, hq201⟩ := hp201
                refine am_if_eq (tgt := 219) X dX9_of_204 (by decide) (fun h204 => ?_) (fun h204 => ?_)
                · skip
                  refine am_ldc X (n := -2000000000) (by unfold R32; decide) cn_X9_142 dX9_of_219 ?_
                  exact hret _ _ _ _ _ dX9_of_221 rfl rfl (by refine ⟨rfl, rfl, ?_⟩; unfold c_of c_owed; (try unfold set_told at *); (repeat' split) <;> first | omega | assumption)
                · skip
                  refine am_aload_n (x := 0) X (by rfl) dX9_of_207 ?_
                  refine am_getr (c1 := 1) X 0 fl_X9_10 (by decide) sh_0 (by decide) (by rfl) dX9_of_208 ?_
                  refine am_iload_n (x := a) X (by rfl) dX9_of_211 ?_
                  refine am_iload_n (x := 3) X (by rfl) dX9_of_212 ?_
                  refine am_callVi (ci := 5) X hY lk_X9_124 mf_X6_told (m_X6_told a 3 ((a).toNat) (by omega) σ (by omega)) (by decide) (by decide) (Nat.le_refl _) (Nat.le_refl _) sh_1 rfl rfl rfl (Nat.le_of_ble_eq_true rfl) dX9_of_213 (fun r213 sh213 σ213 hr213 hp213 => ?_)
                  obtain ⟨rfl, rfl, hq213⟩ := hp213
                  refine am_goto (tgt := 221) X dX9_of_216 (by decide) ?_
                  exact hret _ _ _ _ _ dX9_of_221 rfl rfl (by refine ⟨rfl, rfl, ?_⟩; unfold c_of c_owed; (try unfold set_told at *); (repeat' split) <;> first | omega | assumption)
              · skip
                refine am_ic X (by decide) dX9_of_189 ?_
                refine am_goto (tgt := 194) X dX9_of_190 (by decide) ?_
                refine am_istore_n (i := 3) (L' := [some (vr 0), some (vi a), some (vi b), some (vi 2)]) X rfl (Nat.le_of_ble_eq_true rfl) (by rfl) dX9_of_194 ?_
                refine am_aload_n (x := 0) X (by rfl) dX9_of_195 ?_
                refine am_getr (c1 := 1) X 0 fl_X9_10 (by decide) sh_0 (by decide) (by rfl) dX9_of_196 ?_
                refine am_iload_n (x := a) X (by rfl) dX9_of_199 ?_
                refine am_iload_n (x := 2) X (by rfl) dX9_of_200 ?_
                refine am_callVi (ci := 5) X hY lk_X9_118 mf_X6_isNumber (m_X6_isNumber a 2 σ hp) (by decide) (by decide) (Nat.le_refl _) (Nat.le_refl _) sh_1 rfl rfl rfl (Nat.le_of_ble_eq_true rfl) dX9_of_201 (fun r201 sh201 σ201 hr201 hp201 => ?_)
                obtain ⟨rfl, rfl, hq201⟩ := hp201
                refine am_if_eq (tgt := 219) X dX9_of_204 (by decide) (fun h204 => ?_) (fun h204 => ?_)
                · skip
                  refine am_ldc X (n := -2000000000) (by unfold R32; decide) cn_X9_142 dX9_of_219 ?_
                  exact hret _ _ _ _ _ dX9_of_221 rfl rfl (by refine ⟨rfl, rfl, ?_⟩; unfold c_of c_owed; (try unfold set_told at *); (repeat' split) <;> first | omega | assumption)
                · skip
                  refine am_aload_n (x := 0) X (by rfl) dX9_of_207 ?_
                  refine am_getr (c1 := 1) X 0 fl_X9_10 (by decide) sh_0 (by decide) (by rfl) dX9_of_208 ?_
                  refine am_iload_n (x := a) X (by rfl) dX9_of_211 ?_
                  refine am_iload_n (x := 2) X (by rfl) dX9_of_212 ?_
                  refine am_callVi (ci := 5) X hY lk_X9_124 mf_X6_told (m_X6_told a 2 ((a).toNat) (by omega) σ (by omega)) (by decide) (by decide) (Nat.le_refl _) (Nat.le_refl _) sh_1 rfl rfl rfl (Nat.le_of_ble_eq_true rfl) dX9_of_213 (fun r213 sh213 σ213 hr213 hp213 => ?_)
                  obtain ⟨rfl, rfl, hq213⟩ := hp213
                  refine am_goto (tgt := 221) X dX9_of_216 (by decide) ?_
                  exact hret _ _ _ _ _ dX9_of_221 rfl rfl (by refine ⟨rfl, rfl, ?_⟩; unfold c_of c_owed; (try unfold set_told at *); (repeat' split) <;> first | omega | assumption)
            · skip
              refine am_iload_n (x := b) X (by rfl) dX9_of_177 ?_
              refine am_bipush X (by decide) dX9_of_178 ?_
              refine am_icmp_ne (tgt := 222) X dX9_of_180 (by decide) (fun h180 => ?_) (fun h180 => ?_)
              · skip
                refine am_ldc X (n := -2000000000) (by unfold R32; decide) cn_X9_142 dX9_of_222 ?_
                exact hret _ _ _ _ _ dX9_of_224 rfl rfl (by refine ⟨rfl, rfl, ?_⟩; unfold c_of c_owed; (try unfold set_told at *); (repeat' split) <;> first | omega | assumption)
              · skip
                refine am_iload_n (x := b) X (by rfl) dX9_of_183 ?_
                refine am_bipush X (by decide) dX9_of_184 ?_
                refine am_icmp_ne (tgt := 193) X dX9_of_186 (by decide) (fun h186 => ?_) (fun h186 => ?_)
                · skip
                  refine am_ic X (by decide) dX9_of_193 ?_
                  refine am_istore_n (i := 3) (L' := [some (vr 0), some (vi a), some (vi b), some (vi 3)]) X rfl (Nat.le_of_ble_eq_true rfl) (by rfl) dX9_of_194 ?_
                  refine am_aload_n (x := 0) X (by rfl) dX9_of_195 ?_
                  refine am_getr (c1 := 1) X 0 fl_X9_10 (by decide) sh_0 (by decide) (by rfl) dX9_of_196 ?_
                  refine am_iload_n (x := a) X (by rfl) dX9_of_199 ?_
                  refine am_iload_n (x := 3) X (by rfl) dX9_of_200 ?_
                  refine am_callVi (ci := 5) X hY lk_X9_118 mf_X6_isNumber (m_X6_isNumber a 3 σ hp) (by decide) (by decide) (Nat.le_refl _) (Nat.le_refl _) sh_1 rfl rfl rfl (Nat.le_of_ble_eq_true rfl) dX9_of_201 (fun r201 sh201 σ201 hr201 hp201 => ?_)
                  obtain ⟨rfl, rfl, hq201⟩ := hp201
                  refine am_if_eq (tgt := 219) X dX9_of_204 (by decide) (fun h204 => ?_) (fun h204 => ?_)
                  · skip
                    refine am_ldc X (n := -2000000000) (by unfold R32; decide) cn_X9_142 dX9_of_219 ?_
                    exact hret _ _ _ _ _ dX9_of_221 rfl rfl (by refine ⟨rfl, rfl, ?_⟩; unfold c_of c_owed; (try unfold set_told at *); (repeat' split) <;> first | omega | assumption)
                  · skip
                    refine am_aload_n (x := 0) X (by rfl) dX9_of_207 ?_
                    refine am_getr (c1 := 1) X 0 fl_X9_10 (by decide) sh_0 (by decide) (by rfl) dX9_of_208 ?_
                    refine am_iload_n (x := a) X (by rfl) dX9_of_211 ?_
                    refine am_iload_n (x := 3) X (by rfl) dX9_of_212 ?_
                    refine am_callVi (ci := 5) X hY lk_X9_124 mf_X6_told (m_X6_told a 3 ((a).toNat) (by omega) σ (by omega)) (by decide) (by decide) (Nat.le_refl _) (Nat.le_refl _) sh_1 rfl rfl rfl (Nat.le_of_ble_eq_true rfl) dX9_of_213 (fun r213 sh213 σ213 hr213 hp213 => ?_)
                    obtain ⟨rfl, rfl, hq213⟩ := hp213
                    refine am_goto (tgt := 221) X dX9_of_216 (by decide) ?_
                    exact hret _ _ _ _ _ dX9_of_221 rfl rfl (by refine ⟨rfl, rfl, ?_⟩; unfold c_of c_owed; (try unfold set_told at *); (repeat' split) <;> first | omega | assumption)
                · skip
                  refine am_ic X (by decide) dX9_of_189 ?_
                  refine am_goto (tgt := 194) X dX9_of_190 (by decide) ?_
                  refine am_istore_n (i := 3) (L' := [some (vr 0), some (vi a), some (vi b), some (vi 2)]) X rfl (Nat.le_of_ble_eq_true rfl) (by rfl) dX9_of_194 ?_
                  refine am_aload_n (x := 0) X (by rfl) dX9_of_195 ?_
                  refine am_getr (c1 := 1) X 0 fl_X9_10 (by decide) sh_0 (by decide) (by rfl) dX9_of_196 ?_
                  refine am_iload_n (x := a) X (by rfl) dX9_of_199 ?_
                  refine am_iload_n (x := 2) X (by rfl) dX9_of_200 ?_
                  refine am_callVi (ci := 5) X hY lk_X9_118 mf_X6_isNumber (m_X6_isNumber a 2 σ hp) (by decide) (by decide) (Nat.le_refl _) (Nat.le_refl _) sh_1 rfl rfl rfl (Nat.le_of_ble_eq_true rfl) dX9_of_201 (fun r201 sh201 σ201 hr201 hp201 => ?_)
                  obtain ⟨rfl, rfl, hq201⟩ := hp201
                  refine am_if_eq (tgt := 219) X dX9_of_204 (by decide) (fun h204 => ?_) (fun h204 => ?_)
                  · skip
                    refine am_ldc X (n := -2000000000) (by unfold R32; decide) cn_X9_142 dX9_of_219 ?_
                    exact hret _ _ _ _ _ dX9_of_221 rfl rfl (by refine ⟨rfl, rfl, ?_⟩; unfold c_of c_owed; (try unfold set_told at *); (repeat' split) <;> first | omega | assumption)
                  · skip
                    refine am_aload_n (x := 0) X (by rfl) dX9_of_207 ?_
                    refine am_getr (c1 := 1) X 0 fl_X9_10 (by decide) sh_0 (by decide) (by rfl) dX9_of_208 ?_
                    refine am_iload_n (x := a) X (by rfl) dX9_of_211 ?_
                    refine am_iload_n (x := 2) X (by rfl) dX9_of_212 ?_
                    refine am_callVi (ci := 5) X hY lk_X9_124 mf_X6_told (m_X6_told a 2 ((a).toNat) (by omega) σ (by omega)) (by decide) (by decide) (Nat.le_refl _) (Nat.le_refl _) sh_1 rfl rfl rfl (Nat.le_of_ble_eq_true rfl) dX9_of_213 (fun r213 sh213 σ213 hr213 hp213 => ?_)
                    obtain ⟨rfl, rfl, hq213⟩ := hp213
                    refine am_goto (tgt := 221) X dX9_of_216 (by decide) ?_
                    exact hret _ _ _ _ _ dX9_of_221 rfl rfl (by refine ⟨rfl, rfl, ?_⟩; unfold c_of c_owed; (try unfold set_told at *); (repeat' split) <;> first | omega | assumption)
          · skip
            refine am_aload_n (x := 0) X (by rfl) dX9_of_144 ?_
            refine am_getr (c1 := 1) X 0 fl_X9_10 (by decide) sh_0 (by decide) (by rfl) dX9_of_145 ?_
            refine am_iload_n (x := a) X (by rfl) dX9_of_148 ?_
            refine am_ic X (by decide) dX9_of_149 ?_
            refine am_callVi (ci := 5) X hY lk_X9_118 mf_X6_isNumber (m_X6_isNumber a 0 σ hp) (by decide) (by decide) (Nat.le_refl _) (Nat.le_refl _) sh_1 rfl rfl rfl (Nat.le_of_ble_eq_true rfl) dX9_of_150 (fun r150 sh150 σ150 hr150 hp150 => ?_)
            obtain ⟨rfl, rfl, hq150⟩ := hp150
            refine am_if_eq (tgt := 168) X dX9_of_153 (by decide) (fun h153 => ?_) (fun h153 => ?_)
            · skip
              refine am_ldc X (n := -2000000000) (by unfold R32; decide) cn_X9_142 dX9_of_168 ?_
              exact hret _ _ _ _ _ dX9_of_170 rfl rfl (by refine ⟨rfl, rfl, ?_⟩; unfold c_of c_owed; (try unfold set_told at *); (repeat' split) <;> first | omega | assumption)
            · skip
              refine am_aload_n (x := 0) X (by rfl) dX9_of_156 ?_
              refine am_getr (c1 := 1) X 0 fl_X9_10 (by decide) sh_0 (by decide) (by rfl) dX9_of_157 ?_
              refine am_iload_n (x := a) X (by rfl) dX9_of_160 ?_
              refine am_ic X (by decide) dX9_of_161 ?_
              refine am_callVi (ci := 5) X hY lk_X9_124 mf_X6_told (m_X6_told a 0 ((a).toNat) (by omega) σ (by omega)) (by decide) (by decide) (Nat.le_refl _) (Nat.le_refl _) sh_1 rfl rfl rfl (Nat.le_of_ble_eq_true rfl) dX9_of_162 (fun r162 sh162 σ162 hr162 hp162 => ?_)
              obtain ⟨rfl, rfl, hq162⟩ := hp162
              refine am_goto (tgt := 170) X dX9_of_165 (by decide) ?_
              exact hret _ _ _ _ _ dX9_of_170 rfl rfl (by refine ⟨rfl, rfl, ?_⟩; unfold c_of c_owed; (try unfold set_told at *); (repeat' split) <;> first | omega | assumption)
        · skip
          refine am_aload_n (x := 0) X (by rfl) dX9_of_115 ?_
          refine am_getr (c1 := 22) X 0 fl_X9_40 (by decide) sh_0 (by decide) (by rfl) dX9_of_116 ?_
          refine am_iload_n (x := a) X (by rfl) dX9_of_119 ?_
          refine am_callVi (ci := 2) X hY lk_X9_152 mf_X2_isAsk (m_X2_isAsk a σ (by omega)) (by decide) (by decide) (Nat.le_refl _) (Nat.le_refl _) sh_22 rfl rfl rfl (Nat.le_of_ble_eq_true rfl) dX9_of_120 (fun r120 sh120 σ120 hr120 hp120 => ?_)
          obtain ⟨rfl, rfl, hq120⟩ := hp120
          refine am_if_eq (tgt := 135) X dX9_of_123 (by decide) (fun h123 => ?_) (fun h123 => ?_)
          · skip
            refine am_ldc X (n := -2000000000) (by unfold R32; decide) cn_X9_142 dX9_of_135 ?_
            exact hret _ _ _ _ _ dX9_of_137 rfl rfl (by refine ⟨rfl, rfl, ?_⟩; unfold c_of c_owed; (try unfold set_told at *); (repeat' split) <;> first | omega | assumption)
          · skip
            refine am_aload_n (x := 0) X (by rfl) dX9_of_126 ?_
            refine am_iload_n (x := a) X (by rfl) dX9_of_127 ?_
            refine am_iload_n (x := b) X (by rfl) dX9_of_128 ?_
            refine am_callVi (ci := 8) X hY lk_X9_155 mf_X9_ofAsk (m_X9_ofAsk a b ((a).toNat) (by omega) (by omega) σ (by omega)) (by decide) (by decide) (Nat.le_refl _) (Nat.le_refl _) sh_0 rfl rfl rfl (Nat.le_of_ble_eq_true rfl) dX9_of_129 (fun r129 sh129 σ129 hr129 hp129 => ?_)
            obtain ⟨rfl, rfl, hq129⟩ := hp129
            refine am_goto (tgt := 137) X dX9_of_132 (by decide) ?_
            exact hret _ _ _ _ _ dX9_of_137 rfl rfl (by refine ⟨rfl, rfl, ?_⟩; unfold c_of c_owed; (try unfold set_told at *); (repeat' split) <;> first | omega | assumption)
      · skip
        refine am_aload_n (x := 0) X (by rfl) dX9_of_72 ?_
        refine am_getr (c1 := 1) X 0 fl_X9_10 (by decide) sh_0 (by decide) (by rfl) dX9_of_73 ?_
        refine am_iload_n (x := a) X (by rfl) dX9_of_76 ?_
        refine am_callVi (ci := 5) X hY lk_X9_87 mf_X6_isPair (m_X6_isPair a σ hp) (by decide) (by decide) (Nat.le_refl _) (Nat.le_refl _) sh_1 rfl rfl rfl (Nat.le_of_ble_eq_true rfl) dX9_of_77 (fun r77 sh77 σ77 hr77 hp77 => ?_)
        obtain ⟨rfl, rfl, hq77⟩ := hp77
        refine am_if_eq (tgt := 101) X dX9_of_80 (by decide) (fun h80 => ?_) (fun h80 => ?_)
        · skip
          refine am_ldc X (n := -2000000000) (by unfold R32; decide) cn_X9_142 dX9_of_101 ?_
          exact hret _ _ _ _ _ dX9_of_103 rfl rfl (by refine ⟨rfl, rfl, ?_⟩; unfold c_of c_owed; (try unfold set_told at *); (repeat' split) <;> first | omega | assumption)
        · skip
          refine am_aload_n (x := 0) X (by rfl) dX9_of_83 ?_
          refine am_getr (c1 := 16) X 0 fl_X9_33 (by decide) sh_0 (by decide) (by rfl) dX9_of_84 ?_
          refine am_iload_n (x := a) X (by rfl) dX9_of_87 ?_
          refine am_bipush X (by decide) dX9_of_88 ?_
          refine am_div (v := (a / 10)) X (by omega) (by omega) rfl dX9_of_90 ?_
          refine am_iload_n (x := a) X (by rfl) dX9_of_91 ?_
          refine am_bipush X (by decide) dX9_of_92 ?_
          refine am_rem (v := (a % 10)) X (by omega) (by omega) rfl dX9_of_94 ?_
          refine am_callVi (ci := 4) X hY lk_X9_149 mf_X4_owed (m_X4_owed (a / 10) (a % 10) σ hc hd) (by decide) (by decide) (Nat.le_refl _) (Nat.le_refl _) sh_16 rfl rfl rfl (Nat.le_of_ble_eq_true rfl) dX9_of_95 (fun r95 sh95 σ95 hr95 hp95 => ?_)
          obtain ⟨rfl, rfl, hq95⟩ := hp95
          refine am_goto (tgt := 103) X dX9_of_98 (by decide) ?_
          exact hret _ _ _ _ _ dX9_of_103 rfl rfl (by refine ⟨rfl, rfl, ?_⟩; unfold c_of c_owed; (try unfold set_told at *); (repeat' split) <;> first | omega | assumption)
    · skip
      refine am_aload_n (x := 0) X (by rfl) dX9_of_43 ?_
      refine am_getr (c1 := 1) X 0 fl_X9_10 (by decide) sh_0 (by decide) (by rfl) dX9_of_44 ?_
      refine am_iload_n (x := a) X (by rfl) dX9_of_47 ?_
      refine am_callVi (ci := 5) X hY lk_X9_143 mf_X6_isPerson (m_X6_isPerson a σ hp) (by decide) (by decide) (Nat.le_refl _) (Nat.le_refl _) sh_1 rfl rfl rfl (Nat.le_of_ble_eq_true rfl) dX9_of_48 (fun r48 sh48 σ48 hr48 hp48 => ?_)
      obtain ⟨rfl, rfl, hq48⟩ := hp48
      refine am_if_eq (tgt := 63) X dX9_of_51 (by decide) (fun h51 => ?_) (fun h51 => ?_)
      · skip
        refine am_ldc X (n := -2000000000) (by unfold R32; decide) cn_X9_142 dX9_of_63 ?_
        exact hret _ _ _ _ _ dX9_of_65 rfl rfl (by refine ⟨rfl, rfl, ?_⟩; unfold c_of c_owed; (try unfold set_told at *); (repeat' split) <;> first | omega | assumption)
      · skip
        refine am_aload_n (x := 0) X (by rfl) dX9_of_54 ?_
        refine am_iload_n (x := a) X (by rfl) dX9_of_55 ?_
        refine am_iload_n (x := b) X (by rfl) dX9_of_56 ?_
        refine am_callVi (ci := 8) X hY lk_X9_146 mf_X9_ofPerson (show am_Mi yX9_ofPerson cX9_ofPerson 3 (some .int) 1 0 0 [vr 0, vi a, vi b] SH σ _ from (show ((a.toNat : Nat) : Int) = a by omega) ▸ m_X9_ofPerson b a.toNat (by omega) σ (by omega) hc hd) (by decide) (by decide) (Nat.le_refl _) (Nat.le_refl _) sh_0 rfl rfl rfl (Nat.le_of_ble_eq_true rfl) dX9_of_57 (fun r57 sh57 σ57 hr57 hp57 => ?_)
        obtain ⟨rfl, rfl, hq57⟩ := hp57
        refine am_goto (tgt := 65) X dX9_of_60 (by decide) ?_
        exact hret _ _ _ _ _ dX9_of_65 rfl rfl (by refine ⟨rfl, rfl, ?_⟩; unfold c_of c_owed; (try unfold set_told at *); (repeat' split) <;> first | omega | assumption)
  · skip
    refine am_aload_n (x := 0) X (by rfl) dX9_of_9 ?_
    refine am_getr (c1 := 16) X 0 fl_X9_33 (by decide) sh_0 (by decide) (by rfl) dX9_of_10 ?_
    refine am_iload_n (x := a) X (by rfl) dX9_of_13 ?_
    refine am_callVi (ci := 4) X hY lk_X9_136 mf_X4_isDebt (m_X4_isDebt a σ hc) (by decide) (by decide) (Nat.le_refl _) (Nat.le_refl _) sh_16 rfl rfl rfl (Nat.le_of_ble_eq_true rfl) dX9_of_14 (fun r14 sh14 σ14 hr14 hp14 => ?_)
    obtain ⟨rfl, rfl, hq14⟩ := hp14
    refine am_if_eq (tgt := 29) X dX9_of_17 (by decide) (fun h17 => ?_) (fun h17 => ?_)
    · skip
      refine am_ldc X (n := -2000000000) (by unfold R32; decide) cn_X9_142 dX9_of_29 ?_
      exact hret _ _ _ _ _ dX9_of_31 rfl rfl (by refine ⟨rfl, rfl, ?_⟩; unfold c_of c_owed; (try unfold set_told at *); (repeat' split) <;> first | omega | assumption)
    · skip
      refine am_aload_n (x := 0) X (by rfl) dX9_of_20 ?_
      refine am_iload_n (x := a) X (by rfl) dX9_of_21 ?_
      refine am_iload_n (x := b) X (by rfl) dX9_of_22 ?_
      refine am_callVi (ci := 8) X hY lk_X9_139 mf_X9_ofDebt (m_X9_ofDebt a b ((a).toNat) (by omega) (by omega) σ (by omega)) (by decide) (by decide) (Nat.le_refl _) (Nat.le_refl _) sh_0 rfl rfl rfl (Nat.le_of_ble_eq_true rfl) dX9_of_23 (fun r23 sh23 σ23 hr23 hp23 => ?_)
      obtain ⟨rfl, rfl, hq23⟩ := hp23
      refine am_goto (tgt := 31) X dX9_of_26 (by decide) ?_
      exact hret _ _ _ _ _ dX9_of_31 rfl rfl (by refine ⟨rfl, rfl, ?_⟩; unfold c_of c_owed; (try unfold set_told at *); (repeat' split) <;> first | omega | assumption)

set_option maxHeartbeats 4000000 in
set_option maxRecDepth 100000 in
theorem m_X9_ask (a b : Int) (σ : am_H) (hc : 0 ≤ σ 16 5 ∧ σ 16 5 ≤ 20) (ha : 0 ≤ σ 22 6 ∧ σ 22 6 ≤ 30) (hn : 0 ≤ σ 22 7 ∧ σ 22 7 ≤ 48) : am_Mi yX9_ask cX9_ask 3 (some .int) 3 0 0 [vr 0, vi a, vi b] SH σ (fun r sh' σ' => SH = sh' ∧ ((¬ ((0 ≤ a ∧ a < σ 16 5) ∧ (σ 22 7 + 3 ≤ b ∧ b ≤ 47) ∧ ¬ b % 4 = 3) ∧ r = -1 ∧ σ = σ') ∨ ((((0 ≤ a ∧ a < σ 16 5) ∧ (σ 22 7 + 3 ≤ b ∧ b ≤ 47) ∧ ¬ b % 4 = 3) ∧ ¬ 0 < σ 19 a.toNat) ∧ r = -5 ∧ σ = σ') ∨ ((((0 ≤ a ∧ a < σ 16 5) ∧ (σ 22 7 + 3 ≤ b ∧ b ≤ 47) ∧ ¬ b % 4 = 3) ∧ 0 < σ 19 a.toNat ∧ σ 22 6 = 30) ∧ r = -3 ∧ σ = σ') ∨ ((((0 ≤ a ∧ a < σ 16 5) ∧ (σ 22 7 + 3 ≤ b ∧ b ≤ 47) ∧ ¬ b % 4 = 3) ∧ 0 < σ 19 a.toNat ∧ σ 22 6 < 30) ∧ r = σ 22 6 ∧ (dia_add σ (σ 22 6).toNat a b) = σ'))) := by
  refine am_Mi_of (by decide +kernel) (Nat.le_of_ble_eq_true rfl) (fun K X hY hI hret => ?_)
  show am_G K 0 [some (vr 0), some (vi a), some (vi b)] [] SH σ
  refine am_aload_n (x := 0) X (by rfl) dX9_ask_0 ?_
  refine am_getr (c1 := 16) X 0 fl_X9_33 (by decide) sh_0 (by decide) (by rfl) dX9_ask_1 ?_
  refine am_iload_n (x := a) X (by rfl) dX9_ask_4 ?_
  refine am_callVi (ci := 4) X hY lk_X9_136 mf_X4_isDebt (m_X4_isDebt a σ hc) (by decide) (by decide) (Nat.le_refl _) (Nat.le_refl _) sh_16 rfl rfl rfl (Nat.le_of_ble_eq_true rfl) dX9_ask_5 (fun r5 sh5 σ5 hr5 hp5 => ?_)
  obtain ⟨rfl, rfl, hq5⟩ := hp5
  refine am_if_eq (tgt := 36) X dX9_ask_8 (by decide) (fun h8 => ?_) (fun h8 => ?_)
  · skip
    refine am_ic X (by decide) dX9_ask_36 ?_
    exact hret _ _ _ _ _ dX9_ask_37 rfl rfl (by first | exact ⟨rfl, Or.inl ⟨by omega, by omega, rfl⟩⟩ | exact ⟨rfl, Or.inr (Or.inl ⟨by omega, by omega, rfl⟩)⟩ | exact ⟨rfl, Or.inr (Or.inr (Or.inl ⟨by omega, by omega, rfl⟩))⟩ | exact ⟨rfl, Or.inr (Or.inr (Or.inr (⟨by omega, by omega, rfl⟩)))⟩)
  · skip
    refine am_iload_n (x := b) X (by rfl) dX9_ask_11 ?_
    refine am_aload_n (x := 0) X (by rfl) dX9_ask_12 ?_
    refine am_getr (c1 := 22) X 0 fl_X9_40 (by decide) sh_0 (by decide) (by rfl) dX9_ask_13 ?_
    refine am_get (v := σ 22 7) X 22 fl_X9_175 (by decide) sh_22 (by decide) (rfl) dX9_ask_16 ?_
    refine am_ic X (by decide) dX9_ask_19 ?_
    refine am_add (v := (σ 22 7 + 3)) X (by first | rfl | omega) (by omega) dX9_ask_20 ?_
    refine am_bipush X (by decide) dX9_ask_21 ?_
    refine am_callSi X hY lk_X9_75 mf_X9_within (m_X9_within b (σ 22 7 + 3) 47 _ σ) (by decide) (by decide) (Nat.le_refl _) (Nat.le_refl _) rfl rfl (Nat.le_of_ble_eq_true rfl) dX9_ask_23 (fun r23 sh23 σ23 hr23 hp23 => ?_)
    obtain ⟨rfl, rfl, hq23⟩ := hp23
    refine am_if_eq (tgt := 36) X dX9_ask_26 (by decide) (fun h26 => ?_) (fun h26 => ?_)
    · skip
      refine am_ic X (by decide) dX9_ask_36 ?_
      exact hret _ _ _ _ _ dX9_ask_37 rfl rfl (by first | exact ⟨rfl, Or.inl ⟨by omega, by omega, rfl⟩⟩ | exact ⟨rfl, Or.inr (Or.inl ⟨by omega, by omega, rfl⟩)⟩ | exact ⟨rfl, Or.inr (Or.inr (Or.inl ⟨by omega, by omega, rfl⟩))⟩ | exact ⟨rfl, Or.inr (Or.inr (Or.inr (⟨by omega, by omega, rfl⟩)))⟩)
    · skip
      refine am_iload_n (x := b) X (by rfl) dX9_ask_29 ?_
      refine am_callSi X hY lk_X9_178 mf_X9_isHoly (m_X9_isHoly b (by omega) _ σ) (by decide) (by decide) (Nat.le_refl _) (Nat.le_refl _) rfl rfl (Nat.le_of_ble_eq_true rfl) dX9_ask_30 (fun r30 sh30 σ30 hr30 hp30 => ?_)
      obtain ⟨rfl, rfl, hq30⟩ := hp30
      refine am_if_eq (tgt := 38) X dX9_ask_33 (by decide) (fun h33 => ?_) (fun h33 => ?_)
      · skip
        refine am_aload_n (x := 0) X (by rfl) dX9_ask_38 ?_
        refine am_getr (c1 := 16) X 0 fl_X9_33 (by decide) sh_0 (by decide) (by rfl) dX9_ask_39 ?_
        refine am_iload_n (x := a) X (by rfl) dX9_ask_42 ?_
        refine am_callVi (ci := 4) X hY lk_X9_181 mf_X4_isOpen (m_X4_isOpen a (a).toNat (by omega) σ hc) (by decide) (by decide) (Nat.le_refl _) (Nat.le_refl _) sh_16 rfl rfl rfl (Nat.le_of_ble_eq_true rfl) dX9_ask_43 (fun r43 sh43 σ43 hr43 hp43 => ?_)
        obtain ⟨rfl, rfl, hq43⟩ := hp43
        refine am_if_ne (tgt := 52) X dX9_ask_46 (by decide) (fun h46 => ?_) (fun h46 => ?_)
        · skip
          refine am_aload_n (x := 0) X (by rfl) dX9_ask_52 ?_
          refine am_getr (c1 := 22) X 0 fl_X9_40 (by decide) sh_0 (by decide) (by rfl) dX9_ask_53 ?_
          refine am_get (v := σ 22 6) X 22 fl_X9_184 (by decide) sh_22 (by decide) (rfl) dX9_ask_56 ?_
          refine am_bipush X (by decide) dX9_ask_59 ?_
          refine am_icmp_lt (tgt := 67) X dX9_ask_61 (by decide) (fun h61 => ?_) (fun h61 => ?_)
          · skip
            refine am_aload_n (x := 0) X (by rfl) dX9_ask_67 ?_
            refine am_getr (c1 := 22) X 0 fl_X9_40 (by decide) sh_0 (by decide) (by rfl) dX9_ask_68 ?_
            refine am_iload_n (x := a) X (by rfl) dX9_ask_71 ?_
            refine am_iload_n (x := b) X (by rfl) dX9_ask_72 ?_
            refine am_callVi (ci := 2) X hY lk_X9_187 mf_X2_addAsk (m_X2_addAsk a b σ (by omega)) (by decide) (by decide) (Nat.le_refl _) (Nat.le_refl _) sh_22 rfl rfl rfl (Nat.le_of_ble_eq_true rfl) dX9_ask_73 (fun r73 sh73 σ73 hr73 hp73 => ?_)
            obtain ⟨rfl, rfl, hq73⟩ := hp73
            exact hret _ _ _ _ _ dX9_ask_76 rfl rfl (by first | exact ⟨rfl, Or.inl ⟨by omega, by omega, rfl⟩⟩ | exact ⟨rfl, Or.inr (Or.inl ⟨by omega, by omega, rfl⟩)⟩ | exact ⟨rfl, Or.inr (Or.inr (Or.inl ⟨by omega, by omega, rfl⟩))⟩ | exact ⟨rfl, Or.inr (Or.inr (Or.inr (⟨by omega, by omega, rfl⟩)))⟩)
          · skip
            refine am_bipush X (by decide) dX9_ask_64 ?_
            exact hret _ _ _ _ _ dX9_ask_66 rfl rfl (by first | exact ⟨rfl, Or.inl ⟨by omega, by omega, rfl⟩⟩ | exact ⟨rfl, Or.inr (Or.inl ⟨by omega, by omega, rfl⟩)⟩ | exact ⟨rfl, Or.inr (Or.inr (Or.inl ⟨by omega, by omega, rfl⟩))⟩ | exact ⟨rfl, Or.inr (Or.inr (Or.inr (⟨by omega, by omega, rfl⟩)))⟩)
        · skip
          refine am_bipush X (by decide) dX9_ask_49 ?_
          exact hret _ _ _ _ _ dX9_ask_51 rfl rfl (by first | exact ⟨rfl, Or.inl ⟨by omega, by omega, rfl⟩⟩ | exact ⟨rfl, Or.inr (Or.inl ⟨by omega, by omega, rfl⟩)⟩ | exact ⟨rfl, Or.inr (Or.inr (Or.inl ⟨by omega, by omega, rfl⟩))⟩ | exact ⟨rfl, Or.inr (Or.inr (Or.inr (⟨by omega, by omega, rfl⟩)))⟩)
      · skip
        refine am_ic X (by decide) dX9_ask_36 ?_
        exact hret _ _ _ _ _ dX9_ask_37 rfl rfl (by first | exact ⟨rfl, Or.inl ⟨by omega, by omega, rfl⟩⟩ | exact ⟨rfl, Or.inr (Or.inl ⟨by omega, by omega, rfl⟩)⟩ | exact ⟨rfl, Or.inr (Or.inr (Or.inl ⟨by omega, by omega, rfl⟩))⟩ | exact ⟨rfl, Or.inr (Or.inr (Or.inr (⟨by omega, by omega, rfl⟩)))⟩)

set_option maxHeartbeats 4000000 in
set_option maxRecDepth 100000 in
theorem m_X9_led (a b : Int) (σ : am_H) (hp : 0 ≤ σ 1 2 ∧ σ 1 2 ≤ 8) (hn : 0 ≤ σ 22 7 ∧ σ 22 7 ≤ 48) : am_Mi yX9_led cX9_led 4 (some .int) 2 0 0 [vr 0, vi a, vi b] SH σ (fun r sh' σ' => SH = sh' ∧ σ = σ' ∧ r = (if 0 ≤ a ∧ a / 10 < σ 22 7 ∧ (0 ≤ a % 10 ∧ a % 10 < σ 1 2) ∧ 0 ≤ b ∧ b ≤ 1 then (if b = 0 then σ 26 (a / 10 * 8 + a % 10).toNat else σ 27 (a / 10 * 8 + a % 10).toNat) else -1)) := by
  refine am_Mi_of (by decide +kernel) (Nat.le_of_ble_eq_true rfl) (fun K X hY hI hret => ?_)
  show am_G K 0 [some (vr 0), some (vi a), some (vi b), none] [] SH σ
  refine am_iload_n (x := a) X (by rfl) dX9_led_0 ?_
  refine am_if_lt (tgt := 41) X dX9_led_1 (by decide) (fun h1 => ?_) (fun h1 => ?_)
  · skip
    refine am_ic X (by decide) dX9_led_41 ?_
    exact hret _ _ _ _ _ dX9_led_42 rfl rfl (by refine ⟨rfl, rfl, ?_⟩; (try subst hq51); (repeat' split) <;> first | omega | assumption)
  · skip
    refine am_iload_n (x := a) X (by rfl) dX9_led_4 ?_
    refine am_bipush X (by decide) dX9_led_5 ?_
    refine am_div (v := (a / 10)) X (by omega) (by omega) rfl dX9_led_7 ?_
    refine am_aload_n (x := 0) X (by rfl) dX9_led_8 ?_
    refine am_getr (c1 := 22) X 0 fl_X9_40 (by decide) sh_0 (by decide) (by rfl) dX9_led_9 ?_
    refine am_get (v := σ 22 7) X 22 fl_X9_175 (by decide) sh_22 (by decide) (rfl) dX9_led_12 ?_
    refine am_icmp_ge (tgt := 41) X dX9_led_15 (by decide) (fun h15 => ?_) (fun h15 => ?_)
    · skip
      refine am_ic X (by decide) dX9_led_41 ?_
      exact hret _ _ _ _ _ dX9_led_42 rfl rfl (by refine ⟨rfl, rfl, ?_⟩; (try subst hq51); (repeat' split) <;> first | omega | assumption)
    · skip
      refine am_aload_n (x := 0) X (by rfl) dX9_led_18 ?_
      refine am_getr (c1 := 1) X 0 fl_X9_10 (by decide) sh_0 (by decide) (by rfl) dX9_led_19 ?_
      refine am_iload_n (x := a) X (by rfl) dX9_led_22 ?_
      refine am_bipush X (by decide) dX9_led_23 ?_
      refine am_rem (v := (a % 10)) X (by omega) (by omega) rfl dX9_led_25 ?_
      refine am_callVi (ci := 5) X hY lk_X9_143 mf_X6_isPerson (m_X6_isPerson (a % 10) σ hp) (by decide) (by decide) (Nat.le_refl _) (Nat.le_refl _) sh_1 rfl rfl rfl (Nat.le_of_ble_eq_true rfl) dX9_led_26 (fun r26 sh26 σ26 hr26 hp26 => ?_)
      obtain ⟨rfl, rfl, hq26⟩ := hp26
      refine am_if_eq (tgt := 41) X dX9_led_29 (by decide) (fun h29 => ?_) (fun h29 => ?_)
      · skip
        refine am_ic X (by decide) dX9_led_41 ?_
        exact hret _ _ _ _ _ dX9_led_42 rfl rfl (by refine ⟨rfl, rfl, ?_⟩; (try subst hq51); (repeat' split) <;> first | omega | assumption)
      · skip
        refine am_iload_n (x := b) X (by rfl) dX9_led_32 ?_
        refine am_ic X (by decide) dX9_led_33 ?_
        refine am_ic X (by decide) dX9_led_34 ?_
        refine am_callSi X hY lk_X9_75 mf_X9_within (m_X9_within b 0 1 _ σ) (by decide) (by decide) (Nat.le_refl _) (Nat.le_refl _) rfl rfl (Nat.le_of_ble_eq_true rfl) dX9_led_35 (fun r35 sh35 σ35 hr35 hp35 => ?_)
        obtain ⟨rfl, rfl, hq35⟩ := hp35
        refine am_if_ne (tgt := 43) X dX9_led_38 (by decide) (fun h38 => ?_) (fun h38 => ?_)
        · skip
          refine am_iload_n (x := a) X (by rfl) dX9_led_43 ?_
          refine am_bipush X (by decide) dX9_led_44 ?_
          refine am_div (v := (a / 10)) X (by omega) (by omega) rfl dX9_led_46 ?_
          refine am_iload_n (x := a) X (by rfl) dX9_led_47 ?_
          refine am_bipush X (by decide) dX9_led_48 ?_
          refine am_rem (v := (a % 10)) X (by omega) (by omega) rfl dX9_led_50 ?_
          refine am_callSi X hY lk_X9_206 mf_X2_place (m_X2_place (a / 10) (a % 10) (by omega) _ σ) (by decide) (by decide) (Nat.le_refl _) (Nat.le_refl _) rfl rfl (Nat.le_of_ble_eq_true rfl) dX9_led_51 (fun r51 sh51 σ51 hr51 hp51 => ?_)
          obtain ⟨rfl, rfl, hq51⟩ := hp51
          refine am_istore_n (i := 3) (L' := [some (vr 0), some (vi a), some (vi b), some (vi r51)]) X rfl (Nat.le_of_ble_eq_true rfl) (by rfl) dX9_led_54 ?_
          refine am_iload_n (x := b) X (by rfl) dX9_led_55 ?_
          refine am_if_ne (tgt := 71) X dX9_led_56 (by decide) (fun h56 => ?_) (fun h56 => ?_)
          · skip
            refine am_aload_n (x := 0) X (by rfl) dX9_led_71 ?_
            refine am_getr (c1 := 22) X 0 fl_X9_40 (by decide) sh_0 (by decide) (by rfl) dX9_led_72 ?_
            refine am_getr (c1 := 27) X 22 fl_X9_212 (by decide) sh_22 (by decide) (by rfl) dX9_led_75 ?_
            refine am_iload_n (x := r51) X (by rfl) dX9_led_78 ?_
            refine am_ald (v := σ 27 ((a / 10 * 8 + a % 10).toNat)) X 27 (a / 10 * 8 + a % 10).toNat sh_27 (by omega) (by omega) (rfl) dX9_led_79 ?_
            exact hret _ _ _ _ _ dX9_led_80 rfl rfl (by refine ⟨rfl, rfl, ?_⟩; (try subst hq51); (repeat' split) <;> first | omega | assumption)
          · skip
            refine am_aload_n (x := 0) X (by rfl) dX9_led_59 ?_
            refine am_getr (c1 := 22) X 0 fl_X9_40 (by decide) sh_0 (by decide) (by rfl) dX9_led_60 ?_
            refine am_getr (c1 := 26) X 22 fl_X9_209 (by decide) sh_22 (by decide) (by rfl) dX9_led_63 ?_
            refine am_iload_n (x := r51) X (by rfl) dX9_led_66 ?_
            refine am_ald (v := σ 26 ((a / 10 * 8 + a % 10).toNat)) X 26 (a / 10 * 8 + a % 10).toNat sh_26 (by omega) (by omega) (rfl) dX9_led_67 ?_
            refine am_goto (tgt := 80) X dX9_led_68 (by decide) ?_
            exact hret _ _ _ _ _ dX9_led_80 rfl rfl (by refine ⟨rfl, rfl, ?_⟩; (try subst hq51); (repeat' split) <;> first | omega | assumption)
        · skip
          refine am_ic X (by decide) dX9_led_41 ?_
          exact hret _ _ _ _ _ dX9_led_42 rfl rfl (by refine ⟨rfl, rfl, ?_⟩; (try subst hq51); (repeat' split) <;> first | omega | assumption)

set_option maxHeartbeats 4000000 in
set_option maxRecDepth 100000 in
theorem m_X9_waits (σ : am_H) (ha : 0 ≤ σ 22 6 ∧ σ 22 6 ≤ 30) : am_Mi yX9_waits cX9_waits 1 (some .int) 1 0 0 [vr 0] SH σ (fun r sh' σ' => SH = sh' ∧ σ = σ' ∧ r = am_sum (fun n : Nat => if σ 25 n = 0 then 1 else 0) (σ 22 6).toNat) := by
  refine am_Mi_of (by decide +kernel) (Nat.le_of_ble_eq_true rfl) (fun K X hY hI hret => ?_)
  show am_G K 0 [some (vr 0)] [] SH σ
  refine am_aload_n (x := 0) X (by rfl) dX9_waits_0 ?_
  refine am_getr (c1 := 22) X 0 fl_X9_40 (by decide) sh_0 (by decide) (by rfl) dX9_waits_1 ?_
  refine am_callVi (ci := 2) X hY lk_X9_215 mf_X2_waiting (m_X2_waiting σ (by omega)) (by decide) (by decide) (Nat.le_refl _) (Nat.le_refl _) sh_22 rfl rfl rfl (Nat.le_of_ble_eq_true rfl) dX9_waits_4 (fun r4 sh4 σ4 hr4 hp4 => ?_)
  obtain ⟨rfl, rfl, hq4⟩ := hp4
  exact hret _ _ _ _ _ dX9_waits_7 rfl rfl (⟨rfl, rfl, hq4.1⟩)

set_option maxHeartbeats 4000000 in
set_option maxRecDepth 100000 in
theorem m_X9_free (a b : Int) (σ : am_H) (hp : 0 ≤ σ 1 2 ∧ σ 1 2 ≤ 8) (hc : 0 ≤ σ 16 5 ∧ σ 16 5 ≤ 20) (hd : ∀ n : Nat, (n : Int) < σ 16 5 → 0 ≤ σ 19 n ∧ σ 19 n ≤ 9) (hn : 0 ≤ σ 22 7 ∧ σ 22 7 ≤ 48) : am_Mi yX9_free cX9_free 5 (some .int) 2 0 0 [vr 0, vi a, vi b] SH σ (fun r sh' σ' => SH = sh' ∧ σ = σ' ∧ r = (if (0 ≤ a ∧ a < σ 1 2) ∧ 0 ≤ b ∧ b ≤ 47 then am_sum (fun n : Nat => if (σ 22 7 + 3 + (n : Int)) % 4 = 3 then 0 else 1) (b + 1 - (σ 22 7 + 3)).toNat - c_by σ a else -2000000000)) := by
  refine am_Mi_of (by decide +kernel) (Nat.le_of_ble_eq_true rfl) (fun K X hY hI hret => ?_)
  show am_G K 0 [some (vr 0), some (vi a), some (vi b), none, none] [] SH σ
  refine am_aload_n (x := 0) X (by rfl) dX9_free_0 ?_
  refine am_getr (c1 := 1) X 0 fl_X9_10 (by decide) sh_0 (by decide) (by rfl) dX9_free_1 ?_
  refine am_iload_n (x := a) X (by rfl) dX9_free_4 ?_
  refine am_callVi (ci := 5) X hY lk_X9_143 mf_X6_isPerson (m_X6_isPerson a σ hp) (by decide) (by decide) (Nat.le_refl _) (Nat.le_refl _) sh_1 rfl rfl rfl (Nat.le_of_ble_eq_true rfl) dX9_free_5 (fun r5 sh5 σ5 hr5 hp5 => ?_)
  obtain ⟨rfl, rfl, hq5⟩ := hp5
  refine am_if_eq (tgt := 18) X dX9_free_8 (by decide) (fun h8 => ?_) (fun h8 => ?_)
  · skip
    refine am_ldc X (n := -2000000000) (by unfold R32; decide) cn_X9_142 dX9_free_18 ?_
    exact hret _ _ _ _ _ dX9_free_20 rfl rfl (by refine ⟨rfl, rfl, ?_⟩; (try rw [hs] at *); (try rw [show (b + 1 - (σ 22 7 + 3)).toNat = k by omega]); unfold c_by; (repeat' split) <;> first | omega | assumption)
  · skip
    refine am_iload_n (x := b) X (by rfl) dX9_free_11 ?_
    refine am_callSi X hY lk_X9_168 mf_X9_isDay (m_X9_isDay b _ σ) (by decide) (by decide) (Nat.le_refl _) (Nat.le_refl _) rfl rfl (Nat.le_of_ble_eq_true rfl) dX9_free_12 (fun r12 sh12 σ12 hr12 hp12 => ?_)
    obtain ⟨rfl, rfl, hq12⟩ := hp12
    refine am_if_ne (tgt := 21) X dX9_free_15 (by decide) (fun h15 => ?_) (fun h15 => ?_)
    · skip
      refine am_ic X (by decide) dX9_free_21 ?_
      refine am_istore_n (i := 3) (L' := [some (vr 0), some (vi a), some (vi b), some (vi 0), none]) X rfl (Nat.le_of_ble_eq_true rfl) (by rfl) dX9_free_22 ?_
      refine am_aload_n (x := 0) X (by rfl) dX9_free_23 ?_
      refine am_getr (c1 := 22) X 0 fl_X9_40 (by decide) sh_0 (by decide) (by rfl) dX9_free_24 ?_
      refine am_get (v := σ 22 7) X 22 fl_X9_175 (by decide) sh_22 (by decide) (rfl) dX9_free_27 ?_
      refine am_ic X (by decide) dX9_free_30 ?_
      refine am_add (v := (σ 22 7 + 3)) X (by first | rfl | omega) (by omega) dX9_free_31 ?_
      refine am_istore (i := 4) (L' := [some (vr 0), some (vi a), some (vi b), some (vi 0), some (vi (σ 22 7 + 3))]) X (Nat.le_of_ble_eq_true rfl) (by rfl) dX9_free_32 ?_
      have hL34 : ∀ (m34 : Nat) (k : Nat) (s : Int) (dv : Int) (hdv : dv = σ 22 7 + 3 + (k : Int)) (hk : k ≤ (b + 1 - (σ 22 7 + 3)).toNat) (hs : s = am_sum (fun n : Nat => if (σ 22 7 + 3 + (n : Int)) % 4 = 3 then 0 else 1) k) (hm34 : (b + 1 - (σ 22 7 + 3)).toNat - k = m34), am_G K 34 [some (vr 0), some (vi a), some (vi b), some (vi s), some (vi dv)] [] SH σ := by
        intro m34
        induction m34 using Nat.strongRecOn with
        | ind m34 ih34 =>
        intro k s dv hdv hk hs hm34
        have hb := am_sum_1 (f := (fun n : Nat => if (σ 22 7 + 3 + (n : Int)) % 4 = 3 then 0 else 1)) (n := k) (fun j hj => by (repeat' split) <;> omega)
        
        refine am_iload (x := dv) X (by rfl) dX9_free_34 ?_
        refine am_iload_n (x := b) X (by rfl) dX9_free_36 ?_
        refine am_icmp_gt (tgt := 57) X dX9_free_37 (by decide) (fun h37 => ?_) (fun h37 => ?_)
        · skip
          refine am_iload_n (x := s) X (by rfl) dX9_free_57 ?_
          refine am_aload_n (x := 0) X (by rfl) dX9_free_58 ?_
          refine am_getr (c1 := 16) X 0 fl_X9_33 (by decide) sh_0 (by decide) (by rfl) dX9_free_59 ?_
          refine am_iload_n (x := a) X (by rfl) dX9_free_62 ?_
          refine am_callVi (ci := 4) X hY lk_X9_224 mf_X4_owedBy (m_X4_owedBy a σ hc hd) (by decide) (by decide) (Nat.le_refl _) (Nat.le_refl _) sh_16 rfl rfl rfl (Nat.le_of_ble_eq_true rfl) dX9_free_63 (fun r63 sh63 σ63 hr63 hp63 => ?_)
          obtain ⟨rfl, rfl, hq63⟩ := hp63
          refine am_sub (v := (s - r63)) X (by first | rfl | omega) (by omega) dX9_free_66 ?_
          exact hret _ _ _ _ _ dX9_free_67 rfl rfl (by refine ⟨rfl, rfl, ?_⟩; (try rw [hs] at *); (try rw [show (b + 1 - (σ 22 7 + 3)).toNat = k by omega]); unfold c_by; (repeat' split) <;> first | omega | assumption)
        · skip
          refine am_iload (x := dv) X (by rfl) dX9_free_40 ?_
          refine am_callSi X hY lk_X9_178 mf_X9_isHoly (m_X9_isHoly dv (by omega) _ σ) (by decide) (by decide) (Nat.le_refl _) (Nat.le_refl _) rfl rfl (Nat.le_of_ble_eq_true rfl) dX9_free_42 (fun r42 sh42 σ42 hr42 hp42 => ?_)
          obtain ⟨rfl, rfl, hq42⟩ := hp42
          refine am_if_ne (tgt := 51) X dX9_free_45 (by decide) (fun h45 => ?_) (fun h45 => ?_)
          · skip
            refine am_inc (x := dv) (v := (dv + 1)) (L' := [some (vr 0), some (vi a), some (vi b), some (vi s), some (vi (dv + 1))]) X (by rfl) (by omega) (by omega) (by rfl) dX9_free_51 ?_
            refine am_goto (tgt := 34) X dX9_free_54 (by decide) ?_
            exact ih34 _ (by omega) (k + 1) _ _ (by omega) (by omega) (by (try subst s); show _ = am_sum (fun n : Nat => if (σ 22 7 + 3 + (n : Int)) % 4 = 3 then 0 else 1) k + (if _ then _ else _); first | (rw [if_pos (by omega)]; omega) | (rw [if_neg (by omega)])) rfl
          · skip
            refine am_inc (x := s) (v := (s + 1)) (L' := [some (vr 0), some (vi a), some (vi b), some (vi (s + 1)), some (vi dv)]) X (by rfl) (by omega) (by omega) (by rfl) dX9_free_48 ?_
            refine am_inc (x := dv) (v := (dv + 1)) (L' := [some (vr 0), some (vi a), some (vi b), some (vi (s + 1)), some (vi (dv + 1))]) X (by rfl) (by omega) (by omega) (by rfl) dX9_free_51 ?_
            refine am_goto (tgt := 34) X dX9_free_54 (by decide) ?_
            exact ih34 _ (by omega) (k + 1) _ _ (by omega) (by omega) (by (try subst s); show _ = am_sum (fun n : Nat => if (σ 22 7 + 3 + (n : Int)) % 4 = 3 then 0 else 1) k + (if _ then _ else _); first | (rw [if_pos (by omega)]; omega) | (rw [if_neg (by omega)])) rfl
      exact hL34 _ 0 0 (σ 22 7 + 3) (by omega) (by omega) (rfl) rfl
    · skip
      refine am_ldc X (n := -2000000000) (by unfold R32; decide) cn_X9_142 dX9_free_18 ?_
      exact hret _ _ _ _ _ dX9_free_20 rfl rfl (by refine ⟨rfl, rfl, ?_⟩; (try rw [hs] at *); (try rw [show (b + 1 - (σ 22 7 + 3)).toNat = k by omega]); unfold c_by; (repeat' split) <;> first | omega | assumption)

set_option maxHeartbeats 4000000 in
set_option maxRecDepth 100000 in
theorem m_X9_balance (a : Int) (σ : am_H) (hp : 0 ≤ σ 1 2 ∧ σ 1 2 ≤ 8) (hc : 0 ≤ σ 16 5 ∧ σ 16 5 ≤ 20) (hd : ∀ n : Nat, (n : Int) < σ 16 5 → 0 ≤ σ 19 n ∧ σ 19 n ≤ 9) : am_Mi yX9_balance cX9_balance 2 (some .int) 2 0 0 [vr 0, vi a] SH σ (fun r sh' σ' => SH = sh' ∧ σ = σ' ∧ r = (if 0 ≤ a ∧ a < σ 1 2 then c_to σ a - c_by σ a else -2000000000)) := by
  refine am_Mi_of (by decide +kernel) (Nat.le_of_ble_eq_true rfl) (fun K X hY hI hret => ?_)
  show am_G K 0 [some (vr 0), some (vi a)] [] SH σ
  refine am_aload_n (x := 0) X (by rfl) dX9_balance_0 ?_
  refine am_getr (c1 := 1) X 0 fl_X9_10 (by decide) sh_0 (by decide) (by rfl) dX9_balance_1 ?_
  refine am_iload_n (x := a) X (by rfl) dX9_balance_4 ?_
  refine am_callVi (ci := 5) X hY lk_X9_143 mf_X6_isPerson (m_X6_isPerson a σ hp) (by decide) (by decide) (Nat.le_refl _) (Nat.le_refl _) sh_1 rfl rfl rfl (Nat.le_of_ble_eq_true rfl) dX9_balance_5 (fun r5 sh5 σ5 hr5 hp5 => ?_)
  obtain ⟨rfl, rfl, hq5⟩ := hp5
  refine am_if_ne (tgt := 14) X dX9_balance_8 (by decide) (fun h8 => ?_) (fun h8 => ?_)
  · skip
    refine am_aload_n (x := 0) X (by rfl) dX9_balance_14 ?_
    refine am_getr (c1 := 16) X 0 fl_X9_33 (by decide) sh_0 (by decide) (by rfl) dX9_balance_15 ?_
    refine am_iload_n (x := a) X (by rfl) dX9_balance_18 ?_
    refine am_callVi (ci := 4) X hY lk_X9_237 mf_X4_owedTo (m_X4_owedTo a σ hc hd) (by decide) (by decide) (Nat.le_refl _) (Nat.le_refl _) sh_16 rfl rfl rfl (Nat.le_of_ble_eq_true rfl) dX9_balance_19 (fun r19 sh19 σ19 hr19 hp19 => ?_)
    obtain ⟨rfl, rfl, hq19⟩ := hp19
    refine am_aload_n (x := 0) X (by rfl) dX9_balance_22 ?_
    refine am_getr (c1 := 16) X 0 fl_X9_33 (by decide) sh_0 (by decide) (by rfl) dX9_balance_23 ?_
    refine am_iload_n (x := a) X (by rfl) dX9_balance_26 ?_
    refine am_callVi (ci := 4) X hY lk_X9_224 mf_X4_owedBy (m_X4_owedBy a σ hc hd) (by decide) (by decide) (Nat.le_refl _) (Nat.le_refl _) sh_16 rfl rfl rfl (Nat.le_of_ble_eq_true rfl) dX9_balance_27 (fun r27 sh27 σ27 hr27 hp27 => ?_)
    obtain ⟨rfl, rfl, hq27⟩ := hp27
    refine am_sub (v := (r19 - r27)) X (by first | rfl | omega) (by omega) dX9_balance_30 ?_
    exact hret _ _ _ _ _ dX9_balance_31 rfl rfl (by refine ⟨rfl, rfl, ?_⟩; unfold c_to c_by; (repeat' split) <;> first | omega | assumption)
  · skip
    refine am_ldc X (n := -2000000000) (by unfold R32; decide) cn_X9_142 dX9_balance_11 ?_
    exact hret _ _ _ _ _ dX9_balance_13 rfl rfl (by refine ⟨rfl, rfl, ?_⟩; unfold c_to c_by; (repeat' split) <;> first | omega | assumption)
