set_option maxHeartbeats 4000000 in
set_option maxRecDepth 100000 in
theorem m_X9_hand (a : Int) (σ : am_H) (hc : 0 ≤ σ 16 5 ∧ σ 16 5 ≤ 20) (hd : ∀ n : Nat, (n : Int) < σ 16 5 → 0 ≤ σ 19 n ∧ σ 19 n ≤ 9) : am_Mi yX9_hand cX9_hand 2 (some .int) 4 0 0 [vr 0, vi a] SH σ (fun r sh' σ' => SH = sh' ∧ ((¬ (0 ≤ a ∧ (0 ≤ a / 100 ∧ a / 100 < σ 16 5) ∧ (0 ≤ a % 100 ∧ a % 100 < σ 16 5)) ∧ r = -1 ∧ σ = σ') ∨ ((0 ≤ a ∧ (0 ≤ a / 100 ∧ a / 100 < σ 16 5) ∧ (0 ≤ a % 100 ∧ a % 100 < σ 16 5)) ∧ ((0 < σ 19 (a / 100).toNat ∧ 0 < σ 19 (a % 100).toNat ∧ σ 18 (a / 100).toNat = σ 17 (a % 100).toNat ∧ σ 17 (a / 100).toNat ≠ σ 18 (a % 100).toNat) ∧ σ 20 (a / 100).toNat = σ 20 (a % 100).toNat ∧ σ 19 (a / 100).toNat = σ 19 (a % 100).toNat ∧ σ 21 (a / 100).toNat = σ 21 (a % 100).toNat) ∧ r = 1 ∧ (led_less (am_up σ 18 (a / 100).toNat (σ 18 (a % 100).toNat)) (a % 100).toNat (σ 19 (a % 100).toNat)) = σ') ∨ ((0 ≤ a ∧ (0 ≤ a / 100 ∧ a / 100 < σ 16 5) ∧ (0 ≤ a % 100 ∧ a % 100 < σ 16 5)) ∧ ¬ ((0 < σ 19 (a / 100).toNat ∧ 0 < σ 19 (a % 100).toNat ∧ σ 18 (a / 100).toNat = σ 17 (a % 100).toNat ∧ σ 17 (a / 100).toNat ≠ σ 18 (a % 100).toNat) ∧ σ 20 (a / 100).toNat = σ 20 (a % 100).toNat ∧ σ 19 (a / 100).toNat = σ 19 (a % 100).toNat ∧ σ 21 (a / 100).toNat = σ 21 (a % 100).toNat) ∧ r = -2 ∧ σ = σ'))) := by
  refine am_Mi_of (by decide +kernel) (Nat.le_of_ble_eq_true rfl) (fun K X hY hI hret => ?_)
  show am_G K 0 [some (vr 0), some (vi a)] [] SH σ
  refine am_iload_n (x := a) X (by rfl) dX9_hand_0 ?_
  refine am_if_lt (tgt := 32) X dX9_hand_1 (by decide) (fun h1 => ?_) (fun h1 => ?_)
  · skip
    refine am_ic X (by decide) dX9_hand_32 ?_
    exact hret _ _ _ _ _ dX9_hand_33 rfl rfl (by first | exact ⟨rfl, Or.inl ⟨by omega, rfl, rfl⟩⟩)
  · skip
    refine am_aload_n (x := 0) X (by rfl) dX9_hand_4 ?_
    refine am_getr (c1 := 16) X 0 fl_X9_33 (by decide) sh_0 (by decide) (by rfl) dX9_hand_5 ?_
    refine am_iload_n (x := a) X (by rfl) dX9_hand_8 ?_
    refine am_bipush X (by decide) dX9_hand_9 ?_
    refine am_div (v := (a / 100)) X (by omega) (by omega) rfl dX9_hand_11 ?_
    refine am_callVi (ci := 4) X hY lk_X9_136 mf_X4_isDebt (m_X4_isDebt (a / 100) σ hc) (by decide) (by decide) (Nat.le_refl _) (Nat.le_refl _) sh_16 rfl rfl rfl (Nat.le_of_ble_eq_true rfl) dX9_hand_12 (fun r12 sh12 σ12 hr12 hp12 => ?_)
    obtain ⟨rfl, rfl, hq12⟩ := hp12
    refine am_if_eq (tgt := 32) X dX9_hand_15 (by decide) (fun h15 => ?_) (fun h15 => ?_)
    · skip
      refine am_ic X (by decide) dX9_hand_32 ?_
      exact hret _ _ _ _ _ dX9_hand_33 rfl rfl (by first | exact ⟨rfl, Or.inl ⟨by omega, rfl, rfl⟩⟩)
    · skip
      refine am_aload_n (x := 0) X (by rfl) dX9_hand_18 ?_
      refine am_getr (c1 := 16) X 0 fl_X9_33 (by decide) sh_0 (by decide) (by rfl) dX9_hand_19 ?_
      refine am_iload_n (x := a) X (by rfl) dX9_hand_22 ?_
      refine am_bipush X (by decide) dX9_hand_23 ?_
      refine am_rem (v := (a % 100)) X (by omega) (by omega) rfl dX9_hand_25 ?_
      refine am_callVi (ci := 4) X hY lk_X9_136 mf_X4_isDebt (m_X4_isDebt (a % 100) σ hc) (by decide) (by decide) (Nat.le_refl _) (Nat.le_refl _) sh_16 rfl rfl rfl (Nat.le_of_ble_eq_true rfl) dX9_hand_26 (fun r26 sh26 σ26 hr26 hp26 => ?_)
      obtain ⟨rfl, rfl, hq26⟩ := hp26
      refine am_if_ne (tgt := 34) X dX9_hand_29 (by decide) (fun h29 => ?_) (fun h29 => ?_)
      · skip
        refine am_aload_n (x := 0) X (by rfl) dX9_hand_34 ?_
        refine am_getr (c1 := 16) X 0 fl_X9_33 (by decide) sh_0 (by decide) (by rfl) dX9_hand_35 ?_
        refine am_iload_n (x := a) X (by rfl) dX9_hand_38 ?_
        refine am_bipush X (by decide) dX9_hand_39 ?_
        refine am_div (v := (a / 100)) X (by omega) (by omega) rfl dX9_hand_41 ?_
        refine am_iload_n (x := a) X (by rfl) dX9_hand_42 ?_
        refine am_bipush X (by decide) dX9_hand_43 ?_
        refine am_rem (v := (a % 100)) X (by omega) (by omega) rfl dX9_hand_45 ?_
        refine am_callVi (ci := 4) X hY lk_X9_240 mf_X4_handOn (m_X4_handOn (a / 100) (a % 100) (a / 100).toNat (a % 100).toNat (by omega) (by omega) σ hc hd (by omega)) (by decide) (by decide) (Nat.le_refl _) (Nat.le_refl _) sh_16 rfl rfl rfl (Nat.le_of_ble_eq_true rfl) dX9_hand_46 (fun r46 sh46 σ46 hr46 hp46 => ?_)
        obtain ⟨rfl, hq46⟩ := hp46
        refine am_if_eq (tgt := 56) X dX9_hand_49 (by decide) (fun h49 => ?_) (fun h49 => ?_)
        · skip
          refine am_bipush X (by decide) dX9_hand_56 ?_
          exact hret _ _ _ _ _ dX9_hand_58 rfl rfl (by rcases hq46 with ⟨h9, -, -⟩ | ⟨-, hc9, hs9⟩; exact absurd h9 (by omega); exact ⟨rfl, Or.inr (Or.inr ⟨by omega, hc9, rfl, hs9⟩)⟩)
        · skip
          refine am_ic X (by decide) dX9_hand_52 ?_
          refine am_goto (tgt := 58) X dX9_hand_53 (by decide) ?_
          exact hret _ _ _ _ _ dX9_hand_58 rfl rfl (by rcases hq46 with ⟨-, hc9, hs9⟩ | ⟨h9, -, -⟩; exact ⟨rfl, Or.inr (Or.inl ⟨by omega, hc9, rfl, hs9⟩)⟩; exact absurd h9 h49)
      · skip
        refine am_ic X (by decide) dX9_hand_32 ?_
        exact hret _ _ _ _ _ dX9_hand_33 rfl rfl (by first | exact ⟨rfl, Or.inl ⟨by omega, rfl, rfl⟩⟩)

set_option maxHeartbeats 4000000 in
set_option maxRecDepth 100000 in
theorem m_X9_runaway (a : Int) (σ : am_H) (hp : 0 ≤ σ 1 2 ∧ σ 1 2 ≤ 8) (hc : 0 ≤ σ 16 5 ∧ σ 16 5 ≤ 20) (hd : ∀ n : Nat, (n : Int) < σ 16 5 → 0 ≤ σ 19 n ∧ σ 19 n ≤ 9) : am_Mi yX9_runaway cX9_runaway 2 (some .int) 2 0 0 [vr 0, vi a] SH σ (fun r sh' σ' => SH = sh' ∧ ((¬ (0 ≤ a ∧ a < σ 1 2) ∧ r = -1 ∧ σ = σ') ∨ ((0 ≤ a ∧ a < σ 1 2) ∧ r = c_by σ a ∧ (led_drop a (σ 16 5).toNat σ) = σ'))) := by
  refine am_Mi_of (by decide +kernel) (Nat.le_of_ble_eq_true rfl) (fun K X hY hI hret => ?_)
  show am_G K 0 [some (vr 0), some (vi a)] [] SH σ
  refine am_aload_n (x := 0) X (by rfl) dX9_runaway_0 ?_
  refine am_getr (c1 := 1) X 0 fl_X9_10 (by decide) sh_0 (by decide) (by rfl) dX9_runaway_1 ?_
  refine am_iload_n (x := a) X (by rfl) dX9_runaway_4 ?_
  refine am_callVi (ci := 5) X hY lk_X9_143 mf_X6_isPerson (m_X6_isPerson a σ hp) (by decide) (by decide) (Nat.le_refl _) (Nat.le_refl _) sh_1 rfl rfl rfl (Nat.le_of_ble_eq_true rfl) dX9_runaway_5 (fun r5 sh5 σ5 hr5 hp5 => ?_)
  obtain ⟨rfl, rfl, hq5⟩ := hp5
  refine am_if_ne (tgt := 13) X dX9_runaway_8 (by decide) (fun h8 => ?_) (fun h8 => ?_)
  · skip
    refine am_aload_n (x := 0) X (by rfl) dX9_runaway_13 ?_
    refine am_getr (c1 := 16) X 0 fl_X9_33 (by decide) sh_0 (by decide) (by rfl) dX9_runaway_14 ?_
    refine am_iload_n (x := a) X (by rfl) dX9_runaway_17 ?_
    refine am_callVi (ci := 4) X hY lk_X9_246 mf_X4_dropAllBy (m_X4_dropAllBy a σ hc hd) (by decide) (by decide) (Nat.le_refl _) (Nat.le_refl _) sh_16 rfl rfl rfl (Nat.le_of_ble_eq_true rfl) dX9_runaway_18 (fun r18 sh18 σ18 hr18 hp18 => ?_)
    obtain ⟨rfl, rfl, hq18⟩ := hp18
    exact hret _ _ _ _ _ dX9_runaway_21 rfl rfl (by first | exact ⟨rfl, Or.inl ⟨by omega, by omega, rfl⟩⟩ | exact ⟨rfl, Or.inr (⟨by omega, by omega, rfl⟩)⟩ | exact ⟨rfl, Or.inr ⟨by omega, hq18, rfl⟩⟩)
  · skip
    refine am_ic X (by decide) dX9_runaway_11 ?_
    exact hret _ _ _ _ _ dX9_runaway_12 rfl rfl (by first | exact ⟨rfl, Or.inl ⟨by omega, by omega, rfl⟩⟩ | exact ⟨rfl, Or.inr (⟨by omega, by omega, rfl⟩)⟩ | exact ⟨rfl, Or.inr ⟨by omega, hq18, rfl⟩⟩)

set_option maxHeartbeats 4000000 in
set_option maxRecDepth 100000 in
theorem m_X9_heir (a : Int) (σ : am_H) (hp : 0 ≤ σ 1 2 ∧ σ 1 2 ≤ 8) (hc : 0 ≤ σ 16 5 ∧ σ 16 5 ≤ 20) (hd : ∀ n : Nat, (n : Int) < σ 16 5 → 0 ≤ σ 19 n ∧ σ 19 n ≤ 9) : am_Mi yX9_heir cX9_heir 2 (some .int) 4 0 0 [vr 0, vi a] SH σ (fun r sh' σ' => SH = sh' ∧ ((¬ c_pair σ a ∧ r = -1 ∧ σ = σ') ∨ (c_pair σ a ∧ r = am_sum (led_moved σ (a / 10) (a % 10)) (σ 16 5).toNat ∧ (led_inh (a / 10) (a % 10) (σ 16 5).toNat σ) = σ'))) := by
  refine am_Mi_of (by decide +kernel) (Nat.le_of_ble_eq_true rfl) (fun K X hY hI hret => ?_)
  show am_G K 0 [some (vr 0), some (vi a)] [] SH σ
  refine am_aload_n (x := 0) X (by rfl) dX9_heir_0 ?_
  refine am_getr (c1 := 1) X 0 fl_X9_10 (by decide) sh_0 (by decide) (by rfl) dX9_heir_1 ?_
  refine am_iload_n (x := a) X (by rfl) dX9_heir_4 ?_
  refine am_callVi (ci := 5) X hY lk_X9_87 mf_X6_isPair (m_X6_isPair a σ hp) (by decide) (by decide) (Nat.le_refl _) (Nat.le_refl _) sh_1 rfl rfl rfl (Nat.le_of_ble_eq_true rfl) dX9_heir_5 (fun r5 sh5 σ5 hr5 hp5 => ?_)
  obtain ⟨rfl, rfl, hq5⟩ := hp5
  refine am_if_ne (tgt := 13) X dX9_heir_8 (by decide) (fun h8 => ?_) (fun h8 => ?_)
  · skip
    refine am_aload_n (x := 0) X (by rfl) dX9_heir_13 ?_
    refine am_getr (c1 := 16) X 0 fl_X9_33 (by decide) sh_0 (by decide) (by rfl) dX9_heir_14 ?_
    refine am_iload_n (x := a) X (by rfl) dX9_heir_17 ?_
    refine am_bipush X (by decide) dX9_heir_18 ?_
    refine am_div (v := (a / 10)) X (by omega) (by omega) rfl dX9_heir_20 ?_
    refine am_iload_n (x := a) X (by rfl) dX9_heir_21 ?_
    refine am_bipush X (by decide) dX9_heir_22 ?_
    refine am_rem (v := (a % 10)) X (by omega) (by omega) rfl dX9_heir_24 ?_
    refine am_callVi (ci := 4) X hY lk_X9_249 mf_X4_inherit (m_X4_inherit (a / 10) (a % 10) σ hc hd) (by decide) (by decide) (Nat.le_refl _) (Nat.le_refl _) sh_16 rfl rfl rfl (Nat.le_of_ble_eq_true rfl) dX9_heir_25 (fun r25 sh25 σ25 hr25 hp25 => ?_)
    obtain ⟨rfl, rfl, hq25⟩ := hp25
    exact hret _ _ _ _ _ dX9_heir_28 rfl rfl (by first | exact ⟨rfl, Or.inl ⟨by omega, by omega, rfl⟩⟩ | exact ⟨rfl, Or.inr (⟨by omega, by omega, rfl⟩)⟩ | exact ⟨rfl, Or.inr ⟨by omega, hq13, rfl⟩⟩)
  · skip
    refine am_ic X (by decide) dX9_heir_11 ?_
    exact hret _ _ _ _ _ dX9_heir_12 rfl rfl (by first | exact ⟨rfl, Or.inl ⟨by omega, by omega, rfl⟩⟩ | exact ⟨rfl, Or.inr (⟨by omega, by omega, rfl⟩)⟩ | exact ⟨rfl, Or.inr ⟨by omega, hq13, rfl⟩⟩)

set_option maxHeartbeats 4000000 in
set_option maxRecDepth 100000 in
theorem m_X9_isThreeSo (d : Nat) (hd6 : d < 6) (j : Int) (hj : 0 ≤ j ∧ j ≤ 60) (σ : am_H) (hp : 0 ≤ σ 1 2 ∧ σ 1 2 ≤ 8) (hc : 0 ≤ σ 16 5 ∧ σ 16 5 ≤ 20) (hd : ∀ n : Nat, (n : Int) < σ 16 5 → 0 ≤ σ 19 n ∧ σ 19 n ≤ 9) (hl : 0 ≤ σ (51 + 2 * d) 3 ∧ σ (51 + 2 * d) 3 ≤ 60) (hv : ∀ j : Nat, (j : Int) < σ (51 + 2 * d) 3 → -32768 ≤ σ (52 + 2 * d) j ∧ σ (52 + 2 * d) j ≤ 32767) : am_Mi yX9_isThreeSo cX9_isThreeSo 6 (some .boolean) 3 0 0 [vr 0, vr (51 + 2 * d), vi j] SH σ (fun r sh' σ' => SH = sh' ∧ σ = σ' ∧ am_b r ((¬ j + 2 ≥ σ (51 + 2 * d) 3 ∧ ((0 ≤ σ (52 + 2 * d) j.toNat ∧ σ (52 + 2 * d) j.toNat < σ 1 2) ∧ (0 ≤ σ (52 + 2 * d) (j + 1).toNat ∧ σ (52 + 2 * d) (j + 1).toNat < σ 1 2) ∧ σ (52 + 2 * d) j.toNat ≠ σ (52 + 2 * d) (j + 1).toNat) ∧ (σ (52 + 2 * d) (j + 2).toNat = -1 ∨ σ (52 + 2 * d) (j + 2).toNat = c_owed σ (σ (52 + 2 * d) j.toNat) (σ (52 + 2 * d) (j + 1).toNat))))) := by
  refine am_Mz_of (by decide +kernel) (Nat.le_of_ble_eq_true rfl) (fun K X hY hI hret => ?_)
  show am_G K 0 [some (vr 0), some (vr (51 + 2 * d)), some (vi j), none, none, none] [] SH σ
  refine am_iload_n (x := j) X (by rfl) dX9_isThreeSo_0 ?_
  refine am_ic X (by decide) dX9_isThreeSo_1 ?_
  refine am_add (v := (j + 2)) X (by first | rfl | omega) (by omega) dX9_isThreeSo_2 ?_
  refine am_aload_n (x := (51 + 2 * d)) X (by rfl) dX9_isThreeSo_3 ?_
  refine am_get (v := σ (51 + 2 * d) 3) X (51 + 2 * d) fl_X9_252 (by decide) (sh_sf hd6) (by decide) (rfl) dX9_isThreeSo_4 ?_
  refine am_icmp_lt (tgt := 12) X dX9_isThreeSo_7 (by decide) (fun h7 => ?_) (fun h7 => ?_)
  · skip
    refine am_aload_n (x := (51 + 2 * d)) X (by rfl) dX9_isThreeSo_12 ?_
    refine am_iload_n (x := j) X (by rfl) dX9_isThreeSo_13 ?_
    refine am_callVi (ci := 6) X hY lk_X9_259 mf_X7_number (m_X7_number d (by omega) j ((j).toNat) (by omega) (by omega) σ (hv _ (by omega))) (by decide) (by decide) (Nat.le_refl _) (Nat.le_refl _) (sh_sf hd6) rfl rfl rfl (Nat.le_of_ble_eq_true rfl) dX9_isThreeSo_14 (fun r14 sh14 σ14 hr14 hp14 => ?_)
    obtain ⟨rfl, rfl, hq14⟩ := hp14
    refine am_istore_n (i := 3) (L' := [some (vr 0), some (vr (51 + 2 * d)), some (vi j), some (vi r14), none, none]) X rfl (Nat.le_of_ble_eq_true rfl) (by rfl) dX9_isThreeSo_17 ?_
    refine am_aload_n (x := (51 + 2 * d)) X (by rfl) dX9_isThreeSo_18 ?_
    refine am_iload_n (x := j) X (by rfl) dX9_isThreeSo_19 ?_
    refine am_ic X (by decide) dX9_isThreeSo_20 ?_
    refine am_add (v := (j + 1)) X (by first | rfl | omega) (by omega) dX9_isThreeSo_21 ?_
    refine am_callVi (ci := 6) X hY lk_X9_259 mf_X7_number (m_X7_number d (by omega) (j + 1) (((j + 1)).toNat) (by omega) (by omega) σ (hv _ (by omega))) (by decide) (by decide) (Nat.le_refl _) (Nat.le_refl _) (sh_sf hd6) rfl rfl rfl (Nat.le_of_ble_eq_true rfl) dX9_isThreeSo_22 (fun r22 sh22 σ22 hr22 hp22 => ?_)
    obtain ⟨rfl, rfl, hq22⟩ := hp22
    refine am_istore (i := 4) (L' := [some (vr 0), some (vr (51 + 2 * d)), some (vi j), some (vi r14), some (vi r22), none]) X (Nat.le_of_ble_eq_true rfl) (by rfl) dX9_isThreeSo_25 ?_
    refine am_aload_n (x := (51 + 2 * d)) X (by rfl) dX9_isThreeSo_27 ?_
    refine am_iload_n (x := j) X (by rfl) dX9_isThreeSo_28 ?_
    refine am_ic X (by decide) dX9_isThreeSo_29 ?_
    refine am_add (v := (j + 2)) X (by first | rfl | omega) (by omega) dX9_isThreeSo_30 ?_
    refine am_callVi (ci := 6) X hY lk_X9_259 mf_X7_number (m_X7_number d (by omega) (j + 2) (((j + 2)).toNat) (by omega) (by omega) σ (hv _ (by omega))) (by decide) (by decide) (Nat.le_refl _) (Nat.le_refl _) (sh_sf hd6) rfl rfl rfl (Nat.le_of_ble_eq_true rfl) dX9_isThreeSo_31 (fun r31 sh31 σ31 hr31 hp31 => ?_)
    obtain ⟨rfl, rfl, hq31⟩ := hp31
    refine am_istore (i := 5) (L' := [some (vr 0), some (vr (51 + 2 * d)), some (vi j), some (vi r14), some (vi r22), some (vi r31)]) X (Nat.le_of_ble_eq_true rfl) (by rfl) dX9_isThreeSo_34 ?_
    refine am_aload_n (x := 0) X (by rfl) dX9_isThreeSo_36 ?_
    refine am_getr (c1 := 1) X 0 fl_X9_10 (by decide) sh_0 (by decide) (by rfl) dX9_isThreeSo_37 ?_
    refine am_iload_n (x := r14) X (by rfl) dX9_isThreeSo_40 ?_
    refine am_iload (x := r22) X (by rfl) dX9_isThreeSo_41 ?_
    refine am_callVi (ci := 5) X hY lk_X9_355 mf_X6_areUnlike (m_X6_areUnlike r14 r22 σ hp) (by decide) (by decide) (Nat.le_refl _) (Nat.le_refl _) sh_1 rfl rfl rfl (Nat.le_of_ble_eq_true rfl) dX9_isThreeSo_43 (fun r43 sh43 σ43 hr43 hp43 => ?_)
    obtain ⟨rfl, rfl, hq43⟩ := hp43
    refine am_if_eq (tgt := 74) X dX9_isThreeSo_46 (by decide) (fun h46 => ?_) (fun h46 => ?_)
    · skip
      refine am_ic X (by decide) dX9_isThreeSo_74 ?_
      exact hret _ _ _ _ _ dX9_isThreeSo_75 rfl rfl (by (try subst hq14); (try subst hq22); (try subst hq31); (try unfold c_owed); first | exact ⟨rfl, rfl, am_bt (by omega)⟩ | exact ⟨rfl, rfl, am_bf (by omega)⟩) (by first | exact Or.inl rfl | exact Or.inr rfl | omega)
    · skip
      refine am_iload (x := r31) X (by rfl) dX9_isThreeSo_49 ?_
      refine am_ic X (by decide) dX9_isThreeSo_51 ?_
      refine am_icmp_eq (tgt := 70) X dX9_isThreeSo_52 (by decide) (fun h52 => ?_) (fun h52 => ?_)
      · skip
        refine am_ic X (by decide) dX9_isThreeSo_70 ?_
        refine am_goto (tgt := 75) X dX9_isThreeSo_71 (by decide) ?_
        exact hret _ _ _ _ _ dX9_isThreeSo_75 rfl rfl (by (try subst hq14); (try subst hq22); (try subst hq31); (try unfold c_owed); first | exact ⟨rfl, rfl, am_bt (by omega)⟩ | exact ⟨rfl, rfl, am_bf (by omega)⟩) (by first | exact Or.inl rfl | exact Or.inr rfl | omega)
      · skip
        refine am_iload (x := r31) X (by rfl) dX9_isThreeSo_55 ?_
        refine am_aload_n (x := 0) X (by rfl) dX9_isThreeSo_57 ?_
        refine am_getr (c1 := 16) X 0 fl_X9_33 (by decide) sh_0 (by decide) (by rfl) dX9_isThreeSo_58 ?_
        refine am_iload_n (x := r14) X (by rfl) dX9_isThreeSo_61 ?_
        refine am_iload (x := r22) X (by rfl) dX9_isThreeSo_62 ?_
        refine am_callVi (ci := 4) X hY lk_X9_149 mf_X4_owed (m_X4_owed r14 r22 σ hc hd) (by decide) (by decide) (Nat.le_refl _) (Nat.le_refl _) sh_16 rfl rfl rfl (Nat.le_of_ble_eq_true rfl) dX9_isThreeSo_64 (fun r64 sh64 σ64 hr64 hp64 => ?_)
        obtain ⟨rfl, rfl, hq64⟩ := hp64
        refine am_icmp_ne (tgt := 74) X dX9_isThreeSo_67 (by decide) (fun h67 => ?_) (fun h67 => ?_)
        · skip
          refine am_ic X (by decide) dX9_isThreeSo_74 ?_
          exact hret _ _ _ _ _ dX9_isThreeSo_75 rfl rfl (by (try subst hq14); (try subst hq22); (try subst hq31); (try unfold c_owed); first | exact ⟨rfl, rfl, am_bt (by omega)⟩ | exact ⟨rfl, rfl, am_bf (by omega)⟩) (by first | exact Or.inl rfl | exact Or.inr rfl | omega)
        · skip
          refine am_ic X (by decide) dX9_isThreeSo_70 ?_
          refine am_goto (tgt := 75) X dX9_isThreeSo_71 (by decide) ?_
          exact hret _ _ _ _ _ dX9_isThreeSo_75 rfl rfl (by (try subst hq14); (try subst hq22); (try subst hq31); (try unfold c_owed); first | exact ⟨rfl, rfl, am_bt (by omega)⟩ | exact ⟨rfl, rfl, am_bf (by omega)⟩) (by first | exact Or.inl rfl | exact Or.inr rfl | omega)
  · skip
    refine am_ic X (by decide) dX9_isThreeSo_10 ?_
    exact hret _ _ _ _ _ dX9_isThreeSo_11 rfl rfl (by (try subst hq14); (try subst hq22); (try subst hq31); (try unfold c_owed); first | exact ⟨rfl, rfl, am_bt (by omega)⟩ | exact ⟨rfl, rfl, am_bf (by omega)⟩) (by first | exact Or.inl rfl | exact Or.inr rfl | omega)

set_option maxHeartbeats 4000000 in
set_option maxRecDepth 100000 in
theorem m_X9_body (a : Int) (σ : am_H) (hb : 0 ≤ σ 46 2 ∧ σ 46 2 ≤ 50) : am_Mi yX9_body cX9_body 2 (some .int) 1 0 0 [vr 0, vi a] SH σ (fun r sh' σ' => SH = sh' ∧ ((¬ (0 ≤ a ∧ a ≤ 7) ∧ r = -1 ∧ σ = σ') ∨ (((0 ≤ a ∧ a ≤ 7) ∧ σ 46 2 = 50) ∧ r = -3 ∧ σ = σ') ∨ (((0 ≤ a ∧ a ≤ 7) ∧ σ 46 2 < 50) ∧ r = σ 46 2 ∧ (bd_add σ a) = σ'))) := by
  refine am_Mi_of (by decide +kernel) (Nat.le_of_ble_eq_true rfl) (fun K X hY hI hret => ?_)
  show am_G K 0 [some (vr 0), some (vi a)] [] SH σ
  refine am_iload_n (x := a) X (by rfl) dX9_body_0 ?_
  refine am_ic X (by decide) dX9_body_1 ?_
  refine am_bipush X (by decide) dX9_body_2 ?_
  refine am_callSi X hY lk_X9_75 mf_X9_within (m_X9_within a 0 7 _ σ) (by decide) (by decide) (Nat.le_refl _) (Nat.le_refl _) rfl rfl (Nat.le_of_ble_eq_true rfl) dX9_body_4 (fun r4 sh4 σ4 hr4 hp4 => ?_)
  obtain ⟨rfl, rfl, hq4⟩ := hp4
  refine am_if_ne (tgt := 12) X dX9_body_7 (by decide) (fun h7 => ?_) (fun h7 => ?_)
  · skip
    refine am_aload_n (x := 0) X (by rfl) dX9_body_12 ?_
    refine am_getr (c1 := 46) X 0 fl_X9_60 (by decide) sh_0 (by decide) (by rfl) dX9_body_13 ?_
    refine am_get (v := σ 46 2) X 46 fl_X9_286 (by decide) sh_46 (by decide) (rfl) dX9_body_16 ?_
    refine am_bipush X (by decide) dX9_body_19 ?_
    refine am_icmp_lt (tgt := 27) X dX9_body_21 (by decide) (fun h21 => ?_) (fun h21 => ?_)
    · skip
      refine am_aload_n (x := 0) X (by rfl) dX9_body_27 ?_
      refine am_getr (c1 := 46) X 0 fl_X9_60 (by decide) sh_0 (by decide) (by rfl) dX9_body_28 ?_
      refine am_iload_n (x := a) X (by rfl) dX9_body_31 ?_
      refine am_callVi (ci := 0) X hY lk_X9_287 mf_X0_add (m_X0_add a σ (by omega)) (by decide) (by decide) (Nat.le_refl _) (Nat.le_refl _) sh_46 rfl rfl rfl (Nat.le_of_ble_eq_true rfl) dX9_body_32 (fun r32 sh32 σ32 hr32 hp32 => ?_)
      obtain ⟨rfl, rfl, hq32⟩ := hp32
      exact hret _ _ _ _ _ dX9_body_35 rfl rfl (by first | exact ⟨rfl, Or.inl ⟨by omega, by omega, rfl⟩⟩ | exact ⟨rfl, Or.inr (Or.inl ⟨by omega, by omega, rfl⟩)⟩ | exact ⟨rfl, Or.inr (Or.inr (⟨by omega, by omega, rfl⟩))⟩)
    · skip
      refine am_bipush X (by decide) dX9_body_24 ?_
      exact hret _ _ _ _ _ dX9_body_26 rfl rfl (by first | exact ⟨rfl, Or.inl ⟨by omega, by omega, rfl⟩⟩ | exact ⟨rfl, Or.inr (Or.inl ⟨by omega, by omega, rfl⟩)⟩ | exact ⟨rfl, Or.inr (Or.inr (⟨by omega, by omega, rfl⟩))⟩)
  · skip
    refine am_ic X (by decide) dX9_body_10 ?_
    exact hret _ _ _ _ _ dX9_body_11 rfl rfl (by first | exact ⟨rfl, Or.inl ⟨by omega, by omega, rfl⟩⟩ | exact ⟨rfl, Or.inr (Or.inl ⟨by omega, by omega, rfl⟩)⟩ | exact ⟨rfl, Or.inr (Or.inr (⟨by omega, by omega, rfl⟩))⟩)

set_option maxHeartbeats 4000000 in
set_option maxRecDepth 100000 in
theorem m_X9_trace (a : Int) (σ : am_H) (hr : 0 ≤ σ 46 3 ∧ σ 46 3 ≤ 1000) : am_Mi yX9_trace cX9_trace 2 (some .int) 1 0 0 [vr 0, vi a] SH σ (fun r sh' σ' => SH = sh' ∧ σ = σ' ∧ r = (if 0 ≤ a ∧ a < σ 46 3 ∧ a < 24 then σ 48 a.toNat else -1)) := by
  refine am_Mi_of (by decide +kernel) (Nat.le_of_ble_eq_true rfl) (fun K X hY hI hret => ?_)
  show am_G K 0 [some (vr 0), some (vi a)] [] SH σ
  refine am_iload_n (x := a) X (by rfl) dX9_trace_0 ?_
  refine am_ic X (by decide) dX9_trace_1 ?_
  refine am_aload_n (x := 0) X (by rfl) dX9_trace_2 ?_
  refine am_getr (c1 := 46) X 0 fl_X9_60 (by decide) sh_0 (by decide) (by rfl) dX9_trace_3 ?_
  refine am_get (v := σ 46 3) X 46 fl_X9_289 (by decide) sh_46 (by decide) (rfl) dX9_trace_6 ?_
  refine am_bipush X (by decide) dX9_trace_9 ?_
  refine am_mmin X hY lk_X9_298 (by decide) (Nat.le_add_right _ _) (Nat.le_add_right _ _) (Nat.le_of_ble_eq_true rfl) dX9_trace_11 ?_
  refine am_topi (fun y11 hy11 => ?_)
  refine am_ic X (by decide) dX9_trace_14 ?_
  refine am_sub (v := (y11 - 1)) X (by first | rfl | omega) (by omega) dX9_trace_15 ?_
  refine am_callSi X hY lk_X9_75 mf_X9_within (m_X9_within a 0 (y11 - 1) _ σ) (by decide) (by decide) (Nat.le_refl _) (Nat.le_refl _) rfl rfl (Nat.le_of_ble_eq_true rfl) dX9_trace_16 (fun r16 sh16 σ16 hr16 hp16 => ?_)
  obtain ⟨rfl, rfl, hq16⟩ := hp16
  refine am_if_ne (tgt := 24) X dX9_trace_19 (by decide) (fun h19 => ?_) (fun h19 => ?_)
  · skip
    refine am_aload_n (x := 0) X (by rfl) dX9_trace_24 ?_
    refine am_getr (c1 := 46) X 0 fl_X9_60 (by decide) sh_0 (by decide) (by rfl) dX9_trace_25 ?_
    refine am_getr (c1 := 48) X 46 fl_X9_303 (by decide) sh_46 (by decide) (by rfl) dX9_trace_28 ?_
    refine am_iload_n (x := a) X (by rfl) dX9_trace_31 ?_
    refine am_ald (v := σ 48 ((a).toNat)) X 48 (a).toNat sh_48 (by omega) (by omega) (rfl) dX9_trace_32 ?_
    exact hret _ _ _ _ _ dX9_trace_33 rfl rfl (by refine ⟨rfl, rfl, ?_⟩; (repeat' split) <;> first | omega | assumption)
  · skip
    refine am_ic X (by decide) dX9_trace_22 ?_
    exact hret _ _ _ _ _ dX9_trace_23 rfl rfl (by refine ⟨rfl, rfl, ?_⟩; (repeat' split) <;> first | omega | assumption)

set_option maxHeartbeats 4000000 in
set_option maxRecDepth 100000 in
theorem m_X9_keep (a b : Int) (σ : am_H) (hb : 0 ≤ σ 46 2 ∧ σ 46 2 ≤ 50) : am_Mi yX9_keep cX9_keep 3 (some .int) 2 0 0 [vr 0, vi a, vi b] SH σ (fun r sh' σ' => SH = sh' ∧ ((¬ ((0 ≤ a ∧ a ≤ 5) ∧ (b = -1 ∨ (0 ≤ b ∧ b < σ 46 2))) ∧ r = -1 ∧ σ = σ') ∨ (((0 ≤ a ∧ a ≤ 5) ∧ (b = -1 ∨ (0 ≤ b ∧ b < σ 46 2))) ∧ r = 1 ∧ (sf_day σ (51 + 2 * a.toNat) b) = σ'))) := by
  refine am_Mi_of (by decide +kernel) (Nat.le_of_ble_eq_true rfl) (fun K X hY hI hret => ?_)
  show am_G K 0 [some (vr 0), some (vi a), some (vi b)] [] SH σ
  refine am_iload_n (x := a) X (by rfl) dX9_keep_0 ?_
  refine am_callSi X hY lk_X9_102 mf_X9_isShelf (m_X9_isShelf a _ σ) (by decide) (by decide) (Nat.le_refl _) (Nat.le_refl _) rfl rfl (Nat.le_of_ble_eq_true rfl) dX9_keep_1 (fun r1 sh1 σ1 hr1 hp1 => ?_)
  obtain ⟨rfl, rfl, hq1⟩ := hp1
  refine am_if_eq (tgt := 23) X dX9_keep_4 (by decide) (fun h4 => ?_) (fun h4 => ?_)
  · skip
    refine am_ic X (by decide) dX9_keep_23 ?_
    exact hret _ _ _ _ _ dX9_keep_24 rfl rfl (by first | exact ⟨rfl, Or.inl ⟨by omega, by omega, rfl⟩⟩ | exact ⟨rfl, Or.inr (⟨by omega, by omega, rfl⟩)⟩)
  · skip
    refine am_iload_n (x := b) X (by rfl) dX9_keep_7 ?_
    refine am_ic X (by decide) dX9_keep_8 ?_
    refine am_icmp_eq (tgt := 25) X dX9_keep_9 (by decide) (fun h9 => ?_) (fun h9 => ?_)
    · skip
      refine am_aload_n (x := 0) X (by rfl) dX9_keep_25 ?_
      refine am_getr (c1 := 49) X 0 fl_X9_66 (by decide) sh_0 (by decide) (by rfl) dX9_keep_26 ?_
      refine am_iload_n (x := a) X (by rfl) dX9_keep_29 ?_
      refine am_aald (c1 := (51 + 2 * a.toNat)) X 49 sh_49 (by omega) (by omega) (sh_sv (by omega)) dX9_keep_30 ?_
      refine am_iload_n (x := b) X (by rfl) dX9_keep_31 ?_
      refine am_callVv (ci := 6) X hY lk_X9_306 mf_X7_holdDay (m_X7_holdDay a.toNat (by omega) b σ) (by decide) (by decide) (Nat.le_refl _) (Nat.le_refl _) (sh_sf (by omega)) rfl rfl rfl (Nat.le_of_ble_eq_true rfl) dX9_keep_32 (fun sh32 σ32 hp32 => ?_)
      obtain ⟨rfl, rfl, hq32⟩ := hp32
      refine am_ic X (by decide) dX9_keep_35 ?_
      exact hret _ _ _ _ _ dX9_keep_36 rfl rfl (by first | exact ⟨rfl, Or.inl ⟨by omega, by omega, rfl⟩⟩ | exact ⟨rfl, Or.inr (⟨by omega, by omega, rfl⟩)⟩)
    · skip
      refine am_aload_n (x := 0) X (by rfl) dX9_keep_12 ?_
      refine am_getr (c1 := 46) X 0 fl_X9_60 (by decide) sh_0 (by decide) (by rfl) dX9_keep_13 ?_
      refine am_iload_n (x := b) X (by rfl) dX9_keep_16 ?_
      refine am_callVi (ci := 0) X hY lk_X9_292 mf_X0_isBody (m_X0_isBody b σ (by omega)) (by decide) (by decide) (Nat.le_refl _) (Nat.le_refl _) sh_46 rfl rfl rfl (Nat.le_of_ble_eq_true rfl) dX9_keep_17 (fun r17 sh17 σ17 hr17 hp17 => ?_)
      obtain ⟨rfl, rfl, hq17⟩ := hp17
      refine am_if_ne (tgt := 25) X dX9_keep_20 (by decide) (fun h20 => ?_) (fun h20 => ?_)
      · skip
        refine am_aload_n (x := 0) X (by rfl) dX9_keep_25 ?_
        refine am_getr (c1 := 49) X 0 fl_X9_66 (by decide) sh_0 (by decide) (by rfl) dX9_keep_26 ?_
        refine am_iload_n (x := a) X (by rfl) dX9_keep_29 ?_
        refine am_aald (c1 := (51 + 2 * a.toNat)) X 49 sh_49 (by omega) (by omega) (sh_sv (by omega)) dX9_keep_30 ?_
        refine am_iload_n (x := b) X (by rfl) dX9_keep_31 ?_
        refine am_callVv (ci := 6) X hY lk_X9_306 mf_X7_holdDay (m_X7_holdDay a.toNat (by omega) b σ) (by decide) (by decide) (Nat.le_refl _) (Nat.le_refl _) (sh_sf (by omega)) rfl rfl rfl (Nat.le_of_ble_eq_true rfl) dX9_keep_32 (fun sh32 σ32 hp32 => ?_)
        obtain ⟨rfl, rfl, hq32⟩ := hp32
        refine am_ic X (by decide) dX9_keep_35 ?_
        exact hret _ _ _ _ _ dX9_keep_36 rfl rfl (by first | exact ⟨rfl, Or.inl ⟨by omega, by omega, rfl⟩⟩ | exact ⟨rfl, Or.inr (⟨by omega, by omega, rfl⟩)⟩)
      · skip
        refine am_ic X (by decide) dX9_keep_23 ?_
        exact hret _ _ _ _ _ dX9_keep_24 rfl rfl (by first | exact ⟨rfl, Or.inl ⟨by omega, by omega, rfl⟩⟩ | exact ⟨rfl, Or.inr (⟨by omega, by omega, rfl⟩)⟩)

set_option maxHeartbeats 4000000 in
set_option maxRecDepth 100000 in
theorem m_X9_row (a b c : Int) (σ : am_H) : am_Mi yX9_row cX9_row 4 (some .int) 2 0 0 [vr 0, vi a, vi b, vi c] SH σ (fun r sh' σ' => SH = sh' ∧ ((¬ ((0 ≤ a ∧ a ≤ 5) ∧ (0 ≤ b ∧ b ≤ 4) ∧ c ≤ 60) ∧ r = -1 ∧ σ = σ') ∨ ((((0 ≤ a ∧ a ≤ 5) ∧ (0 ≤ b ∧ b ≤ 4) ∧ c ≤ 60) ∧ c < 0) ∧ r = -14 ∧ σ = σ') ∨ ((((0 ≤ a ∧ a ≤ 5) ∧ (0 ≤ b ∧ b ≤ 4) ∧ c ≤ 60) ∧ 0 ≤ c) ∧ r = 1 ∧ (sf_row σ (51 + 2 * a.toNat) (52 + 2 * a.toNat) b c) = σ'))) := by
  refine am_Mi_of (by decide +kernel) (Nat.le_of_ble_eq_true rfl) (fun K X hY hI hret => ?_)
  show am_G K 0 [some (vr 0), some (vi a), some (vi b), some (vi c)] [] SH σ
  refine am_iload_n (x := a) X (by rfl) dX9_row_0 ?_
  refine am_callSi X hY lk_X9_102 mf_X9_isShelf (m_X9_isShelf a _ σ) (by decide) (by decide) (Nat.le_refl _) (Nat.le_refl _) rfl rfl (Nat.le_of_ble_eq_true rfl) dX9_row_1 (fun r1 sh1 σ1 hr1 hp1 => ?_)
  obtain ⟨rfl, rfl, hq1⟩ := hp1
  refine am_if_eq (tgt := 22) X dX9_row_4 (by decide) (fun h4 => ?_) (fun h4 => ?_)
  · skip
    refine am_ic X (by decide) dX9_row_22 ?_
    exact hret _ _ _ _ _ dX9_row_23 rfl rfl (by first | exact ⟨rfl, Or.inl ⟨by omega, by omega, rfl⟩⟩ | exact ⟨rfl, Or.inr (Or.inl ⟨by omega, by omega, rfl⟩)⟩ | exact ⟨rfl, Or.inr (Or.inr (⟨by omega, by omega, rfl⟩))⟩)
  · skip
    refine am_iload_n (x := b) X (by rfl) dX9_row_7 ?_
    refine am_ic X (by decide) dX9_row_8 ?_
    refine am_ic X (by decide) dX9_row_9 ?_
    refine am_callSi X hY lk_X9_75 mf_X9_within (m_X9_within b 0 4 _ σ) (by decide) (by decide) (Nat.le_refl _) (Nat.le_refl _) rfl rfl (Nat.le_of_ble_eq_true rfl) dX9_row_10 (fun r10 sh10 σ10 hr10 hp10 => ?_)
    obtain ⟨rfl, rfl, hq10⟩ := hp10
    refine am_if_eq (tgt := 22) X dX9_row_13 (by decide) (fun h13 => ?_) (fun h13 => ?_)
    · skip
      refine am_ic X (by decide) dX9_row_22 ?_
      exact hret _ _ _ _ _ dX9_row_23 rfl rfl (by first | exact ⟨rfl, Or.inl ⟨by omega, by omega, rfl⟩⟩ | exact ⟨rfl, Or.inr (Or.inl ⟨by omega, by omega, rfl⟩)⟩ | exact ⟨rfl, Or.inr (Or.inr (⟨by omega, by omega, rfl⟩))⟩)
    · skip
      refine am_iload_n (x := c) X (by rfl) dX9_row_16 ?_
      refine am_bipush X (by decide) dX9_row_17 ?_
      refine am_icmp_le (tgt := 24) X dX9_row_19 (by decide) (fun h19 => ?_) (fun h19 => ?_)
      · skip
        refine am_iload_n (x := c) X (by rfl) dX9_row_24 ?_
        refine am_if_ge (tgt := 31) X dX9_row_25 (by decide) (fun h25 => ?_) (fun h25 => ?_)
        · skip
          refine am_aload_n (x := 0) X (by rfl) dX9_row_31 ?_
          refine am_getr (c1 := 49) X 0 fl_X9_66 (by decide) sh_0 (by decide) (by rfl) dX9_row_32 ?_
          refine am_iload_n (x := a) X (by rfl) dX9_row_35 ?_
          refine am_aald (c1 := (51 + 2 * a.toNat)) X 49 sh_49 (by omega) (by omega) (sh_sv (by omega)) dX9_row_36 ?_
          refine am_iload_n (x := b) X (by rfl) dX9_row_37 ?_
          refine am_iload_n (x := c) X (by rfl) dX9_row_38 ?_
          refine am_callVv (ci := 6) X hY lk_X9_310 mf_X7_holdRow (m_X7_holdRow a.toNat (by omega) b c (by omega) σ) (by decide) (by decide) (Nat.le_refl _) (Nat.le_refl _) (sh_sf (by omega)) rfl rfl rfl (Nat.le_of_ble_eq_true rfl) dX9_row_39 (fun sh39 σ39 hp39 => ?_)
          obtain ⟨rfl, rfl, hq39⟩ := hp39
          refine am_ic X (by decide) dX9_row_42 ?_
          exact hret _ _ _ _ _ dX9_row_43 rfl rfl (by first | exact ⟨rfl, Or.inl ⟨by omega, by omega, rfl⟩⟩ | exact ⟨rfl, Or.inr (Or.inl ⟨by omega, by omega, rfl⟩)⟩ | exact ⟨rfl, Or.inr (Or.inr (⟨by omega, by omega, rfl⟩))⟩)
        · skip
          refine am_bipush X (by decide) dX9_row_28 ?_
          exact hret _ _ _ _ _ dX9_row_30 rfl rfl (by first | exact ⟨rfl, Or.inl ⟨by omega, by omega, rfl⟩⟩ | exact ⟨rfl, Or.inr (Or.inl ⟨by omega, by omega, rfl⟩)⟩ | exact ⟨rfl, Or.inr (Or.inr (⟨by omega, by omega, rfl⟩))⟩)
      · skip
        refine am_ic X (by decide) dX9_row_22 ?_
        exact hret _ _ _ _ _ dX9_row_23 rfl rfl (by first | exact ⟨rfl, Or.inl ⟨by omega, by omega, rfl⟩⟩ | exact ⟨rfl, Or.inr (Or.inl ⟨by omega, by omega, rfl⟩)⟩ | exact ⟨rfl, Or.inr (Or.inr (⟨by omega, by omega, rfl⟩))⟩)

set_option maxHeartbeats 4000000 in
set_option maxRecDepth 100000 in
theorem m_X9_refusalOfElement (a i : Int) (σ : am_H) (hs : ShV σ) : am_Mi yX9_refusalOfElement cX9_refusalOfElement 4 (some .int) 2 0 0 [vr 0, vi a, vi i] SH σ (fun r sh' σ' => SH = sh' ∧ σ = σ' ∧ r = c_refusal σ a i) := by
  refine am_Mi_of (by decide +kernel) (Nat.le_of_ble_eq_true rfl) (fun K X hY hI hret => ?_)
  show am_G K 0 [some (vr 0), some (vi a), some (vi i), none] [] SH σ
  refine am_iload_n (x := a) X (by rfl) dX9_refusalOfElement_0 ?_
  refine am_callSi X hY lk_X9_102 mf_X9_isShelf (m_X9_isShelf a _ σ) (by decide) (by decide) (Nat.le_refl _) (Nat.le_refl _) rfl rfl (Nat.le_of_ble_eq_true rfl) dX9_refusalOfElement_1 (fun r1 sh1 σ1 hr1 hp1 => ?_)
  obtain ⟨rfl, rfl, hq1⟩ := hp1
  refine am_if_ne (tgt := 9) X dX9_refusalOfElement_4 (by decide) (fun h4 => ?_) (fun h4 => ?_)
  · skip
    refine am_aload_n (x := 0) X (by rfl) dX9_refusalOfElement_9 ?_
    refine am_getr (c1 := 49) X 0 fl_X9_66 (by decide) sh_0 (by decide) (by rfl) dX9_refusalOfElement_10 ?_
    refine am_iload_n (x := a) X (by rfl) dX9_refusalOfElement_13 ?_
    refine am_aald (c1 := (51 + 2 * a.toNat)) X 49 sh_49 (by omega) (by omega) (sh_sv (by omega)) dX9_refusalOfElement_14 ?_
    refine am_astore_n (i := 3) (L' := [some (vr 0), some (vi a), some (vi i), some (vr (51 + 2 * a.toNat))]) X rfl (Nat.le_of_ble_eq_true rfl) (by rfl) dX9_refusalOfElement_15 ?_
    have hsl := (hs a.toNat (by omega)).2.2.1
    refine am_aload_n (x := (51 + 2 * a.toNat)) X (by rfl) dX9_refusalOfElement_16 ?_
    refine am_callVi (ci := 6) X hY lk_X9_105 mf_X7_holdsNothing (m_X7_holdsNothing a.toNat (by omega) σ) (by decide) (by decide) (Nat.le_refl _) (Nat.le_refl _) (sh_sf (by omega)) rfl rfl rfl (Nat.le_of_ble_eq_true rfl) dX9_refusalOfElement_17 (fun r17 sh17 σ17 hr17 hp17 => ?_)
    obtain ⟨rfl, rfl, hq17⟩ := hp17
    refine am_if_eq (tgt := 26) X dX9_refusalOfElement_20 (by decide) (fun h20 => ?_) (fun h20 => ?_)
    · skip
      refine am_aload_n (x := (51 + 2 * a.toNat)) X (by rfl) dX9_refusalOfElement_26 ?_
      refine am_callVi (ci := 6) X hY lk_X9_329 mf_X7_holdsRow (m_X7_holdsRow a.toNat (by omega) σ) (by decide) (by decide) (Nat.le_refl _) (Nat.le_refl _) (sh_sf (by omega)) rfl rfl rfl (Nat.le_of_ble_eq_true rfl) dX9_refusalOfElement_27 (fun r27 sh27 σ27 hr27 hp27 => ?_)
      obtain ⟨rfl, rfl, hq27⟩ := hp27
      refine am_if_ne (tgt := 36) X dX9_refusalOfElement_30 (by decide) (fun h30 => ?_) (fun h30 => ?_)
      · skip
        refine am_aload_n (x := (51 + 2 * a.toNat)) X (by rfl) dX9_refusalOfElement_36 ?_
        refine am_iload_n (x := i) X (by rfl) dX9_refusalOfElement_37 ?_
        refine am_ic X (by decide) dX9_refusalOfElement_38 ?_
        refine am_callVi (ci := 6) X hY lk_X9_332 mf_X7_hasPlaces (m_X7_hasPlaces a.toNat (by omega) i 1 σ (by omega)) (by decide) (by decide) (Nat.le_refl _) (Nat.le_refl _) (sh_sf (by omega)) rfl rfl rfl (Nat.le_of_ble_eq_true rfl) dX9_refusalOfElement_39 (fun r39 sh39 σ39 hr39 hp39 => ?_)
        obtain ⟨rfl, rfl, hq39⟩ := hp39
        refine am_if_eq (tgt := 49) X dX9_refusalOfElement_42 (by decide) (fun h42 => ?_) (fun h42 => ?_)
        · skip
          refine am_bipush X (by decide) dX9_refusalOfElement_49 ?_
          exact hret _ _ _ _ _ dX9_refusalOfElement_51 rfl rfl (by refine ⟨rfl, rfl, ?_⟩; unfold c_refusal; (repeat' split) <;> first | omega | assumption)
        · skip
          refine am_ic X (by decide) dX9_refusalOfElement_45 ?_
          refine am_goto (tgt := 51) X dX9_refusalOfElement_46 (by decide) ?_
          exact hret _ _ _ _ _ dX9_refusalOfElement_51 rfl rfl (by refine ⟨rfl, rfl, ?_⟩; unfold c_refusal; (repeat' split) <;> first | omega | assumption)
      · skip
        refine am_bipush X (by decide) dX9_refusalOfElement_33 ?_
        exact hret _ _ _ _ _ dX9_refusalOfElement_35 rfl rfl (by refine ⟨rfl, rfl, ?_⟩; unfold c_refusal; (repeat' split) <;> first | omega | assumption)
    · skip
      refine am_bipush X (by decide) dX9_refusalOfElement_23 ?_
      exact hret _ _ _ _ _ dX9_refusalOfElement_25 rfl rfl (by refine ⟨rfl, rfl, ?_⟩; unfold c_refusal; (repeat' split) <;> first | omega | assumption)
  · skip
    refine am_ic X (by decide) dX9_refusalOfElement_7 ?_
    exact hret _ _ _ _ _ dX9_refusalOfElement_8 rfl rfl (by refine ⟨rfl, rfl, ?_⟩; unfold c_refusal; (repeat' split) <;> first | omega | assumption)

set_option maxHeartbeats 4000000 in
set_option maxRecDepth 100000 in
theorem m_X9_element (a i : Int) (σ : am_H) (hs : ShV σ) : am_Ml yX9_element cX9_element 3 (some .long) 3 0 0 [vr 0, vi a, vi i] SH σ (fun r sh' σ' => SH = sh' ∧ σ = σ' ∧ r = (if c_refusal σ a i ≠ 0 then -9223372036854775808 else σ (52 + 2 * a.toNat) i.toNat)) := by
  refine am_Ml_of (by decide +kernel) (Nat.le_of_ble_eq_true rfl) (fun K X hY hI hret => ?_)
  show am_G K 0 [some (vr 0), some (vi a), some (vi i)] [] SH σ
  refine am_aload_n (x := 0) X (by rfl) dX9_element_0 ?_
  refine am_iload_n (x := a) X (by rfl) dX9_element_1 ?_
  refine am_iload_n (x := i) X (by rfl) dX9_element_2 ?_
  refine am_callVi (ci := 8) X hY lk_X9_314 mf_X9_refusalOfElement (m_X9_refusalOfElement a i σ hs) (by decide) (by decide) (Nat.le_refl _) (Nat.le_refl _) sh_0 rfl rfl rfl (Nat.le_of_ble_eq_true rfl) dX9_element_3 (fun r3 sh3 σ3 hr3 hp3 => ?_)
  obtain ⟨rfl, rfl, hq3⟩ := hp3
  refine am_if_eq (tgt := 15) X dX9_element_6 (by decide) (fun h6 => ?_) (fun h6 => ?_)
  · skip
    have hi : (0 ≤ a ∧ a ≤ 5) ∧ 0 ≤ i ∧ i < 60 := by unfold c_refusal at hq3; have hsl := fun h => (hs a.toNat h).2.2.1; by_cases h9 : 0 ≤ a ∧ a ≤ 5; have := hsl (by omega); (repeat' split at hq3) <;> omega; rw [if_pos h9] at hq3; omega
    refine am_aload_n (x := 0) X (by rfl) dX9_element_15 ?_
    refine am_getr (c1 := 49) X 0 fl_X9_66 (by decide) sh_0 (by decide) (by rfl) dX9_element_16 ?_
    refine am_iload_n (x := a) X (by rfl) dX9_element_19 ?_
    refine am_aald (c1 := (51 + 2 * a.toNat)) X 49 sh_49 (by omega) (by omega) (sh_sv (by omega)) dX9_element_20 ?_
    refine am_getr (c1 := (52 + 2 * a.toNat)) X (51 + 2 * a.toNat) fl_X9_325 (by decide) (sh_sf (by omega)) (by decide) (by rfl) dX9_element_21 ?_
    refine am_iload_n (x := i) X (by rfl) dX9_element_24 ?_
    refine am_lalj (v := σ (52 + 2 * a.toNat) ((i).toNat)) X (52 + 2 * a.toNat) (i).toNat (sh_el (by omega)) (by omega) (by omega) (rfl) dX9_element_25 ?_
    exact hret _ _ _ _ _ dX9_element_26 rfl rfl (by refine ⟨rfl, rfl, ?_⟩; rw [← hq3]; (repeat' split) <;> first | omega | assumption)
  · skip
    refine am_ldc2 X (n := -9223372036854775808) (by unfold R64; decide) cn_X9_323 dX9_element_9 ?_
    refine am_goto (tgt := 26) X dX9_element_12 (by decide) ?_
    exact hret _ _ _ _ _ dX9_element_26 rfl rfl (by refine ⟨rfl, rfl, ?_⟩; rw [← hq3]; (repeat' split) <;> first | omega | assumption)

set_option maxHeartbeats 4000000 in
set_option maxRecDepth 100000 in
theorem m_X9_put (a i v : Int) (σ : am_H) (hs : ShV σ) : am_Mi yX9_put cX9_put 6 (some .int) 3 0 0 [vr 0, vi a, vi i, vl v] SH σ (fun r sh' σ' => SH = sh' ∧ ((c_refusal σ a i ≠ 0 ∧ r = c_refusal σ a i ∧ σ = σ') ∨ (c_refusal σ a i = 0 ∧ r = 1 ∧ (am_up σ (52 + 2 * a.toNat) i.toNat (sf_as (σ (51 + 2 * a.toNat) 2) v)) = σ'))) := by
  refine am_Mi_of (by decide +kernel) (Nat.le_of_ble_eq_true rfl) (fun K X hY hI hret => ?_)
  show am_G K 0 [some (vr 0), some (vi a), some (vi i), some (vl v), none, none] [] SH σ
  refine am_aload_n (x := 0) X (by rfl) dX9_put_0 ?_
  refine am_iload_n (x := a) X (by rfl) dX9_put_1 ?_
  refine am_iload_n (x := i) X (by rfl) dX9_put_2 ?_
  refine am_callVi (ci := 8) X hY lk_X9_314 mf_X9_refusalOfElement (m_X9_refusalOfElement a i σ hs) (by decide) (by decide) (Nat.le_refl _) (Nat.le_refl _) sh_0 rfl rfl rfl (Nat.le_of_ble_eq_true rfl) dX9_put_3 (fun r3 sh3 σ3 hr3 hp3 => ?_)
  obtain ⟨rfl, rfl, hq3⟩ := hp3
  refine am_istore (i := 5) (L' := [some (vr 0), some (vi a), some (vi i), some (vl v), none, some (vi r3)]) X (Nat.le_of_ble_eq_true rfl) (by rfl) dX9_put_6 ?_
  refine am_iload (x := r3) X (by rfl) dX9_put_8 ?_
  refine am_if_eq (tgt := 16) X dX9_put_10 (by decide) (fun h10 => ?_) (fun h10 => ?_)
  · skip
    have hi : (0 ≤ a ∧ a ≤ 5) ∧ 0 ≤ i ∧ i < 60 := by unfold c_refusal at hq3; have hsl := fun h => (hs a.toNat h).2.2.1; by_cases h9 : 0 ≤ a ∧ a ≤ 5; have := hsl (by omega); (repeat' split at hq3) <;> omega; rw [if_pos h9] at hq3; omega
    refine am_aload_n (x := 0) X (by rfl) dX9_put_16 ?_
    refine am_getr (c1 := 49) X 0 fl_X9_66 (by decide) sh_0 (by decide) (by rfl) dX9_put_17 ?_
    refine am_iload_n (x := a) X (by rfl) dX9_put_20 ?_
    refine am_aald (c1 := (51 + 2 * a.toNat)) X 49 sh_49 (by omega) (by omega) (sh_sv (by omega)) dX9_put_21 ?_
    refine am_iload_n (x := i) X (by rfl) dX9_put_22 ?_
    refine am_lload_n (x := v) X (by rfl) dX9_put_23 ?_
    refine am_callVv (ci := 6) X hY lk_X9_317 mf_X7_setElement (m_X7_setElement a.toNat (by omega) i i.toNat (by omega) (by omega) v σ) (by decide) (by decide) (Nat.le_refl _) (Nat.le_refl _) (sh_sf (by omega)) rfl rfl rfl (Nat.le_of_ble_eq_true rfl) dX9_put_24 (fun sh24 σ24 hp24 => ?_)
    obtain ⟨rfl, rfl, hq24⟩ := hp24
    refine am_ic X (by decide) dX9_put_27 ?_
    exact hret _ _ _ _ _ dX9_put_28 rfl rfl (by first | exact ⟨rfl, Or.inl ⟨by omega, by omega, rfl⟩⟩ | exact ⟨rfl, Or.inr (⟨by omega, by omega, rfl⟩)⟩)
  · skip
    refine am_iload (x := r3) X (by rfl) dX9_put_13 ?_
    exact hret _ _ _ _ _ dX9_put_15 rfl rfl (by first | exact ⟨rfl, Or.inl ⟨by omega, by omega, rfl⟩⟩ | exact ⟨rfl, Or.inr (⟨by omega, by omega, rfl⟩)⟩)

set_option maxHeartbeats 4000000 in
set_option maxRecDepth 100000 in
theorem m_X9_count (a : Int) (σ : am_H) (hc : 0 ≤ σ 16 5 ∧ σ 16 5 ≤ 20) : am_Mi yX9_count cX9_count 2 (some .int) 1 0 0 [vr 0, vi a] SH σ (fun r sh' σ' => SH = sh' ∧ σ = σ' ∧ r = (if a = 0 then σ 1 2 else if a = 1 then σ 16 5 else if a = 2 then am_sum (fun n : Nat => if 0 < σ 19 n then 1 else 0) (σ 16 5).toNat else if a = 3 then σ 22 6 else if a = 4 then σ 22 7 else if a = 5 then σ 9 6 else if a = 6 then σ 4 4 else if a = 7 then σ 46 2 else if a = 8 then σ 46 3 else -1)) := by
  refine am_Mi_of (by decide +kernel) (Nat.le_of_ble_eq_true rfl) (fun K X hY hI hret => ?_)
  show am_G K 0 [some (vr 0), some (vi a)] [] SH σ
  refine am_iload_n (x := a) X (by rfl) dX9_count_0 ?_
  by_cases h1o : a < 0 ∨ 8 < a
  · skip
    refine am_tableOut (tgt := 124) X dX9_count_1 h1o (by decide) ?_
    refine am_ic X (by decide) dX9_count_124 ?_
    exact hret _ _ _ _ _ dX9_count_125 rfl rfl (by refine ⟨rfl, rfl, ?_⟩; (repeat' split) <;> first | omega | assumption)
  rcases (show a = 0 ∨ a = 1 ∨ a = 2 ∨ a = 3 ∨ a = 4 ∨ a = 5 ∨ a = 6 ∨ a = 7 ∨ a = 8 by omega) with h1 | h1 | h1 | h1 | h1 | h1 | h1 | h1 | h1
  · skip
    refine am_tableIn (off := 51) (tgt := 52) X dX9_count_1 (by omega) (by omega) (by rw [h1]; rfl) (by decide) ?_
    refine am_aload_n (x := 0) X (by rfl) dX9_count_52 ?_
    refine am_getr (c1 := 1) X 0 fl_X9_10 (by decide) sh_0 (by decide) (by rfl) dX9_count_53 ?_
    refine am_get (v := σ 1 2) X 1 fl_X9_79 (by decide) sh_1 (by decide) (rfl) dX9_count_56 ?_
    exact hret _ _ _ _ _ dX9_count_59 rfl rfl (by refine ⟨rfl, rfl, ?_⟩; (repeat' split) <;> first | omega | assumption)
  · skip
    refine am_tableIn (off := 59) (tgt := 60) X dX9_count_1 (by omega) (by omega) (by rw [h1]; rfl) (by decide) ?_
    refine am_aload_n (x := 0) X (by rfl) dX9_count_60 ?_
    refine am_getr (c1 := 16) X 0 fl_X9_33 (by decide) sh_0 (by decide) (by rfl) dX9_count_61 ?_
    refine am_get (v := σ 16 5) X 16 fl_X9_95 (by decide) sh_16 (by decide) (rfl) dX9_count_64 ?_
    exact hret _ _ _ _ _ dX9_count_67 rfl rfl (by refine ⟨rfl, rfl, ?_⟩; (repeat' split) <;> first | omega | assumption)
  · skip
    refine am_tableIn (off := 67) (tgt := 68) X dX9_count_1 (by omega) (by omega) (by rw [h1]; rfl) (by decide) ?_
    refine am_aload_n (x := 0) X (by rfl) dX9_count_68 ?_
    refine am_getr (c1 := 16) X 0 fl_X9_33 (by decide) sh_0 (by decide) (by rfl) dX9_count_69 ?_
    refine am_callVi (ci := 4) X hY lk_X9_350 mf_X4_open (m_X4_open σ hc) (by decide) (by decide) (Nat.le_refl _) (Nat.le_refl _) sh_16 rfl rfl rfl (Nat.le_of_ble_eq_true rfl) dX9_count_72 (fun r72 sh72 σ72 hr72 hp72 => ?_)
    obtain ⟨rfl, rfl, hq72⟩ := hp72
    exact hret _ _ _ _ _ dX9_count_75 rfl rfl (by refine ⟨rfl, rfl, ?_⟩; (repeat' split) <;> first | omega | assumption)
  · skip
    refine am_tableIn (off := 75) (tgt := 76) X dX9_count_1 (by omega) (by omega) (by rw [h1]; rfl) (by decide) ?_
    refine am_aload_n (x := 0) X (by rfl) dX9_count_76 ?_
    refine am_getr (c1 := 22) X 0 fl_X9_40 (by decide) sh_0 (by decide) (by rfl) dX9_count_77 ?_
    refine am_get (v := σ 22 6) X 22 fl_X9_184 (by decide) sh_22 (by decide) (rfl) dX9_count_80 ?_
    exact hret _ _ _ _ _ dX9_count_83 rfl rfl (by refine ⟨rfl, rfl, ?_⟩; (repeat' split) <;> first | omega | assumption)
  · skip
    refine am_tableIn (off := 83) (tgt := 84) X dX9_count_1 (by omega) (by omega) (by rw [h1]; rfl) (by decide) ?_
    refine am_aload_n (x := 0) X (by rfl) dX9_count_84 ?_
    refine am_getr (c1 := 22) X 0 fl_X9_40 (by decide) sh_0 (by decide) (by rfl) dX9_count_85 ?_
    refine am_get (v := σ 22 7) X 22 fl_X9_175 (by decide) sh_22 (by decide) (rfl) dX9_count_88 ?_
    exact hret _ _ _ _ _ dX9_count_91 rfl rfl (by refine ⟨rfl, rfl, ?_⟩; (repeat' split) <;> first | omega | assumption)
  · skip
    refine am_tableIn (off := 91) (tgt := 92) X dX9_count_1 (by omega) (by omega) (by rw [h1]; rfl) (by decide) ?_
    refine am_aload_n (x := 0) X (by rfl) dX9_count_92 ?_
    refine am_getr (c1 := 9) X 0 fl_X9_26 (by decide) sh_0 (by decide) (by rfl) dX9_count_93 ?_
    refine am_get (v := σ 9 6) X 9 fl_X9_158 (by decide) sh_9 (by decide) (rfl) dX9_count_96 ?_
    exact hret _ _ _ _ _ dX9_count_99 rfl rfl (by refine ⟨rfl, rfl, ?_⟩; (repeat' split) <;> first | omega | assumption)
  · skip
    refine am_tableIn (off := 99) (tgt := 100) X dX9_count_1 (by omega) (by omega) (by rw [h1]; rfl) (by decide) ?_
    refine am_aload_n (x := 0) X (by rfl) dX9_count_100 ?_
    refine am_getr (c1 := 4) X 0 fl_X9_19 (by decide) sh_0 (by decide) (by rfl) dX9_count_101 ?_
    refine am_get (v := σ 4 4) X 4 fl_X9_273 (by decide) sh_4 (by decide) (rfl) dX9_count_104 ?_
    exact hret _ _ _ _ _ dX9_count_107 rfl rfl (by refine ⟨rfl, rfl, ?_⟩; (repeat' split) <;> first | omega | assumption)
  · skip
    refine am_tableIn (off := 107) (tgt := 108) X dX9_count_1 (by omega) (by omega) (by rw [h1]; rfl) (by decide) ?_
    refine am_aload_n (x := 0) X (by rfl) dX9_count_108 ?_
    refine am_getr (c1 := 46) X 0 fl_X9_60 (by decide) sh_0 (by decide) (by rfl) dX9_count_109 ?_
    refine am_get (v := σ 46 2) X 46 fl_X9_286 (by decide) sh_46 (by decide) (rfl) dX9_count_112 ?_
    exact hret _ _ _ _ _ dX9_count_115 rfl rfl (by refine ⟨rfl, rfl, ?_⟩; (repeat' split) <;> first | omega | assumption)
  · skip
    refine am_tableIn (off := 115) (tgt := 116) X dX9_count_1 (by omega) (by omega) (by rw [h1]; rfl) (by decide) ?_
    refine am_aload_n (x := 0) X (by rfl) dX9_count_116 ?_
    refine am_getr (c1 := 46) X 0 fl_X9_60 (by decide) sh_0 (by decide) (by rfl) dX9_count_117 ?_
    refine am_get (v := σ 46 3) X 46 fl_X9_289 (by decide) sh_46 (by decide) (rfl) dX9_count_120 ?_
    exact hret _ _ _ _ _ dX9_count_123 rfl rfl (by refine ⟨rfl, rfl, ?_⟩; (repeat' split) <;> first | omega | assumption)
