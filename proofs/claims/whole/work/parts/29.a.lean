set_option maxHeartbeats 4000000 in
set_option maxRecDepth 100000 in
theorem m_X9_debts (a i n : Int) (hi : -2147483648 ≤ i ∧ i < 2147483648) (σ : am_H) (hp : 0 ≤ σ 1 2 ∧ σ 1 2 ≤ 8) (hc : 0 ≤ σ 16 5 ∧ σ 16 5 ≤ 20) (hs : ShV σ) : am_Mi yX9_debts cX9_debts 7 (some .int) 4 0 0 [vr 0, vi a, vi i, vi n] SH σ (fun r sh' σ' => SH = sh' ∧ ((¬ ((0 ≤ a ∧ a ≤ 5) ∧ 1 ≤ n ∧ n ≤ 15) ∧ r = -1 ∧ σ = σ') ∨ ((((0 ≤ a ∧ a ≤ 5) ∧ 1 ≤ n ∧ n ≤ 15) ∧ (σ (51 + 2 * a.toNat) 1 < 0 ∧ σ (51 + 2 * a.toNat) 2 < 0)) ∧ r = 0 ∧ σ = σ') ∨ ((((0 ≤ a ∧ a ≤ 5) ∧ 1 ≤ n ∧ n ≤ 15) ∧ ¬ (σ (51 + 2 * a.toNat) 1 < 0 ∧ σ (51 + 2 * a.toNat) 2 < 0) ∧ σ (51 + 2 * a.toNat) 2 ≠ 0) ∧ r = -12 ∧ σ = σ') ∨ ((((0 ≤ a ∧ a ≤ 5) ∧ 1 ≤ n ∧ n ≤ 15) ∧ ¬ (σ (51 + 2 * a.toNat) 1 < 0 ∧ σ (51 + 2 * a.toNat) 2 < 0)) ∧ σ (51 + 2 * a.toNat) 2 = 0 ∧ (∃ m : Nat, r = (m : Int) ∧ (m : Int) ≤ n ∧ c_dbt a.toNat i m σ = σ' ∧ (∀ k : Nat, k < m → c_comes (c_dbt a.toNat i k σ) a.toNat (i + 4 * (k : Int))) ∧ ((m : Int) = n ∨ ¬ c_comes (c_dbt a.toNat i m σ) a.toNat (i + 4 * (m : Int))))))) := by
  refine am_Mi_of (by decide +kernel) (Nat.le_of_ble_eq_true rfl) (fun K X hY hI hret => ?_)
  show am_G K 0 [some (vr 0), some (vi a), some (vi i), some (vi n), none, none, none] [] SH σ
  refine am_iload_n (x := a) X (by rfl) dX9_debts_0 ?_
  refine am_callSi X hY lk_X9_102 mf_X9_isShelf (m_X9_isShelf a _ σ) (by decide) (by decide) (Nat.le_refl _) (Nat.le_refl _) rfl rfl (Nat.le_of_ble_eq_true rfl) dX9_debts_1 (fun r1 sh1 σ1 hr1 hp1 => ?_)
  obtain ⟨rfl, rfl, hq1⟩ := hp1
  refine am_if_eq (tgt := 17) X dX9_debts_4 (by decide) (fun h4 => ?_) (fun h4 => ?_)
  · skip
    refine am_ic X (by decide) dX9_debts_17 ?_
    exact hret _ _ _ _ _ dX9_debts_18 rfl rfl (by first | exact ⟨rfl, Or.inl ⟨by omega, by omega, rfl⟩⟩ | exact ⟨rfl, Or.inr (Or.inl ⟨by omega, by omega, rfl⟩)⟩ | exact ⟨rfl, Or.inr (Or.inr (Or.inl ⟨by omega, by omega, rfl⟩))⟩)
  · skip
    refine am_iload_n (x := n) X (by rfl) dX9_debts_7 ?_
    refine am_ic X (by decide) dX9_debts_8 ?_
    refine am_bipush X (by decide) dX9_debts_9 ?_
    refine am_callSi X hY lk_X9_75 mf_X9_within (m_X9_within n 1 15 _ σ) (by decide) (by decide) (Nat.le_refl _) (Nat.le_refl _) rfl rfl (Nat.le_of_ble_eq_true rfl) dX9_debts_11 (fun r11 sh11 σ11 hr11 hp11 => ?_)
    obtain ⟨rfl, rfl, hq11⟩ := hp11
    refine am_if_ne (tgt := 19) X dX9_debts_14 (by decide) (fun h14 => ?_) (fun h14 => ?_)
    · skip
      refine am_aload_n (x := 0) X (by rfl) dX9_debts_19 ?_
      refine am_getr (c1 := 49) X 0 fl_X9_66 (by decide) sh_0 (by decide) (by rfl) dX9_debts_20 ?_
      refine am_iload_n (x := a) X (by rfl) dX9_debts_23 ?_
      refine am_aald (c1 := (51 + 2 * a.toNat)) X 49 sh_49 (by omega) (by omega) (sh_sv (by omega)) dX9_debts_24 ?_
      refine am_astore (i := 4) (L' := [some (vr 0), some (vi a), some (vi i), some (vi n), some (vr (51 + 2 * a.toNat)), none, none]) X (Nat.le_of_ble_eq_true rfl) (by rfl) dX9_debts_25 ?_
      refine am_aload (x := (51 + 2 * a.toNat)) X (by rfl) dX9_debts_27 ?_
      refine am_callVi (ci := 6) X hY lk_X9_105 mf_X7_holdsNothing (m_X7_holdsNothing a.toNat (by omega) σ) (by decide) (by decide) (Nat.le_refl _) (Nat.le_refl _) (sh_sf (by omega)) rfl rfl rfl (Nat.le_of_ble_eq_true rfl) dX9_debts_29 (fun r29 sh29 σ29 hr29 hp29 => ?_)
      obtain ⟨rfl, rfl, hq29⟩ := hp29
      refine am_if_eq (tgt := 37) X dX9_debts_32 (by decide) (fun h32 => ?_) (fun h32 => ?_)
      · skip
        refine am_aload (x := (51 + 2 * a.toNat)) X (by rfl) dX9_debts_37 ?_
        refine am_get (v := σ (51 + 2 * a.toNat) 2) X (51 + 2 * a.toNat) fl_X9_109 (by decide) (sh_sf (by omega)) (by decide) (rfl) dX9_debts_39 ?_
        refine am_if_eq (tgt := 48) X dX9_debts_42 (by decide) (fun h42 => ?_) (fun h42 => ?_)
        · skip
          have hsl := (hs a.toNat (by omega)).2.2.1
          have hsv := (hs a.toNat (by omega)).2.2.2.2.2
          refine am_ic X (by decide) dX9_debts_48 ?_
          refine am_istore (i := 5) (L' := [some (vr 0), some (vi a), some (vi i), some (vi n), some (vr (51 + 2 * a.toNat)), some (vi 0), none]) X (Nat.le_of_ble_eq_true rfl) (by rfl) dX9_debts_49 ?_
          refine am_ic X (by decide) dX9_debts_51 ?_
          refine am_istore (i := 6) (L' := [some (vr 0), some (vi a), some (vi i), some (vi n), some (vr (51 + 2 * a.toNat)), some (vi 0), some (vi 0)]) X (Nat.le_of_ble_eq_true rfl) (by rfl) dX9_debts_52 ?_
          have hL54 : ∀ (m54 : Nat) (k : Nat) (hk : (k : Int) ≤ n) (hck : σ 16 5 + (k : Int) ≤ 20) (hall : ∀ j : Nat, j < k → c_comes (c_dbt a.toNat i j σ) a.toNat (i + 4 * (j : Int))) (hm54 : n.toNat - k = m54), am_G K 54 [some (vr 0), some (vi a), some (vi i), some (vi n), some (vr (51 + 2 * a.toNat)), some (vi (k : Int)), some (vi (k : Int))] [] SH (c_dbt a.toNat i k σ) := by
            intro m54
            induction m54 using Nat.strongRecOn with
            | ind m54 ih54 =>
            intro k hk hck hall hm54
            have e1 : (c_dbt a.toNat i k σ) 1 2 = σ 1 2 := c_dbt_at (by decide)
            have e2 : (c_dbt a.toNat i k σ) 16 5 = σ 16 5 + k := c_dbt_n
            have e3 : (c_dbt a.toNat i k σ) (51 + 2 * a.toNat) 3 = σ (51 + 2 * a.toNat) 3 := c_dbt_at (by omega)
            have e4 : ∀ j, (c_dbt a.toNat i k σ) (52 + 2 * a.toNat) j = σ (52 + 2 * a.toNat) j := fun j => c_dbt_at (by omega)
            refine am_iload (x := (k : Int)) X (by rfl) dX9_debts_54 ?_
            refine am_iload_n (x := n) X (by rfl) dX9_debts_56 ?_
            refine am_icmp_ge (tgt := 88) X dX9_debts_57 (by decide) (fun h57 => ?_) (fun h57 => ?_)
            · skip
              refine am_iload (x := (k : Int)) X (by rfl) dX9_debts_88 ?_
              exact hret _ _ _ _ _ dX9_debts_90 rfl rfl (by exact ⟨rfl, Or.inr (Or.inr (Or.inr ⟨by omega, by omega, k, rfl, by omega, rfl, hall, Or.inl (by omega)⟩))⟩)
            · skip
              refine am_aload_n (x := 0) X (by rfl) dX9_debts_60 ?_
              refine am_aload (x := (51 + 2 * a.toNat)) X (by rfl) dX9_debts_61 ?_
              refine am_iload_n (x := i) X (by rfl) dX9_debts_63 ?_
              refine am_i2l X dX9_debts_64 ?_
              refine am_ldc2 X (n := 4) (by unfold R64; decide) cn_X9_112 dX9_debts_65 ?_
              refine am_iload (x := (k : Int)) X (by rfl) dX9_debts_68 ?_
              refine am_i2l X dX9_debts_70 ?_
              refine am_lmulv (v := (4 * (k : Int))) X rfl (by omega) dX9_debts_71 ?_
              refine am_laddv (v := (i + (4 * (k : Int)))) X rfl (by omega) dX9_debts_72 ?_
              refine am_callVi (ci := 8) X hY lk_X9_114 mf_X9_debtComes (m_X9_debtComes a.toNat (by omega) (i + 4 * (k : Int)) (by omega) (c_dbt a.toNat i k σ) (by rw [e1]; exact hp) (by rw [e2]; omega) (by rw [e3]; exact hsl) (fun j hj => by rw [e4]; rw [e3] at hj; exact hsv j hj (by omega))) (by decide) (by decide) (Nat.le_refl _) (Nat.le_refl _) sh_0 rfl rfl rfl (Nat.le_of_ble_eq_true rfl) dX9_debts_73 (fun r73 sh73 σ73 hr73 hp73 => ?_)
              obtain ⟨rfl, hq73⟩ := hp73
              refine am_if_eq (tgt := 88) X dX9_debts_76 (by decide) (fun h76 => ?_) (fun h76 => ?_)
              · skip
                refine am_iload (x := (k : Int)) X (by rfl) dX9_debts_88 ?_
                exact hret _ _ _ _ _ dX9_debts_90 rfl rfl (by rcases hq73 with ⟨h9, -, -⟩ | ⟨-, hc9, hs9⟩; exact absurd h76 (by omega); exact ⟨rfl, Or.inr (Or.inr (Or.inr ⟨by omega, by omega, k, rfl, by omega, hs9, hall, Or.inr hc9⟩))⟩)
              · skip
                obtain ⟨hcm, hsm⟩ : c_comes (c_dbt a.toNat i k σ) a.toNat (i + 4 * (k : Int)) ∧ c_come (c_dbt a.toNat i k σ) a.toNat (i + 4 * (k : Int)) = σ73 := by
                  rcases hq73 with ⟨-, h8, h9⟩ | ⟨h9, -, -⟩
                  · exact ⟨h8, h9⟩
                  · exact absurd h9 (by omega)
                have hct := hcm.2.2.1
                rw [e2] at hct
                refine am_inc (x := (k : Int)) (v := ((k : Int) + 1)) (L' := [some (vr 0), some (vi a), some (vi i), some (vi n), some (vr (51 + 2 * a.toNat)), some (vi ((k : Int) + 1)), some (vi (k : Int))]) X (by rfl) (by omega) (by omega) (by rfl) dX9_debts_79 ?_
                refine am_inc (x := (k : Int)) (v := ((k : Int) + 1)) (L' := [some (vr 0), some (vi a), some (vi i), some (vi n), some (vr (51 + 2 * a.toNat)), some (vi ((k : Int) + 1)), some (vi ((k : Int) + 1))]) X (by rfl) (by omega) (by omega) (by rfl) dX9_debts_82 ?_
                refine am_goto (tgt := 54) X dX9_debts_85 (by decide) ?_
                refine am_sg (c_dbt a.toNat i (k + 1) σ) (by rw [← hsm]; rfl) ?_
                exact ih54 _ (by omega) (k + 1) (by omega) (by omega) (fun j hj => by rcases Nat.lt_or_ge j k with q | q; exact hall j q; rw [show j = k by omega]; exact hcm) rfl
          refine am_sg (c_dbt a.toNat i 0 σ) (rfl) ?_
          exact hL54 _ 0 (by omega) (by omega) (fun j hj => absurd hj (by omega)) rfl
        · skip
          refine am_bipush X (by decide) dX9_debts_45 ?_
          exact hret _ _ _ _ _ dX9_debts_47 rfl rfl (by first | exact ⟨rfl, Or.inl ⟨by omega, by omega, rfl⟩⟩ | exact ⟨rfl, Or.inr (Or.inl ⟨by omega, by omega, rfl⟩)⟩ | exact ⟨rfl, Or.inr (Or.inr (Or.inl ⟨by omega, by omega, rfl⟩))⟩)
      · skip
        refine am_ic X (by decide) dX9_debts_35 ?_
        exact hret _ _ _ _ _ dX9_debts_36 rfl rfl (by first | exact ⟨rfl, Or.inl ⟨by omega, by omega, rfl⟩⟩ | exact ⟨rfl, Or.inr (Or.inl ⟨by omega, by omega, rfl⟩)⟩ | exact ⟨rfl, Or.inr (Or.inr (Or.inl ⟨by omega, by omega, rfl⟩))⟩)
    · skip
      refine am_ic X (by decide) dX9_debts_17 ?_
      exact hret _ _ _ _ _ dX9_debts_18 rfl rfl (by first | exact ⟨rfl, Or.inl ⟨by omega, by omega, rfl⟩⟩ | exact ⟨rfl, Or.inr (Or.inl ⟨by omega, by omega, rfl⟩)⟩ | exact ⟨rfl, Or.inr (Or.inr (Or.inl ⟨by omega, by omega, rfl⟩))⟩)

set_option maxHeartbeats 4000000 in
set_option maxRecDepth 100000 in
theorem m_X9_judge (a : Int) (σ : am_H) (hp : 0 ≤ σ 1 2 ∧ σ 1 2 ≤ 8) (hc : 0 ≤ σ 16 5 ∧ σ 16 5 ≤ 20) (hd : ∀ n : Nat, (n : Int) < σ 16 5 → 0 ≤ σ 19 n ∧ σ 19 n ≤ 9) (hs : ShV σ) : am_Mi yX9_judge cX9_judge 4 (some .int) 4 0 0 [vr 0, vi a] SH σ (fun r sh' σ' => SH = sh' ∧ ((¬ (0 ≤ a ∧ a ≤ 5) ∧ r = -1 ∧ σ = σ') ∨ (((0 ≤ a ∧ a ≤ 5) ∧ (σ (51 + 2 * a.toNat) 1 < 0 ∧ σ (51 + 2 * a.toNat) 2 < 0)) ∧ r = -11 ∧ σ = σ') ∨ (((0 ≤ a ∧ a ≤ 5) ∧ ¬ (σ (51 + 2 * a.toNat) 1 < 0 ∧ σ (51 + 2 * a.toNat) 2 < 0) ∧ σ (51 + 2 * a.toNat) 2 ≠ 1) ∧ r = -12 ∧ σ = σ') ∨ (((0 ≤ a ∧ a ≤ 5) ∧ ¬ (σ (51 + 2 * a.toNat) 1 < 0 ∧ σ (51 + 2 * a.toNat) 2 < 0) ∧ σ (51 + 2 * a.toNat) 2 = 1) ∧ (∀ k : Nat, 3 * (k : Int) < σ (51 + 2 * a.toNat) 3 → c_so σ a.toNat k) ∧ r = -2 ∧ σ = σ') ∨ (((0 ≤ a ∧ a ≤ 5) ∧ ¬ (σ (51 + 2 * a.toNat) 1 < 0 ∧ σ (51 + 2 * a.toNat) 2 < 0) ∧ σ (51 + 2 * a.toNat) 2 = 1) ∧ ∃ k : Nat, 3 * (k : Int) < σ (51 + 2 * a.toNat) 3 ∧ ¬ c_so σ a.toNat k ∧ (∀ j : Nat, j < k → c_so σ a.toNat j) ∧ r = k ∧ σ = σ'))) := by
  refine am_Mi_of (by decide +kernel) (Nat.le_of_ble_eq_true rfl) (fun K X hY hI hret => ?_)
  show am_G K 0 [some (vr 0), some (vi a), none, none] [] SH σ
  refine am_iload_n (x := a) X (by rfl) dX9_judge_0 ?_
  refine am_callSi X hY lk_X9_102 mf_X9_isShelf (m_X9_isShelf a _ σ) (by decide) (by decide) (Nat.le_refl _) (Nat.le_refl _) rfl rfl (Nat.le_of_ble_eq_true rfl) dX9_judge_1 (fun r1 sh1 σ1 hr1 hp1 => ?_)
  obtain ⟨rfl, rfl, hq1⟩ := hp1
  refine am_if_ne (tgt := 9) X dX9_judge_4 (by decide) (fun h4 => ?_) (fun h4 => ?_)
  · skip
    refine am_aload_n (x := 0) X (by rfl) dX9_judge_9 ?_
    refine am_getr (c1 := 49) X 0 fl_X9_66 (by decide) sh_0 (by decide) (by rfl) dX9_judge_10 ?_
    refine am_iload_n (x := a) X (by rfl) dX9_judge_13 ?_
    refine am_aald (c1 := (51 + 2 * a.toNat)) X 49 sh_49 (by omega) (by omega) (sh_sv (by omega)) dX9_judge_14 ?_
    refine am_astore_n (i := 2) (L' := [some (vr 0), some (vi a), some (vr (51 + 2 * a.toNat)), none]) X rfl (Nat.le_of_ble_eq_true rfl) (by rfl) dX9_judge_15 ?_
    refine am_aload_n (x := (51 + 2 * a.toNat)) X (by rfl) dX9_judge_16 ?_
    refine am_callVi (ci := 6) X hY lk_X9_105 mf_X7_holdsNothing (m_X7_holdsNothing a.toNat (by omega) σ) (by decide) (by decide) (Nat.le_refl _) (Nat.le_refl _) (sh_sf (by omega)) rfl rfl rfl (Nat.le_of_ble_eq_true rfl) dX9_judge_17 (fun r17 sh17 σ17 hr17 hp17 => ?_)
    obtain ⟨rfl, rfl, hq17⟩ := hp17
    refine am_if_eq (tgt := 26) X dX9_judge_20 (by decide) (fun h20 => ?_) (fun h20 => ?_)
    · skip
      refine am_aload_n (x := (51 + 2 * a.toNat)) X (by rfl) dX9_judge_26 ?_
      refine am_get (v := σ (51 + 2 * a.toNat) 2) X (51 + 2 * a.toNat) fl_X9_109 (by decide) (sh_sf (by omega)) (by decide) (rfl) dX9_judge_27 ?_
      refine am_ic X (by decide) dX9_judge_30 ?_
      refine am_icmp_eq (tgt := 37) X dX9_judge_31 (by decide) (fun h31 => ?_) (fun h31 => ?_)
      · skip
        have hsl := (hs a.toNat (by omega)).2.2.1
        have hsv := (hs a.toNat (by omega)).2.2.2.2.2
        refine am_ic X (by decide) dX9_judge_37 ?_
        refine am_istore_n (i := 3) (L' := [some (vr 0), some (vi a), some (vr (51 + 2 * a.toNat)), some (vi 0)]) X rfl (Nat.le_of_ble_eq_true rfl) (by rfl) dX9_judge_38 ?_
        have hL39 : ∀ (m39 : Nat) (k : Nat) (hk : 3 * (k : Int) ≤ σ (51 + 2 * a.toNat) 3 + 2) (hall : ∀ j : Nat, j < k → c_so σ a.toNat j) (hm39 : 200 - k = m39), am_G K 39 [some (vr 0), some (vi a), some (vr (51 + 2 * a.toNat)), some (vi (k : Int))] [] SH σ := by
          intro m39
          induction m39 using Nat.strongRecOn with
          | ind m39 ih39 =>
          intro k hk hall hm39
          refine am_iload_n (x := (k : Int)) X (by rfl) dX9_judge_39 ?_
          refine am_ic X (by decide) dX9_judge_40 ?_
          refine am_mul (v := ((k : Int) * 3)) X (by first | rfl | omega) (by omega) dX9_judge_41 ?_
          refine am_aload_n (x := (51 + 2 * a.toNat)) X (by rfl) dX9_judge_42 ?_
          refine am_get (v := σ (51 + 2 * a.toNat) 3) X (51 + 2 * a.toNat) fl_X9_252 (by decide) (sh_sf (by omega)) (by decide) (rfl) dX9_judge_43 ?_
          refine am_icmp_ge (tgt := 68) X dX9_judge_46 (by decide) (fun h46 => ?_) (fun h46 => ?_)
          · skip
            refine am_bipush X (by decide) dX9_judge_68 ?_
            exact hret _ _ _ _ _ dX9_judge_70 rfl rfl (by exact ⟨rfl, Or.inr (Or.inr (Or.inr (Or.inl ⟨by omega, fun j hj => hall j (by omega), rfl, rfl⟩)))⟩)
          · skip
            refine am_aload_n (x := 0) X (by rfl) dX9_judge_49 ?_
            refine am_aload_n (x := (51 + 2 * a.toNat)) X (by rfl) dX9_judge_50 ?_
            refine am_iload_n (x := (k : Int)) X (by rfl) dX9_judge_51 ?_
            refine am_ic X (by decide) dX9_judge_52 ?_
            refine am_mul (v := ((k : Int) * 3)) X (by first | rfl | omega) (by omega) dX9_judge_53 ?_
            refine am_callVi (ci := 8) X hY lk_X9_255 mf_X9_isThreeSo (m_X9_isThreeSo a.toNat (by omega) ((k : Int) * 3) (by omega) σ hp hc hd hsl (fun j hj => hsv j hj (by omega))) (by decide) (by decide) (Nat.le_refl _) (Nat.le_refl _) sh_0 rfl rfl rfl (Nat.le_of_ble_eq_true rfl) dX9_judge_54 (fun r54 sh54 σ54 hr54 hp54 => ?_)
            obtain ⟨rfl, rfl, hq54⟩ := hp54
            rw [show ((k : Int) * 3).toNat = 3 * k by omega, show ((k : Int) * 3 + 1).toNat = 3 * k + 1 by omega, show ((k : Int) * 3 + 2).toNat = 3 * k + 2 by omega, show (k : Int) * 3 = 3 * (k : Int) by omega] at hq54
            refine am_if_ne (tgt := 62) X dX9_judge_57 (by decide) (fun h57 => ?_) (fun h57 => ?_)
            · skip
              have hys : c_so σ a.toNat k := am_b1 hq54 h57
              refine am_inc (x := (k : Int)) (v := ((k : Int) + 1)) (L' := [some (vr 0), some (vi a), some (vr (51 + 2 * a.toNat)), some (vi ((k : Int) + 1))]) X (by rfl) (by omega) (by omega) (by rfl) dX9_judge_62 ?_
              refine am_goto (tgt := 39) X dX9_judge_65 (by decide) ?_
              exact ih39 _ (by omega) (k + 1) (by omega) (fun j hj => by rcases Nat.lt_or_ge j k with q | q; exact hall j q; rw [show j = k by omega]; exact hys) rfl
            · skip
              have hns : ¬ c_so σ a.toNat k := am_b0 hq54 h57
              refine am_iload_n (x := (k : Int)) X (by rfl) dX9_judge_60 ?_
              exact hret _ _ _ _ _ dX9_judge_61 rfl rfl (by exact ⟨rfl, Or.inr (Or.inr (Or.inr (Or.inr ⟨by omega, k, by omega, hns, hall, rfl, rfl⟩)))⟩)
        exact hL39 _ 0 (by omega) (fun j hj => absurd hj (by omega)) rfl
      · skip
        refine am_bipush X (by decide) dX9_judge_34 ?_
        exact hret _ _ _ _ _ dX9_judge_36 rfl rfl (by first | exact ⟨rfl, Or.inl ⟨by omega, by omega, rfl⟩⟩ | exact ⟨rfl, Or.inr (Or.inl ⟨by omega, by omega, rfl⟩)⟩ | exact ⟨rfl, Or.inr (Or.inr (Or.inl ⟨by omega, by omega, rfl⟩))⟩)
    · skip
      refine am_bipush X (by decide) dX9_judge_23 ?_
      exact hret _ _ _ _ _ dX9_judge_25 rfl rfl (by first | exact ⟨rfl, Or.inl ⟨by omega, by omega, rfl⟩⟩ | exact ⟨rfl, Or.inr (Or.inl ⟨by omega, by omega, rfl⟩)⟩ | exact ⟨rfl, Or.inr (Or.inr (Or.inl ⟨by omega, by omega, rfl⟩))⟩)
  · skip
    refine am_ic X (by decide) dX9_judge_7 ?_
    exact hret _ _ _ _ _ dX9_judge_8 rfl rfl (by first | exact ⟨rfl, Or.inl ⟨by omega, by omega, rfl⟩⟩ | exact ⟨rfl, Or.inr (Or.inl ⟨by omega, by omega, rfl⟩)⟩ | exact ⟨rfl, Or.inr (Or.inr (Or.inl ⟨by omega, by omega, rfl⟩))⟩)

set_option maxHeartbeats 4000000 in
set_option maxRecDepth 100000 in
theorem m_X9_wet (a b : Int) (σ : am_H) (hp : 0 ≤ σ 1 2 ∧ σ 1 2 ≤ 8) (hc : 0 ≤ σ 16 5 ∧ σ 16 5 ≤ 20) (hd : ∀ n : Nat, (n : Int) < σ 16 5 → 0 ≤ σ 19 n ∧ σ 19 n ≤ 9) (hs : ShV σ) : am_Mi yX9_wet cX9_wet 7 (some .int) 4 0 0 [vr 0, vi a, vi b] SH σ (fun r sh' σ' => SH = sh' ∧ σ = σ' ∧ r = (if ((0 ≤ a ∧ a ≤ 5) ∧ c_pair σ b ∧ σ (51 + 2 * a.toNat) 2 = 1) then c_owed σ (b / 10) (b % 10) - am_sum (c_wetf σ a.toNat (b / 10) (b % 10)) (σ (51 + 2 * a.toNat) 3 / 3).toNat else -2000000000)) := by
  refine am_Mi_of (by decide +kernel) (Nat.le_of_ble_eq_true rfl) (fun K X hY hI hret => ?_)
  show am_G K 0 [some (vr 0), some (vi a), some (vi b), none, none, none, none] [] SH σ
  refine am_iload_n (x := a) X (by rfl) dX9_wet_0 ?_
  refine am_callSi X hY lk_X9_102 mf_X9_isShelf (m_X9_isShelf a _ σ) (by decide) (by decide) (Nat.le_refl _) (Nat.le_refl _) rfl rfl (Nat.le_of_ble_eq_true rfl) dX9_wet_1 (fun r1 sh1 σ1 hr1 hp1 => ?_)
  obtain ⟨rfl, rfl, hq1⟩ := hp1
  refine am_if_eq (tgt := 31) X dX9_wet_4 (by decide) (fun h4 => ?_) (fun h4 => ?_)
  · skip
    refine am_ldc X (n := -2000000000) (by unfold R32; decide) cn_X9_142 dX9_wet_31 ?_
    exact hret _ _ _ _ _ dX9_wet_33 rfl rfl (by refine ⟨rfl, rfl, ?_⟩; (try rw [show (σ (51 + 2 * a.toNat) 3 / 3).toNat = k by omega]); unfold c_owed; (repeat' split) <;> first | omega | assumption)
  · skip
    refine am_aload_n (x := 0) X (by rfl) dX9_wet_7 ?_
    refine am_getr (c1 := 1) X 0 fl_X9_10 (by decide) sh_0 (by decide) (by rfl) dX9_wet_8 ?_
    refine am_iload_n (x := b) X (by rfl) dX9_wet_11 ?_
    refine am_callVi (ci := 5) X hY lk_X9_87 mf_X6_isPair (m_X6_isPair b σ hp) (by decide) (by decide) (Nat.le_refl _) (Nat.le_refl _) sh_1 rfl rfl rfl (Nat.le_of_ble_eq_true rfl) dX9_wet_12 (fun r12 sh12 σ12 hr12 hp12 => ?_)
    obtain ⟨rfl, rfl, hq12⟩ := hp12
    refine am_if_eq (tgt := 31) X dX9_wet_15 (by decide) (fun h15 => ?_) (fun h15 => ?_)
    · skip
      refine am_ldc X (n := -2000000000) (by unfold R32; decide) cn_X9_142 dX9_wet_31 ?_
      exact hret _ _ _ _ _ dX9_wet_33 rfl rfl (by refine ⟨rfl, rfl, ?_⟩; (try rw [show (σ (51 + 2 * a.toNat) 3 / 3).toNat = k by omega]); unfold c_owed; (repeat' split) <;> first | omega | assumption)
    · skip
      refine am_aload_n (x := 0) X (by rfl) dX9_wet_18 ?_
      refine am_getr (c1 := 49) X 0 fl_X9_66 (by decide) sh_0 (by decide) (by rfl) dX9_wet_19 ?_
      refine am_iload_n (x := a) X (by rfl) dX9_wet_22 ?_
      refine am_aald (c1 := (51 + 2 * a.toNat)) X 49 sh_49 (by omega) (by omega) (sh_sv (by omega)) dX9_wet_23 ?_
      refine am_get (v := σ (51 + 2 * a.toNat) 2) X (51 + 2 * a.toNat) fl_X9_109 (by decide) (sh_sf (by omega)) (by decide) (rfl) dX9_wet_24 ?_
      refine am_ic X (by decide) dX9_wet_27 ?_
      refine am_icmp_eq (tgt := 34) X dX9_wet_28 (by decide) (fun h28 => ?_) (fun h28 => ?_)
      · skip
        have hsl := (hs a.toNat (by omega)).2.2.1
        have hsv := (hs a.toNat (by omega)).2.2.2.2.2
        refine am_aload_n (x := 0) X (by rfl) dX9_wet_34 ?_
        refine am_getr (c1 := 49) X 0 fl_X9_66 (by decide) sh_0 (by decide) (by rfl) dX9_wet_35 ?_
        refine am_iload_n (x := a) X (by rfl) dX9_wet_38 ?_
        refine am_aald (c1 := (51 + 2 * a.toNat)) X 49 sh_49 (by omega) (by omega) (sh_sv (by omega)) dX9_wet_39 ?_
        refine am_astore_n (i := 3) (L' := [some (vr 0), some (vi a), some (vi b), some (vr (51 + 2 * a.toNat)), none, none, none]) X rfl (Nat.le_of_ble_eq_true rfl) (by rfl) dX9_wet_40 ?_
        refine am_aload_n (x := 0) X (by rfl) dX9_wet_41 ?_
        refine am_getr (c1 := 16) X 0 fl_X9_33 (by decide) sh_0 (by decide) (by rfl) dX9_wet_42 ?_
        refine am_iload_n (x := b) X (by rfl) dX9_wet_45 ?_
        refine am_bipush X (by decide) dX9_wet_46 ?_
        refine am_div (v := (b / 10)) X (by omega) (by omega) rfl dX9_wet_48 ?_
        refine am_iload_n (x := b) X (by rfl) dX9_wet_49 ?_
        refine am_bipush X (by decide) dX9_wet_50 ?_
        refine am_rem (v := (b % 10)) X (by omega) (by omega) rfl dX9_wet_52 ?_
        refine am_callVi (ci := 4) X hY lk_X9_149 mf_X4_owed (m_X4_owed (b / 10) (b % 10) σ hc hd) (by decide) (by decide) (Nat.le_refl _) (Nat.le_refl _) sh_16 rfl rfl rfl (Nat.le_of_ble_eq_true rfl) dX9_wet_53 (fun r53 sh53 σ53 hr53 hp53 => ?_)
        obtain ⟨rfl, rfl, hq53⟩ := hp53
        refine am_istore (i := 4) (L' := [some (vr 0), some (vi a), some (vi b), some (vr (51 + 2 * a.toNat)), some (vi r53), none, none]) X (Nat.le_of_ble_eq_true rfl) (by rfl) dX9_wet_56 ?_
        refine am_ic X (by decide) dX9_wet_58 ?_
        refine am_istore (i := 5) (L' := [some (vr 0), some (vi a), some (vi b), some (vr (51 + 2 * a.toNat)), some (vi r53), some (vi 0), none]) X (Nat.le_of_ble_eq_true rfl) (by rfl) dX9_wet_59 ?_
        have hL61 : ∀ (m61 : Nat) (k : Nat) (s : Int) (t : Int) (ht : t = 3 * (k : Int)) (hk : 3 * (k : Int) ≤ σ (51 + 2 * a.toNat) 3) (hw : s = r53 - am_sum (c_wetf σ a.toNat (b / 10) (b % 10)) k) (hm61 : 200 - k = m61), am_G K 61 [some (vr 0), some (vi a), some (vi b), some (vr (51 + 2 * a.toNat)), some (vi s), some (vi t), none] [] SH σ := by
          intro m61
          induction m61 using Nat.strongRecOn with
          | ind m61 ih61 =>
          intro k s t ht hk hw hm61
          have hb := am_sum_rg (f := c_wetf σ a.toNat (b / 10) (b % 10)) (m := 32768) k (fun j hj => by have h9 := hsv (3 * j + 2) (by omega) (by omega); unfold c_wetf; (repeat' split) <;> omega)
          refine am_iload (x := t) X (by rfl) dX9_wet_61 ?_
          refine am_ic X (by decide) dX9_wet_63 ?_
          refine am_add (v := (t + 2)) X (by first | rfl | omega) (by omega) dX9_wet_64 ?_
          refine am_aload_n (x := (51 + 2 * a.toNat)) X (by rfl) dX9_wet_65 ?_
          refine am_get (v := σ (51 + 2 * a.toNat) 3) X (51 + 2 * a.toNat) fl_X9_252 (by decide) (sh_sf (by omega)) (by decide) (rfl) dX9_wet_66 ?_
          refine am_icmp_ge (tgt := 129) X dX9_wet_69 (by decide) (fun h69 => ?_) (fun h69 => ?_)
          · skip
            refine am_iload (x := s) X (by rfl) dX9_wet_129 ?_
            exact hret _ _ _ _ _ dX9_wet_131 rfl rfl (by refine ⟨rfl, rfl, ?_⟩; (try rw [show (σ (51 + 2 * a.toNat) 3 / 3).toNat = k by omega]); unfold c_owed; (repeat' split) <;> first | omega | assumption)
          · skip
            refine am_aload_n (x := (51 + 2 * a.toNat)) X (by rfl) dX9_wet_72 ?_
            refine am_iload (x := t) X (by rfl) dX9_wet_73 ?_
            refine am_ic X (by decide) dX9_wet_75 ?_
            refine am_add (v := (t + 2)) X (by first | rfl | omega) (by omega) dX9_wet_76 ?_
            refine am_callVi (ci := 6) X hY lk_X9_259 mf_X7_number (m_X7_number a.toNat (by omega) (t + 2) (3 * k + 2) (by omega) (by omega) σ (hsv _ (by omega) (by omega))) (by decide) (by decide) (Nat.le_refl _) (Nat.le_refl _) (sh_sf (by omega)) rfl rfl rfl (Nat.le_of_ble_eq_true rfl) dX9_wet_77 (fun r77 sh77 σ77 hr77 hp77 => ?_)
            obtain ⟨rfl, rfl, hq77⟩ := hp77
            refine am_istore (i := 6) (L' := [some (vr 0), some (vi a), some (vi b), some (vr (51 + 2 * a.toNat)), some (vi s), some (vi t), some (vi r77)]) X (Nat.le_of_ble_eq_true rfl) (by rfl) dX9_wet_80 ?_
            refine am_aload_n (x := (51 + 2 * a.toNat)) X (by rfl) dX9_wet_82 ?_
            refine am_iload (x := t) X (by rfl) dX9_wet_83 ?_
            refine am_callVi (ci := 6) X hY lk_X9_259 mf_X7_number (m_X7_number a.toNat (by omega) t (3 * k) (by omega) (by omega) σ (hsv _ (by omega) (by omega))) (by decide) (by decide) (Nat.le_refl _) (Nat.le_refl _) (sh_sf (by omega)) rfl rfl rfl (Nat.le_of_ble_eq_true rfl) dX9_wet_85 (fun r85 sh85 σ85 hr85 hp85 => ?_)
            obtain ⟨rfl, rfl, hq85⟩ := hp85
            refine am_iload_n (x := b) X (by rfl) dX9_wet_88 ?_
            refine am_bipush X (by decide) dX9_wet_89 ?_
            refine am_div (v := (b / 10)) X (by omega) (by omega) rfl dX9_wet_91 ?_
            refine am_icmp_ne (tgt := 123) X dX9_wet_92 (by decide) (fun h92 => ?_) (fun h92 => ?_)
            · skip
              refine am_inc (x := t) (v := (t + 3)) (L' := [some (vr 0), some (vi a), some (vi b), some (vr (51 + 2 * a.toNat)), some (vi s), some (vi (t + 3)), some (vi r77)]) X (by rfl) (by omega) (by omega) (by rfl) dX9_wet_123 ?_
              refine am_goto (tgt := 61) X dX9_wet_126 (by decide) ?_
              refine am_fg [true, true, true, true, true, true, false] rfl (L' := [some (vr 0), some (vi a), some (vi b), some (vr (51 + 2 * a.toNat)), some (vi s), some (vi (t + 3)), none]) rfl ?_
              exact ih61 _ (by omega) (k + 1) _ _ (by omega) (by omega) (by (try subst s); show _ = r53 - (am_sum (c_wetf σ a.toNat (b / 10) (b % 10)) k + c_wetf σ a.toNat (b / 10) (b % 10) k); unfold c_wetf at *; first | (rw [if_pos (by omega)]; omega) | (rw [if_neg (by omega)]; omega)) rfl
            · skip
              refine am_aload_n (x := (51 + 2 * a.toNat)) X (by rfl) dX9_wet_95 ?_
              refine am_iload (x := t) X (by rfl) dX9_wet_96 ?_
              refine am_ic X (by decide) dX9_wet_98 ?_
              refine am_add (v := (t + 1)) X (by first | rfl | omega) (by omega) dX9_wet_99 ?_
              refine am_callVi (ci := 6) X hY lk_X9_259 mf_X7_number (m_X7_number a.toNat (by omega) (t + 1) (3 * k + 1) (by omega) (by omega) σ (hsv _ (by omega) (by omega))) (by decide) (by decide) (Nat.le_refl _) (Nat.le_refl _) (sh_sf (by omega)) rfl rfl rfl (Nat.le_of_ble_eq_true rfl) dX9_wet_100 (fun r100 sh100 σ100 hr100 hp100 => ?_)
              obtain ⟨rfl, rfl, hq100⟩ := hp100
              refine am_iload_n (x := b) X (by rfl) dX9_wet_103 ?_
              refine am_bipush X (by decide) dX9_wet_104 ?_
              refine am_rem (v := (b % 10)) X (by omega) (by omega) rfl dX9_wet_106 ?_
              refine am_icmp_ne (tgt := 123) X dX9_wet_107 (by decide) (fun h107 => ?_) (fun h107 => ?_)
              · skip
                refine am_inc (x := t) (v := (t + 3)) (L' := [some (vr 0), some (vi a), some (vi b), some (vr (51 + 2 * a.toNat)), some (vi s), some (vi (t + 3)), some (vi r77)]) X (by rfl) (by omega) (by omega) (by rfl) dX9_wet_123 ?_
                refine am_goto (tgt := 61) X dX9_wet_126 (by decide) ?_
                refine am_fg [true, true, true, true, true, true, false] rfl (L' := [some (vr 0), some (vi a), some (vi b), some (vr (51 + 2 * a.toNat)), some (vi s), some (vi (t + 3)), none]) rfl ?_
                exact ih61 _ (by omega) (k + 1) _ _ (by omega) (by omega) (by (try subst s); show _ = r53 - (am_sum (c_wetf σ a.toNat (b / 10) (b % 10)) k + c_wetf σ a.toNat (b / 10) (b % 10) k); unfold c_wetf at *; first | (rw [if_pos (by omega)]; omega) | (rw [if_neg (by omega)]; omega)) rfl
              · skip
                refine am_iload (x := r77) X (by rfl) dX9_wet_110 ?_
                refine am_ic X (by decide) dX9_wet_112 ?_
                refine am_icmp_eq (tgt := 123) X dX9_wet_113 (by decide) (fun h113 => ?_) (fun h113 => ?_)
                · skip
                  refine am_inc (x := t) (v := (t + 3)) (L' := [some (vr 0), some (vi a), some (vi b), some (vr (51 + 2 * a.toNat)), some (vi s), some (vi (t + 3)), some (vi r77)]) X (by rfl) (by omega) (by omega) (by rfl) dX9_wet_123 ?_
                  refine am_goto (tgt := 61) X dX9_wet_126 (by decide) ?_
                  refine am_fg [true, true, true, true, true, true, false] rfl (L' := [some (vr 0), some (vi a), some (vi b), some (vr (51 + 2 * a.toNat)), some (vi s), some (vi (t + 3)), none]) rfl ?_
                  exact ih61 _ (by omega) (k + 1) _ _ (by omega) (by omega) (by (try subst s); show _ = r53 - (am_sum (c_wetf σ a.toNat (b / 10) (b % 10)) k + c_wetf σ a.toNat (b / 10) (b % 10) k); unfold c_wetf at *; first | (rw [if_pos (by omega)]; omega) | (rw [if_neg (by omega)]; omega)) rfl
                · skip
                  have h9 := hsv (3 * k + 2) (by omega) (by omega)
                  refine am_iload (x := s) X (by rfl) dX9_wet_116 ?_
                  refine am_iload (x := r77) X (by rfl) dX9_wet_118 ?_
                  refine am_sub (v := (s - r77)) X (by first | rfl | omega) (by omega) dX9_wet_120 ?_
                  refine am_istore (i := 4) (L' := [some (vr 0), some (vi a), some (vi b), some (vr (51 + 2 * a.toNat)), some (vi (s - r77)), some (vi t), some (vi r77)]) X (Nat.le_of_ble_eq_true rfl) (by rfl) dX9_wet_121 ?_
                  refine am_inc (x := t) (v := (t + 3)) (L' := [some (vr 0), some (vi a), some (vi b), some (vr (51 + 2 * a.toNat)), some (vi (s - r77)), some (vi (t + 3)), some (vi r77)]) X (by rfl) (by omega) (by omega) (by rfl) dX9_wet_123 ?_
                  refine am_goto (tgt := 61) X dX9_wet_126 (by decide) ?_
                  refine am_fg [true, true, true, true, true, true, false] rfl (L' := [some (vr 0), some (vi a), some (vi b), some (vr (51 + 2 * a.toNat)), some (vi (s - r77)), some (vi (t + 3)), none]) rfl ?_
                  exact ih61 _ (by omega) (k + 1) _ _ (by omega) (by omega) (by (try subst s); show _ = r53 - (am_sum (c_wetf σ a.toNat (b / 10) (b % 10)) k + c_wetf σ a.toNat (b / 10) (b % 10) k); unfold c_wetf at *; first | (rw [if_pos (by omega)]; omega) | (rw [if_neg (by omega)]; omega)) rfl
        exact hL61 _ 0 _ 0 (by omega) (by omega) (by simp [am_sum]) rfl
      · skip
        refine am_ldc X (n := -2000000000) (by unfold R32; decide) cn_X9_142 dX9_wet_31 ?_
        exact hret _ _ _ _ _ dX9_wet_33 rfl rfl (by refine ⟨rfl, rfl, ?_⟩; (try rw [show (σ (51 + 2 * a.toNat) 3 / 3).toNat = k by omega]); unfold c_owed; (repeat' split) <;> first | omega | assumption)
