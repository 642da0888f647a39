set_option maxHeartbeats 4000000 in
set_option maxRecDepth 100000 in
theorem m_X10_loses (a : Int) (k : Nat) (ha : a = k) (hk : k < 20) (b : Int) (σ : am_H) (hb : 0 ≤ σ 68 (5 * k + 2) ∧ σ 68 (5 * k + 2) ≤ 9 ∧ 0 ≤ b ∧ b ≤ 9) : am_Mv yX10_loses cX10_loses 3 none 0 0 0 [vr 63, vi a, vi b] SH σ (fun sh' σ' => SH = sh' ∧ (md_less σ k b) = σ' ∧ True) := by
  refine am_Mv_of (by decide +kernel) (Nat.le_of_ble_eq_true rfl) (fun K X hY hI hret => ?_)
  show am_G K 0 [some (vr 63), some (vi a), some (vi b)] [] SH σ
  refine am_aload_n (x := 63) X (by rfl) dX10_loses_0 ?_
  refine am_getr (c1 := 68) X 63 fl_X10_22 (by decide) sh_63 (by decide) (by rfl) dX10_loses_1 ?_
  refine am_ic X (by decide) dX10_loses_4 ?_
  refine am_iload_n (x := a) X (by rfl) dX10_loses_5 ?_
  refine am_mul (v := (5 * a)) X (by first | rfl | omega) (by omega) dX10_loses_6 ?_
  refine am_ic X (by decide) dX10_loses_7 ?_
  refine am_add (v := ((5 * a) + 2)) X (by first | rfl | omega) (by omega) dX10_loses_8 ?_
  refine am_dup2 X (Nat.ne_of_beq_eq_false rfl) (Nat.ne_of_beq_eq_false rfl) dX10_loses_9 ?_
  refine am_ald (v := σ 68 (5 * k + 2)) X 68 (5 * k + 2) sh_68 (by omega) (by omega) (rfl) dX10_loses_10 ?_
  refine am_iload_n (x := b) X (by rfl) dX10_loses_11 ?_
  refine am_sub (v := (σ 68 (5 * k + 2) - b)) X (by first | rfl | omega) (by omega) dX10_loses_12 ?_
  refine am_ast X 68 (5 * k + 2) sh_68 (by omega) (by omega) dX10_loses_13 ?_
  refine am_aload_n (x := 63) X (by rfl) dX10_loses_14 ?_
  refine am_getr (c1 := 68) X 63 fl_X10_22 (by decide) sh_63 (by decide) (by rfl) dX10_loses_15 ?_
  refine am_ic X (by decide) dX10_loses_18 ?_
  refine am_iload_n (x := a) X (by rfl) dX10_loses_19 ?_
  refine am_mul (v := (5 * a)) X (by first | rfl | omega) (by omega) dX10_loses_20 ?_
  refine am_ic X (by decide) dX10_loses_21 ?_
  refine am_add (v := ((5 * a) + 4)) X (by first | rfl | omega) (by omega) dX10_loses_22 ?_
  refine am_aload_n (x := 63) X (by rfl) dX10_loses_23 ?_
  refine am_getr (c1 := 68) X 63 fl_X10_22 (by decide) sh_63 (by decide) (by rfl) dX10_loses_24 ?_
  refine am_ic X (by decide) dX10_loses_27 ?_
  refine am_iload_n (x := a) X (by rfl) dX10_loses_28 ?_
  refine am_mul (v := (5 * a)) X (by first | rfl | omega) (by omega) dX10_loses_29 ?_
  refine am_ic X (by decide) dX10_loses_30 ?_
  refine am_add (v := ((5 * a) + 2)) X (by first | rfl | omega) (by omega) dX10_loses_31 ?_
  refine am_ald (v := (σ 68 (5 * k + 2) - b)) X 68 (5 * k + 2) sh_68 (by omega) (by omega) (by simp [am_up]) dX10_loses_32 ?_
  refine am_if_ne (tgt := 40) X dX10_loses_33 (by decide) (fun h33 => ?_) (fun h33 => ?_)
  · skip
    refine am_aload_n (x := 63) X (by rfl) dX10_loses_40 ?_
    refine am_getr (c1 := 68) X 63 fl_X10_22 (by decide) sh_63 (by decide) (by rfl) dX10_loses_41 ?_
    refine am_ic X (by decide) dX10_loses_44 ?_
    refine am_iload_n (x := a) X (by rfl) dX10_loses_45 ?_
    refine am_mul (v := (5 * a)) X (by first | rfl | omega) (by omega) dX10_loses_46 ?_
    refine am_ic X (by decide) dX10_loses_47 ?_
    refine am_add (v := ((5 * a) + 4)) X (by first | rfl | omega) (by omega) dX10_loses_48 ?_
    refine am_ald (v := σ 68 (5 * k + 4)) X 68 (5 * k + 4) sh_68 (by omega) (by omega) (by simp [am_up]) dX10_loses_49 ?_
    refine am_ast X 68 (5 * k + 4) sh_68 (by omega) (by omega) dX10_loses_50 ?_
    exact hret _ _ _ _ dX10_loses_51 rfl rfl (by refine ⟨rfl, ?_, trivial⟩; unfold md_less; first | rw [if_pos (by omega)] | rw [if_neg (by omega)])
  · skip
    refine am_ic X (by decide) dX10_loses_36 ?_
    refine am_goto (tgt := 50) X dX10_loses_37 (by decide) ?_
    refine am_ast X 68 (5 * k + 4) sh_68 (by omega) (by omega) dX10_loses_50 ?_
    exact hret _ _ _ _ dX10_loses_51 rfl rfl (by refine ⟨rfl, ?_, trivial⟩; unfold md_less; first | rw [if_pos (by omega)] | rw [if_neg (by omega)])

set_option maxHeartbeats 4000000 in
set_option maxRecDepth 100000 in
theorem m_X10_person (a : Int) (σ : am_H) (hp : 0 ≤ σ 63 6 ∧ σ 63 6 ≤ 8) : am_Mi yX10_person cX10_person 2 (some .int) 1 0 0 [vr 63, vi a] SH σ (fun r sh' σ' => SH = sh' ∧ ((¬ (1 ≤ a ∧ a ≤ 9) ∧ r = -1 ∧ σ = σ') ∨ (((1 ≤ a ∧ a ≤ 9) ∧ σ 63 6 = 8) ∧ r = -3 ∧ σ = σ') ∨ (((1 ≤ a ∧ a ≤ 9) ∧ σ 63 6 < 8) ∧ r = σ 63 6 ∧ (md_person σ a) = σ'))) := by
  refine am_Mi_of (by decide +kernel) (Nat.le_of_ble_eq_true rfl) (fun K X hY hI hret => ?_)
  show am_G K 0 [some (vr 63), some (vi a)] [] SH σ
  refine am_iload_n (x := a) X (by rfl) dX10_person_0 ?_
  refine am_i2l X dX10_person_1 ?_
  refine am_lc (v := 1) X (by rfl) dX10_person_2 ?_
  refine am_ldc2 X (n := 9) (by unfold R64; decide) cn_X10_116 dX10_person_3 ?_
  refine am_callSi X hY lk_X10_103 mf_X10_within (m_X10_within a 1 9 _ σ) (by decide) (by decide) (Nat.le_refl _) (Nat.le_refl _) rfl rfl (Nat.le_of_ble_eq_true rfl) dX10_person_6 (fun r6 sh6 σ6 hr6 hp6 => ?_)
  obtain ⟨rfl, rfl, hq6⟩ := hp6
  refine am_if_ne (tgt := 14) X dX10_person_9 (by decide) (fun h9 => ?_) (fun h9 => ?_)
  · skip
    refine am_aload_n (x := 63) X (by rfl) dX10_person_14 ?_
    refine am_get (v := σ 63 6) X 63 fl_X10_100 (by decide) sh_63 (by decide) (rfl) dX10_person_15 ?_
    refine am_bipush X (by decide) dX10_person_18 ?_
    refine am_icmp_ne (tgt := 26) X dX10_person_20 (by decide) (fun h20 => ?_) (fun h20 => ?_)
    · skip
      refine am_aload_n (x := 63) X (by rfl) dX10_person_26 ?_
      refine am_getr (c1 := 64) X 63 fl_X10_9 (by decide) sh_63 (by decide) (by rfl) dX10_person_27 ?_
      refine am_bipush X (by decide) dX10_person_30 ?_
      refine am_aload_n (x := 63) X (by rfl) dX10_person_32 ?_
      refine am_get (v := σ 63 6) X 63 fl_X10_100 (by decide) sh_63 (by decide) (rfl) dX10_person_33 ?_
      refine am_add (v := (12 + σ 63 6)) X (by first | rfl | omega) (by omega) dX10_person_36 ?_
      refine am_iload_n (x := a) X (by rfl) dX10_person_37 ?_
      refine am_ast X 64 (((12 + σ 63 6)).toNat) sh_64 (by omega) (by omega) dX10_person_38 ?_
      refine am_aload_n (x := 63) X (by rfl) dX10_person_39 ?_
      refine am_dup X (Nat.ne_of_beq_eq_false rfl) dX10_person_40 ?_
      refine am_get (v := σ 63 6) X 63 fl_X10_100 (by decide) sh_63 (by decide) (by simp [am_up]) dX10_person_41 ?_
      refine am_ic X (by decide) dX10_person_44 ?_
      refine am_add (v := (σ 63 6 + 1)) X (by first | rfl | omega) (by omega) dX10_person_45 ?_
      refine am_puti X 63 fl_X10_100 rfl rfl sh_63 (by decide) dX10_person_46 ?_
      refine am_aload_n (x := 63) X (by rfl) dX10_person_49 ?_
      refine am_get (v := (σ 63 6 + 1)) X 63 fl_X10_100 (by decide) sh_63 (by decide) (by simp [am_up]) dX10_person_50 ?_
      refine am_ic X (by decide) dX10_person_53 ?_
      refine am_sub (v := ((σ 63 6 + 1) - 1)) X (by first | rfl | omega) (by omega) dX10_person_54 ?_
      exact hret _ _ _ _ _ dX10_person_55 rfl rfl (by first | exact ⟨rfl, Or.inl ⟨by omega, by omega, rfl⟩⟩ | exact ⟨rfl, Or.inr (Or.inl ⟨by omega, by omega, rfl⟩)⟩ | exact ⟨rfl, Or.inr (Or.inr (⟨by omega, by omega, rfl⟩))⟩)
    · skip
      refine am_bipush X (by decide) dX10_person_23 ?_
      exact hret _ _ _ _ _ dX10_person_25 rfl rfl (by first | exact ⟨rfl, Or.inl ⟨by omega, by omega, rfl⟩⟩ | exact ⟨rfl, Or.inr (Or.inl ⟨by omega, by omega, rfl⟩)⟩ | exact ⟨rfl, Or.inr (Or.inr (⟨by omega, by omega, rfl⟩))⟩)
  · skip
    refine am_ic X (by decide) dX10_person_12 ?_
    exact hret _ _ _ _ _ dX10_person_13 rfl rfl (by first | exact ⟨rfl, Or.inl ⟨by omega, by omega, rfl⟩⟩ | exact ⟨rfl, Or.inr (Or.inl ⟨by omega, by omega, rfl⟩)⟩ | exact ⟨rfl, Or.inr (Or.inr (⟨by omega, by omega, rfl⟩))⟩)

set_option maxHeartbeats 4000000 in
set_option maxRecDepth 100000 in
theorem m_X10_adds (p q d k : Int) (n : Nat) (σ : am_H) (hn : σ 63 7 = n ∧ n < 20) : am_Mv yX10_adds cX10_adds 5 none 0 0 0 [vr 63, vi p, vi q, vi d, vi k] SH σ (fun sh' σ' => SH = sh' ∧ (md_adds σ n p q d k) = σ' ∧ True) := by
  refine am_Mv_of (by decide +kernel) (Nat.le_of_ble_eq_true rfl) (fun K X hY hI hret => ?_)
  show am_G K 0 [some (vr 63), some (vi p), some (vi q), some (vi d), some (vi k)] [] SH σ
  refine am_aload_n (x := 63) X (by rfl) dX10_adds_0 ?_
  refine am_getr (c1 := 68) X 63 fl_X10_22 (by decide) sh_63 (by decide) (by rfl) dX10_adds_1 ?_
  refine am_ic X (by decide) dX10_adds_4 ?_
  refine am_aload_n (x := 63) X (by rfl) dX10_adds_5 ?_
  refine am_get (v := σ 63 7) X 63 fl_X10_111 (by decide) sh_63 (by decide) (rfl) dX10_adds_6 ?_
  refine am_mul (v := (5 * σ 63 7)) X (by first | rfl | omega) (by omega) dX10_adds_9 ?_
  refine am_iload_n (x := p) X (by rfl) dX10_adds_10 ?_
  refine am_ast X 68 (5 * n) sh_68 (by omega) (by omega) dX10_adds_11 ?_
  refine am_aload_n (x := 63) X (by rfl) dX10_adds_12 ?_
  refine am_getr (c1 := 68) X 63 fl_X10_22 (by decide) sh_63 (by decide) (by rfl) dX10_adds_13 ?_
  refine am_ic X (by decide) dX10_adds_16 ?_
  refine am_aload_n (x := 63) X (by rfl) dX10_adds_17 ?_
  refine am_get (v := σ 63 7) X 63 fl_X10_111 (by decide) sh_63 (by decide) (by simp [am_up]) dX10_adds_18 ?_
  refine am_mul (v := (5 * σ 63 7)) X (by first | rfl | omega) (by omega) dX10_adds_21 ?_
  refine am_ic X (by decide) dX10_adds_22 ?_
  refine am_add (v := ((5 * σ 63 7) + 1)) X (by first | rfl | omega) (by omega) dX10_adds_23 ?_
  refine am_iload_n (x := q) X (by rfl) dX10_adds_24 ?_
  refine am_ast X 68 (5 * n + 1) sh_68 (by omega) (by omega) dX10_adds_25 ?_
  refine am_aload_n (x := 63) X (by rfl) dX10_adds_26 ?_
  refine am_getr (c1 := 68) X 63 fl_X10_22 (by decide) sh_63 (by decide) (by rfl) dX10_adds_27 ?_
  refine am_ic X (by decide) dX10_adds_30 ?_
  refine am_aload_n (x := 63) X (by rfl) dX10_adds_31 ?_
  refine am_get (v := σ 63 7) X 63 fl_X10_111 (by decide) sh_63 (by decide) (by simp [am_up]) dX10_adds_32 ?_
  refine am_mul (v := (5 * σ 63 7)) X (by first | rfl | omega) (by omega) dX10_adds_35 ?_
  refine am_ic X (by decide) dX10_adds_36 ?_
  refine am_add (v := ((5 * σ 63 7) + 2)) X (by first | rfl | omega) (by omega) dX10_adds_37 ?_
  refine am_iload_n (x := d) X (by rfl) dX10_adds_38 ?_
  refine am_ast X 68 (5 * n + 2) sh_68 (by omega) (by omega) dX10_adds_39 ?_
  refine am_aload_n (x := 63) X (by rfl) dX10_adds_40 ?_
  refine am_getr (c1 := 68) X 63 fl_X10_22 (by decide) sh_63 (by decide) (by rfl) dX10_adds_41 ?_
  refine am_ic X (by decide) dX10_adds_44 ?_
  refine am_aload_n (x := 63) X (by rfl) dX10_adds_45 ?_
  refine am_get (v := σ 63 7) X 63 fl_X10_111 (by decide) sh_63 (by decide) (by simp [am_up]) dX10_adds_46 ?_
  refine am_mul (v := (5 * σ 63 7)) X (by first | rfl | omega) (by omega) dX10_adds_49 ?_
  refine am_ic X (by decide) dX10_adds_50 ?_
  refine am_add (v := ((5 * σ 63 7) + 3)) X (by first | rfl | omega) (by omega) dX10_adds_51 ?_
  refine am_iload (x := k) X (by rfl) dX10_adds_52 ?_
  refine am_ast X 68 (5 * n + 3) sh_68 (by omega) (by omega) dX10_adds_54 ?_
  refine am_aload_n (x := 63) X (by rfl) dX10_adds_55 ?_
  refine am_getr (c1 := 68) X 63 fl_X10_22 (by decide) sh_63 (by decide) (by rfl) dX10_adds_56 ?_
  refine am_ic X (by decide) dX10_adds_59 ?_
  refine am_aload_n (x := 63) X (by rfl) dX10_adds_60 ?_
  refine am_get (v := σ 63 7) X 63 fl_X10_111 (by decide) sh_63 (by decide) (by simp [am_up]) dX10_adds_61 ?_
  refine am_mul (v := (5 * σ 63 7)) X (by first | rfl | omega) (by omega) dX10_adds_64 ?_
  refine am_ic X (by decide) dX10_adds_65 ?_
  refine am_add (v := ((5 * σ 63 7) + 4)) X (by first | rfl | omega) (by omega) dX10_adds_66 ?_
  refine am_ic X (by decide) dX10_adds_67 ?_
  refine am_ast X 68 (5 * n + 4) sh_68 (by omega) (by omega) dX10_adds_68 ?_
  refine am_aload_n (x := 63) X (by rfl) dX10_adds_69 ?_
  refine am_dup X (Nat.ne_of_beq_eq_false rfl) dX10_adds_70 ?_
  refine am_get (v := σ 63 7) X 63 fl_X10_111 (by decide) sh_63 (by decide) (by simp [am_up]) dX10_adds_71 ?_
  refine am_ic X (by decide) dX10_adds_74 ?_
  refine am_add (v := (σ 63 7 + 1)) X (by first | rfl | omega) (by omega) dX10_adds_75 ?_
  refine am_puti X 63 fl_X10_111 rfl rfl sh_63 (by decide) dX10_adds_76 ?_
  exact hret _ _ _ _ dX10_adds_79 rfl rfl (⟨rfl, rfl, trivial⟩)

set_option maxHeartbeats 4000000 in
set_option maxRecDepth 100000 in
theorem m_X10_debt (a b : Int) (σ : am_H) (hp : 0 ≤ σ 63 6 ∧ σ 63 6 ≤ 8) (hc : 0 ≤ σ 63 7 ∧ σ 63 7 ≤ 20) : am_Mi yX10_debt cX10_debt 3 (some .int) 2 0 0 [vr 63, vi a, vi b] SH σ (fun r sh' σ' => SH = sh' ∧ ((¬ ((0 ≤ a ∧ (0 ≤ a / 10 ∧ a / 10 < σ 63 6) ∧ (0 ≤ a % 10 ∧ a % 10 < σ 63 6) ∧ a / 10 ≠ a % 10) ∧ 0 ≤ b ∧ (1 ≤ b / 100 ∧ b / 100 ≤ 9) ∧ 0 ≤ b % 100 ∧ b % 100 ≤ 12) ∧ r = -1 ∧ σ = σ') ∨ ((((0 ≤ a ∧ (0 ≤ a / 10 ∧ a / 10 < σ 63 6) ∧ (0 ≤ a % 10 ∧ a % 10 < σ 63 6) ∧ a / 10 ≠ a % 10) ∧ 0 ≤ b ∧ (1 ≤ b / 100 ∧ b / 100 ≤ 9) ∧ 0 ≤ b % 100 ∧ b % 100 ≤ 12) ∧ σ 63 7 = 20) ∧ r = -3 ∧ σ = σ') ∨ ((((0 ≤ a ∧ (0 ≤ a / 10 ∧ a / 10 < σ 63 6) ∧ (0 ≤ a % 10 ∧ a % 10 < σ 63 6) ∧ a / 10 ≠ a % 10) ∧ 0 ≤ b ∧ (1 ≤ b / 100 ∧ b / 100 ≤ 9) ∧ 0 ≤ b % 100 ∧ b % 100 ≤ 12) ∧ σ 63 7 < 20) ∧ r = σ 63 7 ∧ (md_adds σ (σ 63 7).toNat (a / 10) (a % 10) (b / 100) (b % 100)) = σ'))) := by
  refine am_Mi_of (by decide +kernel) (Nat.le_of_ble_eq_true rfl) (fun K X hY hI hret => ?_)
  show am_G K 0 [some (vr 63), some (vi a), some (vi b)] [] SH σ
  refine am_iload_n (x := a) X (by rfl) dX10_debt_0 ?_
  refine am_if_lt (tgt := 35) X dX10_debt_1 (by decide) (fun h1 => ?_) (fun h1 => ?_)
  · skip
    refine am_ic X (by decide) dX10_debt_35 ?_
    exact hret _ _ _ _ _ dX10_debt_36 rfl rfl (by first | exact ⟨rfl, Or.inl ⟨by omega, by omega, rfl⟩⟩ | exact ⟨rfl, Or.inr (Or.inl ⟨by omega, by omega, rfl⟩)⟩ | exact ⟨rfl, Or.inr (Or.inr (⟨by omega, by omega, rfl⟩))⟩)
  · skip
    refine am_iload_n (x := b) X (by rfl) dX10_debt_4 ?_
    refine am_if_lt (tgt := 35) X dX10_debt_5 (by decide) (fun h5 => ?_) (fun h5 => ?_)
    · skip
      refine am_ic X (by decide) dX10_debt_35 ?_
      exact hret _ _ _ _ _ dX10_debt_36 rfl rfl (by first | exact ⟨rfl, Or.inl ⟨by omega, by omega, rfl⟩⟩ | exact ⟨rfl, Or.inr (Or.inl ⟨by omega, by omega, rfl⟩)⟩ | exact ⟨rfl, Or.inr (Or.inr (⟨by omega, by omega, rfl⟩))⟩)
    · skip
      refine am_aload_n (x := 63) X (by rfl) dX10_debt_8 ?_
      refine am_iload_n (x := a) X (by rfl) dX10_debt_9 ?_
      refine am_bipush X (by decide) dX10_debt_10 ?_
      refine am_div (v := (a / 10)) X (by omega) (by omega) rfl dX10_debt_12 ?_
      refine am_i2l X dX10_debt_13 ?_
      refine am_iload_n (x := a) X (by rfl) dX10_debt_14 ?_
      refine am_bipush X (by decide) dX10_debt_15 ?_
      refine am_rem (v := (a % 10)) X (by omega) (by omega) rfl dX10_debt_17 ?_
      refine am_i2l X dX10_debt_18 ?_
      refine am_iload_n (x := b) X (by rfl) dX10_debt_19 ?_
      refine am_bipush X (by decide) dX10_debt_20 ?_
      refine am_div (v := (b / 100)) X (by omega) (by omega) rfl dX10_debt_22 ?_
      refine am_i2l X dX10_debt_23 ?_
      refine am_iload_n (x := b) X (by rfl) dX10_debt_24 ?_
      refine am_bipush X (by decide) dX10_debt_25 ?_
      refine am_rem (v := (b % 100)) X (by omega) (by omega) rfl dX10_debt_27 ?_
      refine am_i2l X dX10_debt_28 ?_
      refine am_callVi (ci := 9) X hY lk_X10_120 mf_X10_isOne (m_X10_isOne (a / 10) (a % 10) (b / 100) (b % 100) σ hp) (by decide) (by decide) (Nat.le_refl _) (Nat.le_refl _) sh_63 rfl rfl rfl (Nat.le_of_ble_eq_true rfl) dX10_debt_29 (fun r29 sh29 σ29 hr29 hp29 => ?_)
      obtain ⟨rfl, rfl, hq29⟩ := hp29
      refine am_if_ne (tgt := 37) X dX10_debt_32 (by decide) (fun h32 => ?_) (fun h32 => ?_)
      · skip
        refine am_aload_n (x := 63) X (by rfl) dX10_debt_37 ?_
        refine am_get (v := σ 63 7) X 63 fl_X10_111 (by decide) sh_63 (by decide) (rfl) dX10_debt_38 ?_
        refine am_bipush X (by decide) dX10_debt_41 ?_
        refine am_icmp_ne (tgt := 49) X dX10_debt_43 (by decide) (fun h43 => ?_) (fun h43 => ?_)
        · skip
          refine am_aload_n (x := 63) X (by rfl) dX10_debt_49 ?_
          refine am_iload_n (x := a) X (by rfl) dX10_debt_50 ?_
          refine am_bipush X (by decide) dX10_debt_51 ?_
          refine am_div (v := (a / 10)) X (by omega) (by omega) rfl dX10_debt_53 ?_
          refine am_iload_n (x := a) X (by rfl) dX10_debt_54 ?_
          refine am_bipush X (by decide) dX10_debt_55 ?_
          refine am_rem (v := (a % 10)) X (by omega) (by omega) rfl dX10_debt_57 ?_
          refine am_iload_n (x := b) X (by rfl) dX10_debt_58 ?_
          refine am_bipush X (by decide) dX10_debt_59 ?_
          refine am_div (v := (b / 100)) X (by omega) (by omega) rfl dX10_debt_61 ?_
          refine am_iload_n (x := b) X (by rfl) dX10_debt_62 ?_
          refine am_bipush X (by decide) dX10_debt_63 ?_
          refine am_rem (v := (b % 100)) X (by omega) (by omega) rfl dX10_debt_65 ?_
          refine am_callVv (ci := 9) X hY lk_X10_124 mf_X10_adds (m_X10_adds (a / 10) (a % 10) (b / 100) (b % 100) (σ 63 7).toNat σ (by omega)) (by decide) (by decide) (Nat.le_refl _) (Nat.le_refl _) sh_63 rfl rfl rfl (Nat.le_of_ble_eq_true rfl) dX10_debt_66 (fun sh66 σ66 hp66 => ?_)
          obtain ⟨rfl, rfl, hq66⟩ := hp66
          refine am_aload_n (x := 63) X (by rfl) dX10_debt_69 ?_
          refine am_get (v := (σ 63 7 + 1)) X 63 fl_X10_111 (by decide) sh_63 (by decide) (by unfold md_adds; exact am_up_eq) dX10_debt_70 ?_
          refine am_ic X (by decide) dX10_debt_73 ?_
          refine am_sub (v := ((σ 63 7 + 1) - 1)) X (by first | rfl | omega) (by omega) dX10_debt_74 ?_
          exact hret _ _ _ _ _ dX10_debt_75 rfl rfl (by first | exact ⟨rfl, Or.inl ⟨by omega, by omega, rfl⟩⟩ | exact ⟨rfl, Or.inr (Or.inl ⟨by omega, by omega, rfl⟩)⟩ | exact ⟨rfl, Or.inr (Or.inr (⟨by omega, by omega, rfl⟩))⟩)
        · skip
          refine am_bipush X (by decide) dX10_debt_46 ?_
          exact hret _ _ _ _ _ dX10_debt_48 rfl rfl (by first | exact ⟨rfl, Or.inl ⟨by omega, by omega, rfl⟩⟩ | exact ⟨rfl, Or.inr (Or.inl ⟨by omega, by omega, rfl⟩)⟩ | exact ⟨rfl, Or.inr (Or.inr (⟨by omega, by omega, rfl⟩))⟩)
      · skip
        refine am_ic X (by decide) dX10_debt_35 ?_
        exact hret _ _ _ _ _ dX10_debt_36 rfl rfl (by first | exact ⟨rfl, Or.inl ⟨by omega, by omega, rfl⟩⟩ | exact ⟨rfl, Or.inr (Or.inl ⟨by omega, by omega, rfl⟩)⟩ | exact ⟨rfl, Or.inr (Or.inr (⟨by omega, by omega, rfl⟩))⟩)

set_option maxHeartbeats 4000000 in
set_option maxRecDepth 100000 in
theorem m_X10_becomes (a : Int) (w : Nat) (ha : a = w) (hw : w < 22) (v : Int) (σ : am_H) (hD : 0 ≤ σ 63 5 ∧ σ 63 5 ≤ 40) : am_Mi yX10_becomes cX10_becomes 5 (some .int) 0 0 0 [vr 63, vi a, vi v] SH σ (fun r sh' σ' => SH = sh' ∧ (md_becomes σ w v) = σ' ∧ r = σ 64 w) := by
  refine am_Mi_of (by decide +kernel) (Nat.le_of_ble_eq_true rfl) (fun K X hY hI hret => ?_)
  show am_G K 0 [some (vr 63), some (vi a), some (vi v), none, none] [] SH σ
  refine am_aload_n (x := 63) X (by rfl) dX10_becomes_0 ?_
  refine am_getr (c1 := 64) X 63 fl_X10_9 (by decide) sh_63 (by decide) (by rfl) dX10_becomes_1 ?_
  refine am_iload_n (x := a) X (by rfl) dX10_becomes_4 ?_
  refine am_ald (v := σ 64 w) X 64 w sh_64 (by omega) (by omega) (rfl) dX10_becomes_5 ?_
  refine am_istore_n (i := 3) (L' := [some (vr 63), some (vi a), some (vi v), some (vi (σ 64 w)), none]) X rfl (Nat.le_of_ble_eq_true rfl) (by rfl) dX10_becomes_6 ?_
  refine am_iload_n (x := σ 64 w) X (by rfl) dX10_becomes_7 ?_
  refine am_iload_n (x := v) X (by rfl) dX10_becomes_8 ?_
  refine am_icmp_ne (tgt := 14) X dX10_becomes_9 (by decide) (fun h9 => ?_) (fun h9 => ?_)
  · skip
    refine am_aload_n (x := 63) X (by rfl) dX10_becomes_14 ?_
    refine am_get (v := σ 63 5) X 63 fl_X10_94 (by decide) sh_63 (by decide) (rfl) dX10_becomes_15 ?_
    refine am_bipush X (by decide) dX10_becomes_18 ?_
    refine am_icmp_ne (tgt := 97) X dX10_becomes_20 (by decide) (fun h20 => ?_) (fun h20 => ?_)
    · skip
      refine am_aload_n (x := 63) X (by rfl) dX10_becomes_97 ?_
      refine am_getr (c1 := 65) X 63 fl_X10_13 (by decide) sh_63 (by decide) (by rfl) dX10_becomes_98 ?_
      refine am_aload_n (x := 63) X (by rfl) dX10_becomes_101 ?_
      refine am_get (v := σ 63 5) X 63 fl_X10_94 (by decide) sh_63 (by decide) (rfl) dX10_becomes_102 ?_
      refine am_iload_n (x := a) X (by rfl) dX10_becomes_105 ?_
      refine am_ast X 65 ((σ 63 5).toNat) sh_65 (by omega) (by omega) dX10_becomes_106 ?_
      refine am_aload_n (x := 63) X (by rfl) dX10_becomes_107 ?_
      refine am_getr (c1 := 66) X 63 fl_X10_16 (by decide) sh_63 (by decide) (by rfl) dX10_becomes_108 ?_
      refine am_aload_n (x := 63) X (by rfl) dX10_becomes_111 ?_
      refine am_get (v := σ 63 5) X 63 fl_X10_94 (by decide) sh_63 (by decide) (by simp [am_up]) dX10_becomes_112 ?_
      refine am_iload_n (x := σ 64 w) X (by rfl) dX10_becomes_115 ?_
      refine am_ast X 66 ((σ 63 5).toNat) sh_66 (by omega) (by omega) dX10_becomes_116 ?_
      refine am_aload_n (x := 63) X (by rfl) dX10_becomes_117 ?_
      refine am_getr (c1 := 67) X 63 fl_X10_19 (by decide) sh_63 (by decide) (by rfl) dX10_becomes_118 ?_
      refine am_aload_n (x := 63) X (by rfl) dX10_becomes_121 ?_
      refine am_get (v := σ 63 5) X 63 fl_X10_94 (by decide) sh_63 (by decide) (by simp [am_up]) dX10_becomes_122 ?_
      refine am_iload_n (x := v) X (by rfl) dX10_becomes_125 ?_
      refine am_ast X 67 ((σ 63 5).toNat) sh_67 (by omega) (by omega) dX10_becomes_126 ?_
      refine am_aload_n (x := 63) X (by rfl) dX10_becomes_127 ?_
      refine am_dup X (Nat.ne_of_beq_eq_false rfl) dX10_becomes_128 ?_
      refine am_get (v := σ 63 5) X 63 fl_X10_94 (by decide) sh_63 (by decide) (by simp [am_up]) dX10_becomes_129 ?_
      refine am_ic X (by decide) dX10_becomes_132 ?_
      refine am_add (v := (σ 63 5 + 1)) X (by first | rfl | omega) (by omega) dX10_becomes_133 ?_
      refine am_puti X 63 fl_X10_94 rfl rfl sh_63 (by decide) dX10_becomes_134 ?_
      refine am_aload_n (x := 63) X (by rfl) dX10_becomes_137 ?_
      refine am_aload_n (x := 63) X (by rfl) dX10_becomes_138 ?_
      refine am_get (v := (σ 63 5 + 1)) X 63 fl_X10_94 (by decide) sh_63 (by decide) (by simp [am_up]) dX10_becomes_139 ?_
      refine am_puti X 63 fl_X10_97 rfl rfl sh_63 (by decide) dX10_becomes_142 ?_
      refine am_aload_n (x := 63) X (by rfl) dX10_becomes_145 ?_
      refine am_getr (c1 := 64) X 63 fl_X10_9 (by decide) sh_63 (by decide) (by rfl) dX10_becomes_146 ?_
      refine am_iload_n (x := a) X (by rfl) dX10_becomes_149 ?_
      refine am_iload_n (x := v) X (by rfl) dX10_becomes_150 ?_
      refine am_ast X 64 w sh_64 (by omega) (by omega) dX10_becomes_151 ?_
      refine am_iload_n (x := σ 64 w) X (by rfl) dX10_becomes_152 ?_
      exact hret _ _ _ _ _ dX10_becomes_153 rfl rfl (by refine ⟨rfl, ?_, rfl⟩; unfold md_becomes; rw [if_neg (by omega), if_neg (by omega)]; (try subst ha); rfl)
    · skip
      refine am_ic X (by decide) dX10_becomes_23 ?_
      refine am_istore (i := 4) (L' := [some (vr 63), some (vi a), some (vi v), some (vi (σ 64 w)), some (vi 1)]) X (Nat.le_of_ble_eq_true rfl) (by rfl) dX10_becomes_24 ?_
      have hL26 : ∀ (m26 : Nat) (k : Nat) (hk : 1 ≤ k ∧ k ≤ 40) (hm26 : 40 - k = m26), am_G K 26 [some (vr 63), some (vi a), some (vi v), some (vi (σ 64 w)), some (vi (k : Int))] [] SH (md_shift σ k) := by
        intro m26
        induction m26 using Nat.strongRecOn with
        | ind m26 ih26 =>
        intro k hk hm26
        refine am_iload (x := (k : Int)) X (by rfl) dX10_becomes_26 ?_
        refine am_bipush X (by decide) dX10_becomes_28 ?_
        refine am_icmp_ge (tgt := 87) X dX10_becomes_30 (by decide) (fun h30 => ?_) (fun h30 => ?_)
        · skip
          rw [show k = 40 by omega]
          refine am_aload_n (x := 63) X (by rfl) dX10_becomes_87 ?_
          refine am_dup X (Nat.ne_of_beq_eq_false rfl) dX10_becomes_88 ?_
          refine am_get (v := (σ 63 5)) X 63 fl_X10_94 (by decide) sh_63 (by decide) (md_shift_at (by omega)) dX10_becomes_89 ?_
          refine am_ic X (by decide) dX10_becomes_92 ?_
          refine am_sub (v := ((σ 63 5) - 1)) X (by first | rfl | omega) (by omega) dX10_becomes_93 ?_
          refine am_puti X 63 fl_X10_94 rfl rfl sh_63 (by decide) dX10_becomes_94 ?_
          refine am_aload_n (x := 63) X (by rfl) dX10_becomes_97 ?_
          refine am_getr (c1 := 65) X 63 fl_X10_13 (by decide) sh_63 (by decide) (by rfl) dX10_becomes_98 ?_
          refine am_aload_n (x := 63) X (by rfl) dX10_becomes_101 ?_
          refine am_get (v := ((σ 63 5) - 1)) X 63 fl_X10_94 (by decide) sh_63 (by decide) (by simp [am_up]) dX10_becomes_102 ?_
          refine am_iload_n (x := a) X (by rfl) dX10_becomes_105 ?_
          refine am_ast X 65 39 sh_65 (by omega) (by omega) dX10_becomes_106 ?_
          refine am_aload_n (x := 63) X (by rfl) dX10_becomes_107 ?_
          refine am_getr (c1 := 66) X 63 fl_X10_16 (by decide) sh_63 (by decide) (by rfl) dX10_becomes_108 ?_
          refine am_aload_n (x := 63) X (by rfl) dX10_becomes_111 ?_
          refine am_get (v := ((σ 63 5) - 1)) X 63 fl_X10_94 (by decide) sh_63 (by decide) (by simp [am_up]) dX10_becomes_112 ?_
          refine am_iload_n (x := σ 64 w) X (by rfl) dX10_becomes_115 ?_
          refine am_ast X 66 39 sh_66 (by omega) (by omega) dX10_becomes_116 ?_
          refine am_aload_n (x := 63) X (by rfl) dX10_becomes_117 ?_
          refine am_getr (c1 := 67) X 63 fl_X10_19 (by decide) sh_63 (by decide) (by rfl) dX10_becomes_118 ?_
          refine am_aload_n (x := 63) X (by rfl) dX10_becomes_121 ?_
          refine am_get (v := ((σ 63 5) - 1)) X 63 fl_X10_94 (by decide) sh_63 (by decide) (by simp [am_up]) dX10_becomes_122 ?_
          refine am_iload_n (x := v) X (by rfl) dX10_becomes_125 ?_
          refine am_ast X 67 39 sh_67 (by omega) (by omega) dX10_becomes_126 ?_
          refine am_aload_n (x := 63) X (by rfl) dX10_becomes_127 ?_
          refine am_dup X (Nat.ne_of_beq_eq_false rfl) dX10_becomes_128 ?_
          refine am_get (v := ((σ 63 5) - 1)) X 63 fl_X10_94 (by decide) sh_63 (by decide) (by simp [am_up]) dX10_becomes_129 ?_
          refine am_ic X (by decide) dX10_becomes_132 ?_
          refine am_add (v := (((σ 63 5) - 1) + 1)) X (by first | rfl | omega) (by omega) dX10_becomes_133 ?_
          refine am_puti X 63 fl_X10_94 rfl rfl sh_63 (by decide) dX10_becomes_134 ?_
          refine am_aload_n (x := 63) X (by rfl) dX10_becomes_137 ?_
          refine am_aload_n (x := 63) X (by rfl) dX10_becomes_138 ?_
          refine am_get (v := (((σ 63 5) - 1) + 1)) X 63 fl_X10_94 (by decide) sh_63 (by decide) (by simp [am_up]) dX10_becomes_139 ?_
          refine am_puti X 63 fl_X10_97 rfl rfl sh_63 (by decide) dX10_becomes_142 ?_
          refine am_aload_n (x := 63) X (by rfl) dX10_becomes_145 ?_
          refine am_getr (c1 := 64) X 63 fl_X10_9 (by decide) sh_63 (by decide) (by rfl) dX10_becomes_146 ?_
          refine am_iload_n (x := a) X (by rfl) dX10_becomes_149 ?_
          refine am_iload_n (x := v) X (by rfl) dX10_becomes_150 ?_
          refine am_ast X 64 w sh_64 (by omega) (by omega) dX10_becomes_151 ?_
          refine am_iload_n (x := σ 64 w) X (by rfl) dX10_becomes_152 ?_
          exact hret _ _ _ _ _ dX10_becomes_153 rfl rfl (by refine ⟨rfl, ?_, rfl⟩; unfold md_becomes; rw [if_neg (by omega), if_pos (by omega)]; unfold md_push; rw [show am_up (md_shift σ 40) 63 5 39 63 5 = 39 from am_up_eq]; rw [show σ 63 5 - 1 = 39 by omega]; (try subst ha); rfl)
        · skip
          refine am_aload_n (x := 63) X (by rfl) dX10_becomes_33 ?_
          refine am_getr (c1 := 65) X 63 fl_X10_13 (by decide) sh_63 (by decide) (by rfl) dX10_becomes_34 ?_
          refine am_iload (x := (k : Int)) X (by rfl) dX10_becomes_37 ?_
          refine am_ic X (by decide) dX10_becomes_39 ?_
          refine am_sub (v := ((k : Int) - 1)) X (by first | rfl | omega) (by omega) dX10_becomes_40 ?_
          refine am_aload_n (x := 63) X (by rfl) dX10_becomes_41 ?_
          refine am_getr (c1 := 65) X 63 fl_X10_13 (by decide) sh_63 (by decide) (by rfl) dX10_becomes_42 ?_
          refine am_iload (x := (k : Int)) X (by rfl) dX10_becomes_45 ?_
          refine am_ald (v := (σ 65 k)) X 65 k sh_65 (by omega) (by omega) (md_shift_at (by omega)) dX10_becomes_47 ?_
          refine am_ast X 65 (k - 1) sh_65 (by omega) (by omega) dX10_becomes_48 ?_
          refine am_aload_n (x := 63) X (by rfl) dX10_becomes_49 ?_
          refine am_getr (c1 := 66) X 63 fl_X10_16 (by decide) sh_63 (by decide) (by rfl) dX10_becomes_50 ?_
          refine am_iload (x := (k : Int)) X (by rfl) dX10_becomes_53 ?_
          refine am_ic X (by decide) dX10_becomes_55 ?_
          refine am_sub (v := ((k : Int) - 1)) X (by first | rfl | omega) (by omega) dX10_becomes_56 ?_
          refine am_aload_n (x := 63) X (by rfl) dX10_becomes_57 ?_
          refine am_getr (c1 := 66) X 63 fl_X10_16 (by decide) sh_63 (by decide) (by rfl) dX10_becomes_58 ?_
          refine am_iload (x := (k : Int)) X (by rfl) dX10_becomes_61 ?_
          refine am_ald (v := (σ 66 k)) X 66 k sh_66 (by omega) (by omega) ((by simp [am_up] : (am_up (md_shift σ k) 65 (k - 1) (σ 65 k)) 66 k = (md_shift σ k) 66 k).trans (md_shift_at (by omega))) dX10_becomes_63 ?_
          refine am_ast X 66 (k - 1) sh_66 (by omega) (by omega) dX10_becomes_64 ?_
          refine am_aload_n (x := 63) X (by rfl) dX10_becomes_65 ?_
          refine am_getr (c1 := 67) X 63 fl_X10_19 (by decide) sh_63 (by decide) (by rfl) dX10_becomes_66 ?_
          refine am_iload (x := (k : Int)) X (by rfl) dX10_becomes_69 ?_
          refine am_ic X (by decide) dX10_becomes_71 ?_
          refine am_sub (v := ((k : Int) - 1)) X (by first | rfl | omega) (by omega) dX10_becomes_72 ?_
          refine am_aload_n (x := 63) X (by rfl) dX10_becomes_73 ?_
          refine am_getr (c1 := 67) X 63 fl_X10_19 (by decide) sh_63 (by decide) (by rfl) dX10_becomes_74 ?_
          refine am_iload (x := (k : Int)) X (by rfl) dX10_becomes_77 ?_
          refine am_ald (v := (σ 67 k)) X 67 k sh_67 (by omega) (by omega) ((by simp [am_up] : (am_up (am_up (md_shift σ k) 65 (k - 1) (σ 65 k)) 66 (k - 1) (σ 66 k)) 67 k = (md_shift σ k) 67 k).trans (md_shift_at (by omega))) dX10_becomes_79 ?_
          refine am_ast X 67 (k - 1) sh_67 (by omega) (by omega) dX10_becomes_80 ?_
          refine am_inc (x := (k : Int)) (v := ((k : Int) + 1)) (L' := [some (vr 63), some (vi a), some (vi v), some (vi (σ 64 w)), some (vi ((k : Int) + 1))]) X (by rfl) (by omega) (by omega) (by rfl) dX10_becomes_81 ?_
          refine am_goto (tgt := 26) X dX10_becomes_84 (by decide) ?_
          refine am_sg (md_shift σ (k + 1)) (md_shift_s σ k (by omega)) ?_
          exact ih26 _ (by omega) (k + 1) (by omega) rfl
      refine am_sg (md_shift σ 1) ((md_shift_1 σ).symm) ?_
      exact hL26 _ 1 (by omega) rfl
  · skip
    refine am_iload_n (x := σ 64 w) X (by rfl) dX10_becomes_12 ?_
    exact hret _ _ _ _ _ dX10_becomes_13 rfl rfl (by refine ⟨rfl, ?_, rfl⟩; unfold md_becomes; rw [if_pos (by omega)])
