set_option maxHeartbeats 4000000 in
set_option maxRecDepth 100000 in
theorem m_X10_bookIs (a : Int) (σ : am_H) (hs : MshV σ) : am_Mi yX10_bookIs cX10_bookIs 2 (some .int) 2 0 0 [vr 63, vi a] SH σ (fun r sh' σ' => SH = sh' ∧ σ = σ' ∧ r = md_book σ a) := by
  refine am_Mi_of (by decide +kernel) (Nat.le_of_ble_eq_true rfl) (fun K X hY hI hret => ?_)
  show am_G K 0 [some (vr 63), some (vi a)] [] SH σ
  refine am_iload_n (x := a) X (by rfl) dX10_bookIs_0 ?_
  refine am_callSi X hY lk_X10_128 mf_X10_isShelf (m_X10_isShelf a _ σ) (by decide) (by decide) (Nat.le_refl _) (Nat.le_refl _) rfl rfl (Nat.le_of_ble_eq_true rfl) dX10_bookIs_1 (fun r1 sh1 σ1 hr1 hp1 => ?_)
  obtain ⟨rfl, rfl, hq1⟩ := hp1
  refine am_if_ne (tgt := 11) X dX10_bookIs_4 (by decide) (fun h4 => ?_) (fun h4 => ?_)
  · skip
    refine am_aload_n (x := 63) X (by rfl) dX10_bookIs_11 ?_
    refine am_getr (c1 := 86) X 63 fl_X10_77 (by decide) sh_63 (by decide) (by rfl) dX10_bookIs_12 ?_
    refine am_iload_n (x := a) X (by rfl) dX10_bookIs_15 ?_
    refine am_ald (v := σ 86 ((a).toNat)) X 86 ((a).toNat) sh_86 (by omega) (by omega) (rfl) dX10_bookIs_16 ?_
    refine am_if_ge (tgt := 25) X dX10_bookIs_17 (by decide) (fun h17 => ?_) (fun h17 => ?_)
    · skip
      refine am_aload_n (x := 63) X (by rfl) dX10_bookIs_25 ?_
      refine am_getr (c1 := 86) X 63 fl_X10_77 (by decide) sh_63 (by decide) (by rfl) dX10_bookIs_26 ?_
      refine am_iload_n (x := a) X (by rfl) dX10_bookIs_29 ?_
      refine am_ald (v := σ 86 ((a).toNat)) X 86 ((a).toNat) sh_86 (by omega) (by omega) (rfl) dX10_bookIs_30 ?_
      refine am_bipush X (by decide) dX10_bookIs_31 ?_
      refine am_icmp_ne (tgt := 40) X dX10_bookIs_33 (by decide) (fun h33 => ?_) (fun h33 => ?_)
      · skip
        refine am_bipush X (by decide) dX10_bookIs_40 ?_
        exact hret _ _ _ _ _ dX10_bookIs_42 rfl rfl (by refine ⟨rfl, rfl, ?_⟩; unfold md_book; (repeat' split) <;> first | omega | assumption)
      · skip
        refine am_ic X (by decide) dX10_bookIs_36 ?_
        refine am_goto (tgt := 42) X dX10_bookIs_37 (by decide) ?_
        exact hret _ _ _ _ _ dX10_bookIs_42 rfl rfl (by refine ⟨rfl, rfl, ?_⟩; unfold md_book; (repeat' split) <;> first | omega | assumption)
    · skip
      refine am_bipush X (by decide) dX10_bookIs_20 ?_
      refine am_goto (tgt := 42) X dX10_bookIs_22 (by decide) ?_
      exact hret _ _ _ _ _ dX10_bookIs_42 rfl rfl (by refine ⟨rfl, rfl, ?_⟩; unfold md_book; (repeat' split) <;> first | omega | assumption)
  · skip
    refine am_ic X (by decide) dX10_bookIs_7 ?_
    refine am_goto (tgt := 42) X dX10_bookIs_8 (by decide) ?_
    exact hret _ _ _ _ _ dX10_bookIs_42 rfl rfl (by refine ⟨rfl, rfl, ?_⟩; unfold md_book; (repeat' split) <;> first | omega | assumption)

set_option maxHeartbeats 4000000 in
set_option maxRecDepth 100000 in
theorem m_X10_isSo (p q d : Int) (σ : am_H) (hp : 0 ≤ σ 63 6 ∧ σ 63 6 ≤ 8) (hc : 0 ≤ σ 63 7 ∧ σ 63 7 ≤ 20) (hd : ∀ n : Nat, (n : Int) < σ 63 7 → 0 ≤ σ 68 (5 * n + 2) ∧ σ 68 (5 * n + 2) ≤ 9) : am_Mi yX10_isSo cX10_isSo 7 (some .boolean) 1 0 0 [vr 63, vl p, vl q, vl d] SH σ (fun r sh' σ' => SH = sh' ∧ σ = σ' ∧ am_b r (md_isSo σ p q d)) := by
  refine am_Mz_of (by decide +kernel) (Nat.le_of_ble_eq_true rfl) (fun K X hY hI hret => ?_)
  show am_G K 0 [some (vr 63), some (vl p), none, some (vl q), none, some (vl d), none] [] SH σ
  refine am_lload_n (x := p) X (by rfl) dX10_isSo_0 ?_
  refine am_lc (v := 0) X (by rfl) dX10_isSo_1 ?_
  refine am_aload_n (x := 63) X (by rfl) dX10_isSo_2 ?_
  refine am_get (v := σ 63 6) X 63 fl_X10_100 (by decide) sh_63 (by decide) (rfl) dX10_isSo_3 ?_
  refine am_ic X (by decide) dX10_isSo_6 ?_
  refine am_sub (v := (σ 63 6 - 1)) X (by first | rfl | omega) (by omega) dX10_isSo_7 ?_
  refine am_i2l X dX10_isSo_8 ?_
  refine am_callSi X hY lk_X10_103 mf_X10_within (m_X10_within p 0 (σ 63 6 - 1) _ σ) (by decide) (by decide) (Nat.le_refl _) (Nat.le_refl _) rfl rfl (Nat.le_of_ble_eq_true rfl) dX10_isSo_9 (fun r9 sh9 σ9 hr9 hp9 => ?_)
  obtain ⟨rfl, rfl, hq9⟩ := hp9
  refine am_if_eq (tgt := 36) X dX10_isSo_12 (by decide) (fun h12 => ?_) (fun h12 => ?_)
  · skip
    refine am_ic X (by decide) dX10_isSo_36 ?_
    exact hret _ _ _ _ _ dX10_isSo_37 rfl rfl (by first | exact ⟨rfl, rfl, am_bt (by unfold md_isSo md_owed; omega)⟩ | exact ⟨rfl, rfl, am_bf (by unfold md_isSo md_owed; omega)⟩) (by first | exact Or.inl rfl | exact Or.inr rfl | omega)
  · skip
    refine am_lload_n (x := q) X (by rfl) dX10_isSo_15 ?_
    refine am_lc (v := 0) X (by rfl) dX10_isSo_16 ?_
    refine am_aload_n (x := 63) X (by rfl) dX10_isSo_17 ?_
    refine am_get (v := σ 63 6) X 63 fl_X10_100 (by decide) sh_63 (by decide) (rfl) dX10_isSo_18 ?_
    refine am_ic X (by decide) dX10_isSo_21 ?_
    refine am_sub (v := (σ 63 6 - 1)) X (by first | rfl | omega) (by omega) dX10_isSo_22 ?_
    refine am_i2l X dX10_isSo_23 ?_
    refine am_callSi X hY lk_X10_103 mf_X10_within (m_X10_within q 0 (σ 63 6 - 1) _ σ) (by decide) (by decide) (Nat.le_refl _) (Nat.le_refl _) rfl rfl (Nat.le_of_ble_eq_true rfl) dX10_isSo_24 (fun r24 sh24 σ24 hr24 hp24 => ?_)
    obtain ⟨rfl, rfl, hq24⟩ := hp24
    refine am_if_eq (tgt := 36) X dX10_isSo_27 (by decide) (fun h27 => ?_) (fun h27 => ?_)
    · skip
      refine am_ic X (by decide) dX10_isSo_36 ?_
      exact hret _ _ _ _ _ dX10_isSo_37 rfl rfl (by first | exact ⟨rfl, rfl, am_bt (by unfold md_isSo md_owed; omega)⟩ | exact ⟨rfl, rfl, am_bf (by unfold md_isSo md_owed; omega)⟩) (by first | exact Or.inl rfl | exact Or.inr rfl | omega)
    · skip
      refine am_lload_n (x := p) X (by rfl) dX10_isSo_30 ?_
      refine am_lload_n (x := q) X (by rfl) dX10_isSo_31 ?_
      refine am_lcmp X dX10_isSo_32 ?_
      refine am_topi (fun y32 hy32 => ?_)
      have hc32 : (y32 = 1 ∧ q < p) ∨ (y32 = 0 ∧ p = q) ∨ (y32 = -1 ∧ p < q) := by rw [hy32]; split <;> (try split) <;> omega
      clear hy32
      refine am_if_ne (tgt := 38) X dX10_isSo_33 (by decide) (fun h33 => ?_) (fun h33 => ?_)
      · skip
        refine am_lload (x := d) X (by rfl) dX10_isSo_38 ?_
        refine am_ldc2 X (n := -1) (by unfold R64; decide) cn_X10_284 dX10_isSo_40 ?_
        refine am_lcmp X dX10_isSo_43 ?_
        refine am_topi (fun y43 hy43 => ?_)
        have hc43 : (y43 = 1 ∧ -1 < d) ∨ (y43 = 0 ∧ d = -1) ∨ (y43 = -1 ∧ d < -1) := by rw [hy43]; split <;> (try split) <;> omega
        clear hy43
        refine am_if_eq (tgt := 62) X dX10_isSo_44 (by decide) (fun h44 => ?_) (fun h44 => ?_)
        · skip
          refine am_ic X (by decide) dX10_isSo_62 ?_
          refine am_goto (tgt := 67) X dX10_isSo_63 (by decide) ?_
          exact hret _ _ _ _ _ dX10_isSo_67 rfl rfl (by first | exact ⟨rfl, rfl, am_bt (by unfold md_isSo md_owed; omega)⟩ | exact ⟨rfl, rfl, am_bf (by unfold md_isSo md_owed; omega)⟩) (by first | exact Or.inl rfl | exact Or.inr rfl | omega)
        · skip
          refine am_lload (x := d) X (by rfl) dX10_isSo_47 ?_
          refine am_aload_n (x := 63) X (by rfl) dX10_isSo_49 ?_
          refine am_lload_n (x := p) X (by rfl) dX10_isSo_50 ?_
          refine am_l2iv X (by omega) dX10_isSo_51 ?_
          refine am_lload_n (x := q) X (by rfl) dX10_isSo_52 ?_
          refine am_l2iv X (by omega) dX10_isSo_53 ?_
          refine am_callVi (ci := 9) X hY lk_X10_167 mf_X10_owedBetween (m_X10_owedBetween p q σ hc hd) (by decide) (by decide) (Nat.le_refl _) (Nat.le_refl _) sh_63 rfl rfl rfl (Nat.le_of_ble_eq_true rfl) dX10_isSo_54 (fun r54 sh54 σ54 hr54 hp54 => ?_)
          obtain ⟨rfl, rfl, hq54⟩ := hp54
          refine am_i2l X dX10_isSo_57 ?_
          refine am_lcmp X dX10_isSo_58 ?_
          refine am_topi (fun y58 hy58 => ?_)
          have hc58 : (y58 = 1 ∧ r54 < d) ∨ (y58 = 0 ∧ d = r54) ∨ (y58 = -1 ∧ d < r54) := by rw [hy58]; split <;> (try split) <;> omega
          clear hy58
          refine am_if_ne (tgt := 66) X dX10_isSo_59 (by decide) (fun h59 => ?_) (fun h59 => ?_)
          · skip
            refine am_ic X (by decide) dX10_isSo_66 ?_
            exact hret _ _ _ _ _ dX10_isSo_67 rfl rfl (by first | exact ⟨rfl, rfl, am_bt (by unfold md_isSo md_owed; omega)⟩ | exact ⟨rfl, rfl, am_bf (by unfold md_isSo md_owed; omega)⟩) (by first | exact Or.inl rfl | exact Or.inr rfl | omega)
          · skip
            refine am_ic X (by decide) dX10_isSo_62 ?_
            refine am_goto (tgt := 67) X dX10_isSo_63 (by decide) ?_
            exact hret _ _ _ _ _ dX10_isSo_67 rfl rfl (by first | exact ⟨rfl, rfl, am_bt (by unfold md_isSo md_owed; omega)⟩ | exact ⟨rfl, rfl, am_bf (by unfold md_isSo md_owed; omega)⟩) (by first | exact Or.inl rfl | exact Or.inr rfl | omega)
      · skip
        refine am_ic X (by decide) dX10_isSo_36 ?_
        exact hret _ _ _ _ _ dX10_isSo_37 rfl rfl (by first | exact ⟨rfl, rfl, am_bt (by unfold md_isSo md_owed; omega)⟩ | exact ⟨rfl, rfl, am_bf (by unfold md_isSo md_owed; omega)⟩) (by first | exact Or.inl rfl | exact Or.inr rfl | omega)

set_option maxHeartbeats 4000000 in
set_option maxRecDepth 100000 in
theorem m_X10_judge (a : Int) (σ : am_H) (hp : 0 ≤ σ 63 6 ∧ σ 63 6 ≤ 8) (hc : 0 ≤ σ 63 7 ∧ σ 63 7 ≤ 20) (hd : ∀ n : Nat, (n : Int) < σ 63 7 → 0 ≤ σ 68 (5 * n + 2) ∧ σ 68 (5 * n + 2) ≤ 9) (hs : MshV σ) : am_Mi yX10_judge cX10_judge 4 (some .int) 3 0 0 [vr 63, vi a] SH σ (fun r sh' σ' => SH = sh' ∧ ((md_book σ a < 0 ∧ r = md_book σ a ∧ σ = σ') ∨ (0 ≤ md_book σ a ∧ (∀ k : Nat, 3 * (k : Int) < σ 87 a.toNat → md_so σ a.toNat k) ∧ r = -2 ∧ σ = σ') ∨ (0 ≤ md_book σ a ∧ ∃ k : Nat, 3 * (k : Int) < σ 87 a.toNat ∧ ¬ md_so σ a.toNat k ∧ (∀ j : Nat, j < k → md_so σ a.toNat j) ∧ r = k ∧ σ = σ'))) := by
  refine am_Mi_of (by decide +kernel) (Nat.le_of_ble_eq_true rfl) (fun K X hY hI hret => ?_)
  show am_G K 0 [some (vr 63), some (vi a), none, none] [] SH σ
  refine am_aload_n (x := 63) X (by rfl) dX10_judge_0 ?_
  refine am_iload_n (x := a) X (by rfl) dX10_judge_1 ?_
  refine am_callVi (ci := 9) X hY lk_X10_286 mf_X10_bookIs (m_X10_bookIs a σ hs) (by decide) (by decide) (Nat.le_refl _) (Nat.le_refl _) sh_63 rfl rfl rfl (Nat.le_of_ble_eq_true rfl) dX10_judge_2 (fun r2 sh2 σ2 hr2 hp2 => ?_)
  obtain ⟨rfl, rfl, hq2⟩ := hp2
  refine am_if_ge (tgt := 14) X dX10_judge_5 (by decide) (fun h5 => ?_) (fun h5 => ?_)
  · skip
    have hbk : (0 ≤ a ∧ a ≤ 5) ∧ 0 ≤ md_book σ a := by rw [hq2] at h5; refine ⟨?_, by omega⟩; unfold md_book at h5; (repeat' split at h5) <;> omega
    have hsl := (hs a.toNat (by omega)).2
    refine am_ic X (by decide) dX10_judge_14 ?_
    refine am_istore_n (i := 2) (L' := [some (vr 63), some (vi a), some (vi 0), none]) X rfl (Nat.le_of_ble_eq_true rfl) (by rfl) dX10_judge_15 ?_
    have hL16 : ∀ (m16 : Nat) (k : Nat) (hk : 3 * (k : Int) ≤ σ 87 a.toNat + 2) (hall : ∀ j : Nat, j < k → md_so σ a.toNat j) (hm16 : 200 - k = m16), am_G K 16 [some (vr 63), some (vi a), some (vi (k : Int)), none] [] SH σ := by
      intro m16
      induction m16 using Nat.strongRecOn with
      | ind m16 ih16 =>
      intro k hk hall hm16
      refine am_ic X (by decide) dX10_judge_16 ?_
      refine am_iload_n (x := (k : Int)) X (by rfl) dX10_judge_17 ?_
      refine am_mul (v := (3 * (k : Int))) X (by first | rfl | omega) (by omega) dX10_judge_18 ?_
      refine am_aload_n (x := 63) X (by rfl) dX10_judge_19 ?_
      refine am_getr (c1 := 87) X 63 fl_X10_80 (by decide) sh_63 (by decide) (by rfl) dX10_judge_20 ?_
      refine am_iload_n (x := a) X (by rfl) dX10_judge_23 ?_
      refine am_ald (v := σ 87 ((a).toNat)) X 87 ((a).toNat) sh_87 (by omega) (by omega) (rfl) dX10_judge_24 ?_
      refine am_icmp_ge (tgt := 88) X dX10_judge_25 (by decide) (fun h25 => ?_) (fun h25 => ?_)
      · skip
        refine am_bipush X (by decide) dX10_judge_88 ?_
        exact hret _ _ _ _ _ dX10_judge_90 rfl rfl (by exact ⟨rfl, Or.inr (Or.inl ⟨by omega, fun j hj => hall j (by omega), rfl, rfl⟩)⟩)
      · skip
        refine am_bipush X (by decide) dX10_judge_28 ?_
        refine am_iload_n (x := a) X (by rfl) dX10_judge_30 ?_
        refine am_mul (v := (60 * a)) X (by first | rfl | omega) (by omega) dX10_judge_31 ?_
        refine am_ic X (by decide) dX10_judge_32 ?_
        refine am_iload_n (x := (k : Int)) X (by rfl) dX10_judge_33 ?_
        refine am_mul (v := (3 * (k : Int))) X (by first | rfl | omega) (by omega) dX10_judge_34 ?_
        refine am_add (v := ((60 * a) + (3 * (k : Int)))) X (by first | rfl | omega) (by omega) dX10_judge_35 ?_
        refine am_istore_n (i := 3) (L' := [some (vr 63), some (vi a), some (vi (k : Int)), some (vi ((60 * a) + (3 * (k : Int))))]) X rfl (Nat.le_of_ble_eq_true rfl) (by rfl) dX10_judge_36 ?_
        refine am_ic X (by decide) dX10_judge_37 ?_
        refine am_iload_n (x := (k : Int)) X (by rfl) dX10_judge_38 ?_
        refine am_mul (v := (3 * (k : Int))) X (by first | rfl | omega) (by omega) dX10_judge_39 ?_
        refine am_ic X (by decide) dX10_judge_40 ?_
        refine am_add (v := ((3 * (k : Int)) + 2)) X (by first | rfl | omega) (by omega) dX10_judge_41 ?_
        refine am_aload_n (x := 63) X (by rfl) dX10_judge_42 ?_
        refine am_getr (c1 := 87) X 63 fl_X10_80 (by decide) sh_63 (by decide) (by rfl) dX10_judge_43 ?_
        refine am_iload_n (x := a) X (by rfl) dX10_judge_46 ?_
        refine am_ald (v := σ 87 ((a).toNat)) X 87 ((a).toNat) sh_87 (by omega) (by omega) (rfl) dX10_judge_47 ?_
        refine am_icmp_ge (tgt := 80) X dX10_judge_48 (by decide) (fun h48 => ?_) (fun h48 => ?_)
        · skip
          have hns : ¬ md_so σ a.toNat k := by unfold md_so; exact fun q => absurd q.1 (by omega)
          refine am_iload_n (x := (k : Int)) X (by rfl) dX10_judge_80 ?_
          exact hret _ _ _ _ _ dX10_judge_81 rfl rfl (by exact ⟨rfl, Or.inr (Or.inr ⟨by omega, k, by omega, hns, hall, rfl, rfl⟩)⟩)
        · skip
          refine am_aload_n (x := 63) X (by rfl) dX10_judge_51 ?_
          refine am_aload_n (x := 63) X (by rfl) dX10_judge_52 ?_
          refine am_getr (c1 := 88) X 63 fl_X10_83 (by decide) sh_63 (by decide) (by rfl) dX10_judge_53 ?_
          refine am_iload_n (x := ((60 * a) + (3 * (k : Int)))) X (by rfl) dX10_judge_56 ?_
          refine am_lalj (v := σ 88 (60 * a.toNat + 3 * k)) X 88 (60 * a.toNat + 3 * k) sh_88 (by omega) (by omega) (rfl) dX10_judge_57 ?_
          refine am_aload_n (x := 63) X (by rfl) dX10_judge_58 ?_
          refine am_getr (c1 := 88) X 63 fl_X10_83 (by decide) sh_63 (by decide) (by rfl) dX10_judge_59 ?_
          refine am_iload_n (x := ((60 * a) + (3 * (k : Int)))) X (by rfl) dX10_judge_62 ?_
          refine am_ic X (by decide) dX10_judge_63 ?_
          refine am_add (v := (((60 * a) + (3 * (k : Int))) + 1)) X (by first | rfl | omega) (by omega) dX10_judge_64 ?_
          refine am_lalj (v := σ 88 (60 * a.toNat + 3 * k + 1)) X 88 (60 * a.toNat + 3 * k + 1) sh_88 (by omega) (by omega) (rfl) dX10_judge_65 ?_
          refine am_aload_n (x := 63) X (by rfl) dX10_judge_66 ?_
          refine am_getr (c1 := 88) X 63 fl_X10_83 (by decide) sh_63 (by decide) (by rfl) dX10_judge_67 ?_
          refine am_iload_n (x := ((60 * a) + (3 * (k : Int)))) X (by rfl) dX10_judge_70 ?_
          refine am_ic X (by decide) dX10_judge_71 ?_
          refine am_add (v := (((60 * a) + (3 * (k : Int))) + 2)) X (by first | rfl | omega) (by omega) dX10_judge_72 ?_
          refine am_lalj (v := σ 88 (60 * a.toNat + 3 * k + 2)) X 88 (60 * a.toNat + 3 * k + 2) sh_88 (by omega) (by omega) (rfl) dX10_judge_73 ?_
          refine am_callVi (ci := 9) X hY lk_X10_289 mf_X10_isSo (m_X10_isSo (σ 88 (60 * a.toNat + 3 * k)) (σ 88 (60 * a.toNat + 3 * k + 1)) (σ 88 (60 * a.toNat + 3 * k + 2)) σ hp hc hd) (by decide) (by decide) (Nat.le_refl _) (Nat.le_refl _) sh_63 rfl rfl rfl (Nat.le_of_ble_eq_true rfl) dX10_judge_74 (fun r74 sh74 σ74 hr74 hp74 => ?_)
          obtain ⟨rfl, rfl, hq74⟩ := hp74
          refine am_if_ne (tgt := 82) X dX10_judge_77 (by decide) (fun h77 => ?_) (fun h77 => ?_)
          · skip
            have hys : md_so σ a.toNat k := ⟨by omega, am_b1 hq74 h77⟩
            refine am_inc (x := (k : Int)) (v := ((k : Int) + 1)) (L' := [some (vr 63), some (vi a), some (vi ((k : Int) + 1)), some (vi ((60 * a) + (3 * (k : Int))))]) X (by rfl) (by omega) (by omega) (by rfl) dX10_judge_82 ?_
            refine am_goto (tgt := 16) X dX10_judge_85 (by decide) ?_
            refine am_fg [true, true, true, false] rfl (L' := [some (vr 63), some (vi a), some (vi ((k : Int) + 1)), none]) rfl ?_
            exact ih16 _ (by omega) (k + 1) (by omega) (fun j hj => by rcases Nat.lt_or_ge j k with q | q; exact hall j q; rw [show j = k by omega]; exact hys) rfl
          · skip
            have hns : ¬ md_so σ a.toNat k := by unfold md_so; exact fun q => am_b0 hq74 h77 q.2
            refine am_iload_n (x := (k : Int)) X (by rfl) dX10_judge_80 ?_
            exact hret _ _ _ _ _ dX10_judge_81 rfl rfl (by exact ⟨rfl, Or.inr (Or.inr ⟨by omega, k, by omega, hns, hall, rfl, rfl⟩)⟩)
    exact hL16 _ 0 (by omega) (fun j hj => absurd hj (by omega)) rfl
  · skip
    refine am_aload_n (x := 63) X (by rfl) dX10_judge_8 ?_
    refine am_iload_n (x := a) X (by rfl) dX10_judge_9 ?_
    refine am_callVi (ci := 9) X hY lk_X10_286 mf_X10_bookIs (m_X10_bookIs a σ hs) (by decide) (by decide) (Nat.le_refl _) (Nat.le_refl _) sh_63 rfl rfl rfl (Nat.le_of_ble_eq_true rfl) dX10_judge_10 (fun r10 sh10 σ10 hr10 hp10 => ?_)
    obtain ⟨rfl, rfl, hq10⟩ := hp10
    exact hret _ _ _ _ _ dX10_judge_13 rfl rfl (by exact ⟨rfl, Or.inl ⟨by omega, by omega, rfl⟩⟩)

set_option maxHeartbeats 4000000 in
set_option maxRecDepth 100000 in
theorem m_X10_wet (a b : Int) (σ : am_H) (hp : 0 ≤ σ 63 6 ∧ σ 63 6 ≤ 8) (hc : 0 ≤ σ 63 7 ∧ σ 63 7 ≤ 20) (hd : ∀ n : Nat, (n : Int) < σ 63 7 → 0 ≤ σ 68 (5 * n + 2) ∧ σ 68 (5 * n + 2) ≤ 9) (hs : MshV σ) (hit : MitV σ) : am_Mi yX10_wet cX10_wet 7 (some .int) 3 0 0 [vr 63, vi a, vi b] SH σ (fun r sh' σ' => SH = sh' ∧ σ = σ' ∧ r = (if (md_pair σ b ∧ 0 ≤ md_book σ a) then md_owed σ (b / 10) (b % 10) - am_sum (md_wetf σ a.toNat (b / 10) (b % 10)) (σ 87 a.toNat / 3).toNat else -2000000000)) := by
  refine am_Mi_of (by decide +kernel) (Nat.le_of_ble_eq_true rfl) (fun K X hY hI hret => ?_)
  show am_G K 0 [some (vr 63), some (vi a), some (vi b), none, none, none, none] [] SH σ
  refine am_aload_n (x := 63) X (by rfl) dX10_wet_0 ?_
  refine am_iload_n (x := b) X (by rfl) dX10_wet_1 ?_
  refine am_callVi (ci := 9) X hY lk_X10_164 mf_X10_isPq (m_X10_isPq b σ hp) (by decide) (by decide) (Nat.le_refl _) (Nat.le_refl _) sh_63 rfl rfl rfl (Nat.le_of_ble_eq_true rfl) dX10_wet_2 (fun r2 sh2 σ2 hr2 hp2 => ?_)
  obtain ⟨rfl, rfl, hq2⟩ := hp2
  refine am_if_eq (tgt := 16) X dX10_wet_5 (by decide) (fun h5 => ?_) (fun h5 => ?_)
  · skip
    refine am_ldc X (n := -2000000000) (by unfold R32; decide) cn_X10_149 dX10_wet_16 ?_
    exact hret _ _ _ _ _ dX10_wet_18 rfl rfl (by refine ⟨rfl, rfl, ?_⟩; (try rw [show (σ 87 a.toNat / 3).toNat = k by omega]); unfold md_owed; (repeat' split) <;> first | omega | assumption)
  · skip
    refine am_aload_n (x := 63) X (by rfl) dX10_wet_8 ?_
    refine am_iload_n (x := a) X (by rfl) dX10_wet_9 ?_
    refine am_callVi (ci := 9) X hY lk_X10_286 mf_X10_bookIs (m_X10_bookIs a σ hs) (by decide) (by decide) (Nat.le_refl _) (Nat.le_refl _) sh_63 rfl rfl rfl (Nat.le_of_ble_eq_true rfl) dX10_wet_10 (fun r10 sh10 σ10 hr10 hp10 => ?_)
    obtain ⟨rfl, rfl, hq10⟩ := hp10
    refine am_if_ge (tgt := 19) X dX10_wet_13 (by decide) (fun h13 => ?_) (fun h13 => ?_)
    · skip
      have hbk : ((0 ≤ a ∧ a ≤ 5) ∧ σ 86 a.toNat = 51) ∧ 0 ≤ md_book σ a := by rw [hq10] at h13; refine ⟨?_, by omega⟩; unfold md_book at h13; (repeat' split at h13) <;> omega
      have hsl := (hs a.toNat (by omega)).2
      have hit0 := fun (j : Nat) (h : (j : Int) < σ 87 a.toNat) => hit a.toNat j (by omega) h (by omega)
      refine am_aload_n (x := 63) X (by rfl) dX10_wet_19 ?_
      refine am_iload_n (x := b) X (by rfl) dX10_wet_20 ?_
      refine am_bipush X (by decide) dX10_wet_21 ?_
      refine am_div (v := (b / 10)) X (by omega) (by omega) rfl dX10_wet_23 ?_
      refine am_iload_n (x := b) X (by rfl) dX10_wet_24 ?_
      refine am_bipush X (by decide) dX10_wet_25 ?_
      refine am_rem (v := (b % 10)) X (by omega) (by omega) rfl dX10_wet_27 ?_
      refine am_callVi (ci := 9) X hY lk_X10_167 mf_X10_owedBetween (m_X10_owedBetween (b / 10) (b % 10) σ hc hd) (by decide) (by decide) (Nat.le_refl _) (Nat.le_refl _) sh_63 rfl rfl rfl (Nat.le_of_ble_eq_true rfl) dX10_wet_28 (fun r28 sh28 σ28 hr28 hp28 => ?_)
      obtain ⟨rfl, rfl, hq28⟩ := hp28
      refine am_istore_n (i := 3) (L' := [some (vr 63), some (vi a), some (vi b), some (vi r28), none, none, none]) X rfl (Nat.le_of_ble_eq_true rfl) (by rfl) dX10_wet_31 ?_
      refine am_ic X (by decide) dX10_wet_32 ?_
      refine am_istore (i := 4) (L' := [some (vr 63), some (vi a), some (vi b), some (vi r28), some (vi 0), none, none]) X (Nat.le_of_ble_eq_true rfl) (by rfl) dX10_wet_33 ?_
      have hL35 : ∀ (m35 : Nat) (k : Nat) (s : Int) (hk : 3 * (k : Int) ≤ σ 87 a.toNat) (hw : s = r28 - am_sum (md_wetf σ a.toNat (b / 10) (b % 10)) k) (hm35 : 200 - k = m35), am_G K 35 [some (vr 63), some (vi a), some (vi b), some (vi s), some (vi (k : Int)), none, none] [] SH σ := by
        intro m35
        induction m35 using Nat.strongRecOn with
        | ind m35 ih35 =>
        intro k s hk hw hm35
        have hb := am_sum_rg (f := md_wetf σ a.toNat (b / 10) (b % 10)) (m := 32768) k (fun j hj => by have h9 := hit0 (3 * j + 2) (by omega); rw [show 60 * a.toNat + (3 * j + 2) = 60 * a.toNat + 3 * j + 2 by omega] at h9; unfold md_wetf; (repeat' split) <;> omega)
        refine am_ic X (by decide) dX10_wet_35 ?_
        refine am_iload (x := (k : Int)) X (by rfl) dX10_wet_36 ?_
        refine am_mul (v := (3 * (k : Int))) X (by first | rfl | omega) (by omega) dX10_wet_38 ?_
        refine am_ic X (by decide) dX10_wet_39 ?_
        refine am_add (v := ((3 * (k : Int)) + 2)) X (by first | rfl | omega) (by omega) dX10_wet_40 ?_
        refine am_aload_n (x := 63) X (by rfl) dX10_wet_41 ?_
        refine am_getr (c1 := 87) X 63 fl_X10_80 (by decide) sh_63 (by decide) (by rfl) dX10_wet_42 ?_
        refine am_iload_n (x := a) X (by rfl) dX10_wet_45 ?_
        refine am_ald (v := σ 87 ((a).toNat)) X 87 ((a).toNat) sh_87 (by omega) (by omega) (rfl) dX10_wet_46 ?_
        refine am_icmp_ge (tgt := 146) X dX10_wet_47 (by decide) (fun h47 => ?_) (fun h47 => ?_)
        · skip
          refine am_iload_n (x := s) X (by rfl) dX10_wet_146 ?_
          exact hret _ _ _ _ _ dX10_wet_147 rfl rfl (by refine ⟨rfl, rfl, ?_⟩; (try rw [show (σ 87 a.toNat / 3).toNat = k by omega]); unfold md_owed; (repeat' split) <;> first | omega | assumption)
        · skip
          have hi2 := hit0 (3 * k + 2) (by omega)
          rw [show 60 * a.toNat + (3 * k + 2) = 60 * a.toNat + 3 * k + 2 by omega] at hi2
          refine am_bipush X (by decide) dX10_wet_50 ?_
          refine am_iload_n (x := a) X (by rfl) dX10_wet_52 ?_
          refine am_mul (v := (60 * a)) X (by first | rfl | omega) (by omega) dX10_wet_53 ?_
          refine am_ic X (by decide) dX10_wet_54 ?_
          refine am_iload (x := (k : Int)) X (by rfl) dX10_wet_55 ?_
          refine am_mul (v := (3 * (k : Int))) X (by first | rfl | omega) (by omega) dX10_wet_57 ?_
          refine am_add (v := ((60 * a) + (3 * (k : Int)))) X (by first | rfl | omega) (by omega) dX10_wet_58 ?_
          refine am_istore (i := 5) (L' := [some (vr 63), some (vi a), some (vi b), some (vi s), some (vi (k : Int)), some (vi ((60 * a) + (3 * (k : Int)))), none]) X (Nat.le_of_ble_eq_true rfl) (by rfl) dX10_wet_59 ?_
          refine am_aload_n (x := 63) X (by rfl) dX10_wet_61 ?_
          refine am_getr (c1 := 88) X 63 fl_X10_83 (by decide) sh_63 (by decide) (by rfl) dX10_wet_62 ?_
          refine am_iload (x := ((60 * a) + (3 * (k : Int)))) X (by rfl) dX10_wet_65 ?_
          refine am_lalj (v := σ 88 (60 * a.toNat + 3 * k)) X 88 (60 * a.toNat + 3 * k) sh_88 (by omega) (by omega) (rfl) dX10_wet_67 ?_
          refine am_iload_n (x := b) X (by rfl) dX10_wet_68 ?_
          refine am_bipush X (by decide) dX10_wet_69 ?_
          refine am_div (v := (b / 10)) X (by omega) (by omega) rfl dX10_wet_71 ?_
          refine am_i2l X dX10_wet_72 ?_
          refine am_lcmp X dX10_wet_73 ?_
          refine am_topi (fun y73 hy73 => ?_)
          have hc73 : (y73 = 1 ∧ (b / 10) < σ 88 (60 * a.toNat + 3 * k)) ∨ (y73 = 0 ∧ σ 88 (60 * a.toNat + 3 * k) = (b / 10)) ∨ (y73 = -1 ∧ σ 88 (60 * a.toNat + 3 * k) < (b / 10)) := by rw [hy73]; split <;> (try split) <;> omega
          clear hy73
          refine am_if_ne (tgt := 115) X dX10_wet_74 (by decide) (fun h74 => ?_) (fun h74 => ?_)
          · skip
            refine am_ic X (by decide) dX10_wet_115 ?_
            refine am_istore (i := 6) (L' := [some (vr 63), some (vi a), some (vi b), some (vi s), some (vi (k : Int)), some (vi ((60 * a) + (3 * (k : Int)))), some (vi 0)]) X (Nat.le_of_ble_eq_true rfl) (by rfl) dX10_wet_116 ?_
            refine am_iload_n (x := s) X (by rfl) dX10_wet_118 ?_
            refine am_iload (x := 0) X (by rfl) dX10_wet_119 ?_
            refine am_if_eq (tgt := 137) X dX10_wet_121 (by decide) (fun h121 => ?_) (fun h121 => ?_)
            · skip
              refine am_ic X (by decide) dX10_wet_137 ?_
              refine am_sub (v := (s - 0)) X (by first | rfl | omega) (by omega) dX10_wet_138 ?_
              refine am_istore_n (i := 3) (L' := [some (vr 63), some (vi a), some (vi b), some (vi (s - 0)), some (vi (k : Int)), some (vi ((60 * a) + (3 * (k : Int)))), some (vi 0)]) X rfl (Nat.le_of_ble_eq_true rfl) (by rfl) dX10_wet_139 ?_
              refine am_inc (x := (k : Int)) (v := ((k : Int) + 1)) (L' := [some (vr 63), some (vi a), some (vi b), some (vi (s - 0)), some (vi ((k : Int) + 1)), some (vi ((60 * a) + (3 * (k : Int)))), some (vi 0)]) X (by rfl) (by omega) (by omega) (by rfl) dX10_wet_140 ?_
              refine am_goto (tgt := 35) X dX10_wet_143 (by decide) ?_
              refine am_fg [true, true, true, true, true, false, false] rfl (L' := [some (vr 63), some (vi a), some (vi b), some (vi (s - 0)), some (vi ((k : Int) + 1)), none, none]) rfl ?_
              exact ih35 _ (by omega) (k + 1) _ (by omega) (by (try subst s); show _ = r28 - (am_sum (md_wetf σ a.toNat (b / 10) (b % 10)) k + md_wetf σ a.toNat (b / 10) (b % 10) k); unfold md_wetf at *; first | (rw [if_pos (by omega)]; omega) | (rw [if_neg (by omega)]; omega)) rfl
            · skip
              refine am_aload_n (x := 63) X (by rfl) dX10_wet_124 ?_
              refine am_getr (c1 := 88) X 63 fl_X10_83 (by decide) sh_63 (by decide) (by rfl) dX10_wet_125 ?_
              refine am_iload (x := ((60 * a) + (3 * (k : Int)))) X (by rfl) dX10_wet_128 ?_
              refine am_ic X (by decide) dX10_wet_130 ?_
              refine am_add (v := (((60 * a) + (3 * (k : Int))) + 2)) X (by first | rfl | omega) (by omega) dX10_wet_131 ?_
              refine am_lalj (v := σ 88 (60 * a.toNat + 3 * k + 2)) X 88 (60 * a.toNat + 3 * k + 2) sh_88 (by omega) (by omega) (rfl) dX10_wet_132 ?_
              refine am_l2iv X (by omega) dX10_wet_133 ?_
              refine am_goto (tgt := 138) X dX10_wet_134 (by decide) ?_
              refine am_sub (v := (s - σ 88 (60 * a.toNat + 3 * k + 2))) X (by first | rfl | omega) (by omega) dX10_wet_138 ?_
              refine am_istore_n (i := 3) (L' := [some (vr 63), some (vi a), some (vi b), some (vi (s - σ 88 (60 * a.toNat + 3 * k + 2))), some (vi (k : Int)), some (vi ((60 * a) + (3 * (k : Int)))), some (vi 0)]) X rfl (Nat.le_of_ble_eq_true rfl) (by rfl) dX10_wet_139 ?_
              refine am_inc (x := (k : Int)) (v := ((k : Int) + 1)) (L' := [some (vr 63), some (vi a), some (vi b), some (vi (s - σ 88 (60 * a.toNat + 3 * k + 2))), some (vi ((k : Int) + 1)), some (vi ((60 * a) + (3 * (k : Int)))), some (vi 0)]) X (by rfl) (by omega) (by omega) (by rfl) dX10_wet_140 ?_
              refine am_goto (tgt := 35) X dX10_wet_143 (by decide) ?_
              refine am_fg [true, true, true, true, true, false, false] rfl (L' := [some (vr 63), some (vi a), some (vi b), some (vi (s - σ 88 (60 * a.toNat + 3 * k + 2))), some (vi ((k : Int) + 1)), none, none]) rfl ?_
              exact ih35 _ (by omega) (k + 1) _ (by omega) (by (try subst s); show _ = r28 - (am_sum (md_wetf σ a.toNat (b / 10) (b % 10)) k + md_wetf σ a.toNat (b / 10) (b % 10) k); unfold md_wetf at *; first | (rw [if_pos (by omega)]; omega) | (rw [if_neg (by omega)]; omega)) rfl
          · skip
            refine am_aload_n (x := 63) X (by rfl) dX10_wet_77 ?_
            refine am_getr (c1 := 88) X 63 fl_X10_83 (by decide) sh_63 (by decide) (by rfl) dX10_wet_78 ?_
            refine am_iload (x := ((60 * a) + (3 * (k : Int)))) X (by rfl) dX10_wet_81 ?_
            refine am_ic X (by decide) dX10_wet_83 ?_
            refine am_add (v := (((60 * a) + (3 * (k : Int))) + 1)) X (by first | rfl | omega) (by omega) dX10_wet_84 ?_
            refine am_lalj (v := σ 88 (60 * a.toNat + 3 * k + 1)) X 88 (60 * a.toNat + 3 * k + 1) sh_88 (by omega) (by omega) (rfl) dX10_wet_85 ?_
            refine am_iload_n (x := b) X (by rfl) dX10_wet_86 ?_
            refine am_bipush X (by decide) dX10_wet_87 ?_
            refine am_rem (v := (b % 10)) X (by omega) (by omega) rfl dX10_wet_89 ?_
            refine am_i2l X dX10_wet_90 ?_
            refine am_lcmp X dX10_wet_91 ?_
            refine am_topi (fun y91 hy91 => ?_)
            have hc91 : (y91 = 1 ∧ (b % 10) < σ 88 (60 * a.toNat + 3 * k + 1)) ∨ (y91 = 0 ∧ σ 88 (60 * a.toNat + 3 * k + 1) = (b % 10)) ∨ (y91 = -1 ∧ σ 88 (60 * a.toNat + 3 * k + 1) < (b % 10)) := by rw [hy91]; split <;> (try split) <;> omega
            clear hy91
            refine am_if_ne (tgt := 115) X dX10_wet_92 (by decide) (fun h92 => ?_) (fun h92 => ?_)
            · skip
              refine am_ic X (by decide) dX10_wet_115 ?_
              refine am_istore (i := 6) (L' := [some (vr 63), some (vi a), some (vi b), some (vi s), some (vi (k : Int)), some (vi ((60 * a) + (3 * (k : Int)))), some (vi 0)]) X (Nat.le_of_ble_eq_true rfl) (by rfl) dX10_wet_116 ?_
              refine am_iload_n (x := s) X (by rfl) dX10_wet_118 ?_
              refine am_iload (x := 0) X (by rfl) dX10_wet_119 ?_
              refine am_if_eq (tgt := 137) X dX10_wet_121 (by decide) (fun h121 => ?_) (fun h121 => ?_)
              · skip
                refine am_ic X (by decide) dX10_wet_137 ?_
                refine am_sub (v := (s - 0)) X (by first | rfl | omega) (by omega) dX10_wet_138 ?_
                refine am_istore_n (i := 3) (L' := [some (vr 63), some (vi a), some (vi b), some (vi (s - 0)), some (vi (k : Int)), some (vi ((60 * a) + (3 * (k : Int)))), some (vi 0)]) X rfl (Nat.le_of_ble_eq_true rfl) (by rfl) dX10_wet_139 ?_
                refine am_inc (x := (k : Int)) (v := ((k : Int) + 1)) (L' := [some (vr 63), some (vi a), some (vi b), some (vi (s - 0)), some (vi ((k : Int) + 1)), some (vi ((60 * a) + (3 * (k : Int)))), some (vi 0)]) X (by rfl) (by omega) (by omega) (by rfl) dX10_wet_140 ?_
                refine am_goto (tgt := 35) X dX10_wet_143 (by decide) ?_
                refine am_fg [true, true, true, true, true, false, false] rfl (L' := [some (vr 63), some (vi a), some (vi b), some (vi (s - 0)), some (vi ((k : Int) + 1)), none, none]) rfl ?_
                exact ih35 _ (by omega) (k + 1) _ (by omega) (by (try subst s); show _ = r28 - (am_sum (md_wetf σ a.toNat (b / 10) (b % 10)) k + md_wetf σ a.toNat (b / 10) (b % 10) k); unfold md_wetf at *; first | (rw [if_pos (by omega)]; omega) | (rw [if_neg (by omega)]; omega)) rfl
              · skip
                refine am_aload_n (x := 63) X (by rfl) dX10_wet_124 ?_
                refine am_getr (c1 := 88) X 63 fl_X10_83 (by decide) sh_63 (by decide) (by rfl) dX10_wet_125 ?_
                refine am_iload (x := ((60 * a) + (3 * (k : Int)))) X (by rfl) dX10_wet_128 ?_
                refine am_ic X (by decide) dX10_wet_130 ?_
                refine am_add (v := (((60 * a) + (3 * (k : Int))) + 2)) X (by first | rfl | omega) (by omega) dX10_wet_131 ?_
                refine am_lalj (v := σ 88 (60 * a.toNat + 3 * k + 2)) X 88 (60 * a.toNat + 3 * k + 2) sh_88 (by omega) (by omega) (rfl) dX10_wet_132 ?_
                refine am_l2iv X (by omega) dX10_wet_133 ?_
                refine am_goto (tgt := 138) X dX10_wet_134 (by decide) ?_
                refine am_sub (v := (s - σ 88 (60 * a.toNat + 3 * k + 2))) X (by first | rfl | omega) (by omega) dX10_wet_138 ?_
                refine am_istore_n (i := 3) (L' := [some (vr 63), some (vi a), some (vi b), some (vi (s - σ 88 (60 * a.toNat + 3 * k + 2))), some (vi (k : Int)), some (vi ((60 * a) + (3 * (k : Int)))), some (vi 0)]) X rfl (Nat.le_of_ble_eq_true rfl) (by rfl) dX10_wet_139 ?_
                refine am_inc (x := (k : Int)) (v := ((k : Int) + 1)) (L' := [some (vr 63), some (vi a), some (vi b), some (vi (s - σ 88 (60 * a.toNat + 3 * k + 2))), some (vi ((k : Int) + 1)), some (vi ((60 * a) + (3 * (k : Int)))), some (vi 0)]) X (by rfl) (by omega) (by omega) (by rfl) dX10_wet_140 ?_
                refine am_goto (tgt := 35) X dX10_wet_143 (by decide) ?_
                refine am_fg [true, true, true, true, true, false, false] rfl (L' := [some (vr 63), some (vi a), some (vi b), some (vi (s - σ 88 (60 * a.toNat + 3 * k + 2))), some (vi ((k : Int) + 1)), none, none]) rfl ?_
                exact ih35 _ (by omega) (k + 1) _ (by omega) (by (try subst s); show _ = r28 - (am_sum (md_wetf σ a.toNat (b / 10) (b % 10)) k + md_wetf σ a.toNat (b / 10) (b % 10) k); unfold md_wetf at *; first | (rw [if_pos (by omega)]; omega) | (rw [if_neg (by omega)]; omega)) rfl
            · skip
              refine am_aload_n (x := 63) X (by rfl) dX10_wet_95 ?_
              refine am_getr (c1 := 88) X 63 fl_X10_83 (by decide) sh_63 (by decide) (by rfl) dX10_wet_96 ?_
              refine am_iload (x := ((60 * a) + (3 * (k : Int)))) X (by rfl) dX10_wet_99 ?_
              refine am_ic X (by decide) dX10_wet_101 ?_
              refine am_add (v := (((60 * a) + (3 * (k : Int))) + 2)) X (by first | rfl | omega) (by omega) dX10_wet_102 ?_
              refine am_lalj (v := σ 88 (60 * a.toNat + 3 * k + 2)) X 88 (60 * a.toNat + 3 * k + 2) sh_88 (by omega) (by omega) (rfl) dX10_wet_103 ?_
              refine am_ldc2 X (n := -1) (by unfold R64; decide) cn_X10_284 dX10_wet_104 ?_
              refine am_lcmp X dX10_wet_107 ?_
              refine am_topi (fun y107 hy107 => ?_)
              have hc107 : (y107 = 1 ∧ -1 < σ 88 (60 * a.toNat + 3 * k + 2)) ∨ (y107 = 0 ∧ σ 88 (60 * a.toNat + 3 * k + 2) = -1) ∨ (y107 = -1 ∧ σ 88 (60 * a.toNat + 3 * k + 2) < -1) := by rw [hy107]; split <;> (try split) <;> omega
              clear hy107
              refine am_if_eq (tgt := 115) X dX10_wet_108 (by decide) (fun h108 => ?_) (fun h108 => ?_)
              · skip
                refine am_ic X (by decide) dX10_wet_115 ?_
                refine am_istore (i := 6) (L' := [some (vr 63), some (vi a), some (vi b), some (vi s), some (vi (k : Int)), some (vi ((60 * a) + (3 * (k : Int)))), some (vi 0)]) X (Nat.le_of_ble_eq_true rfl) (by rfl) dX10_wet_116 ?_
                refine am_iload_n (x := s) X (by rfl) dX10_wet_118 ?_
                refine am_iload (x := 0) X (by rfl) dX10_wet_119 ?_
                refine am_if_eq (tgt := 137) X dX10_wet_121 (by decide) (fun h121 => ?_) (fun h121 => ?_)
                · skip
                  refine am_ic X (by decide) dX10_wet_137 ?_
                  refine am_sub (v := (s - 0)) X (by first | rfl | omega) (by omega) dX10_wet_138 ?_
                  refine am_istore_n (i := 3) (L' := [some (vr 63), some (vi a), some (vi b), some (vi (s - 0)), some (vi (k : Int)), some (vi ((60 * a) + (3 * (k : Int)))), some (vi 0)]) X rfl (Nat.le_of_ble_eq_true rfl) (by rfl) dX10_wet_139 ?_
                  refine am_inc (x := (k : Int)) (v := ((k : Int) + 1)) (L' := [some (vr 63), some (vi a), some (vi b), some (vi (s - 0)), some (vi ((k : Int) + 1)), some (vi ((60 * a) + (3 * (k : Int)))), some (vi 0)]) X (by rfl) (by omega) (by omega) (by rfl) dX10_wet_140 ?_
                  refine am_goto (tgt := 35) X dX10_wet_143 (by decide) ?_
                  refine am_fg [true, true, true, true, true, false, false] rfl (L' := [some (vr 63), some (vi a), some (vi b), some (vi (s - 0)), some (vi ((k : Int) + 1)), none, none]) rfl ?_
                  exact ih35 _ (by omega) (k + 1) _ (by omega) (by (try subst s); show _ = r28 - (am_sum (md_wetf σ a.toNat (b / 10) (b % 10)) k + md_wetf σ a.toNat (b / 10) (b % 10) k); unfold md_wetf at *; first | (rw [if_pos (by omega)]; omega) | (rw [if_neg (by omega)]; omega)) rfl
                · skip
                  refine am_aload_n (x := 63) X (by rfl) dX10_wet_124 ?_
                  refine am_getr (c1 := 88) X 63 fl_X10_83 (by decide) sh_63 (by decide) (by rfl) dX10_wet_125 ?_
                  refine am_iload (x := ((60 * a) + (3 * (k : Int)))) X (by rfl) dX10_wet_128 ?_
                  refine am_ic X (by decide) dX10_wet_130 ?_
                  refine am_add (v := (((60 * a) + (3 * (k : Int))) + 2)) X (by first | rfl | omega) (by omega) dX10_wet_131 ?_
                  refine am_lalj (v := σ 88 (60 * a.toNat + 3 * k + 2)) X 88 (60 * a.toNat + 3 * k + 2) sh_88 (by omega) (by omega) (rfl) dX10_wet_132 ?_
                  refine am_l2iv X (by omega) dX10_wet_133 ?_
                  refine am_goto (tgt := 138) X dX10_wet_134 (by decide) ?_
                  refine am_sub (v := (s - σ 88 (60 * a.toNat + 3 * k + 2))) X (by first | rfl | omega) (by omega) dX10_wet_138 ?_
                  refine am_istore_n (i := 3) (L' := [some (vr 63), some (vi a), some (vi b), some (vi (s - σ 88 (60 * a.toNat + 3 * k + 2))), some (vi (k : Int)), some (vi ((60 * a) + (3 * (k : Int)))), some (vi 0)]) X rfl (Nat.le_of_ble_eq_true rfl) (by rfl) dX10_wet_139 ?_
                  refine am_inc (x := (k : Int)) (v := ((k : Int) + 1)) (L' := [some (vr 63), some (vi a), some (vi b), some (vi (s - σ 88 (60 * a.toNat + 3 * k + 2))), some (vi ((k : Int) + 1)), some (vi ((60 * a) + (3 * (k : Int)))), some (vi 0)]) X (by rfl) (by omega) (by omega) (by rfl) dX10_wet_140 ?_
                  refine am_goto (tgt := 35) X dX10_wet_143 (by decide) ?_
                  refine am_fg [true, true, true, true, true, false, false] rfl (L' := [some (vr 63), some (vi a), some (vi b), some (vi (s - σ 88 (60 * a.toNat + 3 * k + 2))), some (vi ((k : Int) + 1)), none, none]) rfl ?_
                  exact ih35 _ (by omega) (k + 1) _ (by omega) (by (try subst s); show _ = r28 - (am_sum (md_wetf σ a.toNat (b / 10) (b % 10)) k + md_wetf σ a.toNat (b / 10) (b % 10) k); unfold md_wetf at *; first | (rw [if_pos (by omega)]; omega) | (rw [if_neg (by omega)]; omega)) rfl
              · skip
                refine am_ic X (by decide) dX10_wet_111 ?_
                refine am_goto (tgt := 116) X dX10_wet_112 (by decide) ?_
                refine am_istore (i := 6) (L' := [some (vr 63), some (vi a), some (vi b), some (vi s), some (vi (k : Int)), some (vi ((60 * a) + (3 * (k : Int)))), some (vi 1)]) X (Nat.le_of_ble_eq_true rfl) (by rfl) dX10_wet_116 ?_
                refine am_iload_n (x := s) X (by rfl) dX10_wet_118 ?_
                refine am_iload (x := 1) X (by rfl) dX10_wet_119 ?_
                refine am_if_eq (tgt := 137) X dX10_wet_121 (by decide) (fun h121 => ?_) (fun h121 => ?_)
                · skip
                  refine am_ic X (by decide) dX10_wet_137 ?_
                  refine am_sub (v := (s - 0)) X (by first | rfl | omega) (by omega) dX10_wet_138 ?_
                  refine am_istore_n (i := 3) (L' := [some (vr 63), some (vi a), some (vi b), some (vi (s - 0)), some (vi (k : Int)), some (vi ((60 * a) + (3 * (k : Int)))), some (vi 1)]) X rfl (Nat.le_of_ble_eq_true rfl) (by rfl) dX10_wet_139 ?_
                  refine am_inc (x := (k : Int)) (v := ((k : Int) + 1)) (L' := [some (vr 63), some (vi a), some (vi b), some (vi (s - 0)), some (vi ((k : Int) + 1)), some (vi ((60 * a) + (3 * (k : Int)))), some (vi 1)]) X (by rfl) (by omega) (by omega) (by rfl) dX10_wet_140 ?_
                  refine am_goto (tgt := 35) X dX10_wet_143 (by decide) ?_
                  refine am_fg [true, true, true, true, true, false, false] rfl (L' := [some (vr 63), some (vi a), some (vi b), some (vi (s - 0)), some (vi ((k : Int) + 1)), none, none]) rfl ?_
                  exact ih35 _ (by omega) (k + 1) _ (by omega) (by (try subst s); show _ = r28 - (am_sum (md_wetf σ a.toNat (b / 10) (b % 10)) k + md_wetf σ a.toNat (b / 10) (b % 10) k); unfold md_wetf at *; first | (rw [if_pos (by omega)]; omega) | (rw [if_neg (by omega)]; omega)) rfl
                · skip
                  refine am_aload_n (x := 63) X (by rfl) dX10_wet_124 ?_
                  refine am_getr (c1 := 88) X 63 fl_X10_83 (by decide) sh_63 (by decide) (by rfl) dX10_wet_125 ?_
                  refine am_iload (x := ((60 * a) + (3 * (k : Int)))) X (by rfl) dX10_wet_128 ?_
                  refine am_ic X (by decide) dX10_wet_130 ?_
                  refine am_add (v := (((60 * a) + (3 * (k : Int))) + 2)) X (by first | rfl | omega) (by omega) dX10_wet_131 ?_
                  refine am_lalj (v := σ 88 (60 * a.toNat + 3 * k + 2)) X 88 (60 * a.toNat + 3 * k + 2) sh_88 (by omega) (by omega) (rfl) dX10_wet_132 ?_
                  refine am_l2iv X (by omega) dX10_wet_133 ?_
                  refine am_goto (tgt := 138) X dX10_wet_134 (by decide) ?_
                  refine am_sub (v := (s - σ 88 (60 * a.toNat + 3 * k + 2))) X (by first | rfl | omega) (by omega) dX10_wet_138 ?_
                  refine am_istore_n (i := 3) (L' := [some (vr 63), some (vi a), some (vi b), some (vi (s - σ 88 (60 * a.toNat + 3 * k + 2))), some (vi (k : Int)), some (vi ((60 * a) + (3 * (k : Int)))), some (vi 1)]) X rfl (Nat.le_of_ble_eq_true rfl) (by rfl) dX10_wet_139 ?_
                  refine am_inc (x := (k : Int)) (v := ((k : Int) + 1)) (L' := [some (vr 63), some (vi a), some (vi b), some (vi (s - σ 88 (60 * a.toNat + 3 * k + 2))), some (vi ((k : Int) + 1)), some (vi ((60 * a) + (3 * (k : Int)))), some (vi 1)]) X (by rfl) (by omega) (by omega) (by rfl) dX10_wet_140 ?_
                  refine am_goto (tgt := 35) X dX10_wet_143 (by decide) ?_
                  refine am_fg [true, true, true, true, true, false, false] rfl (L' := [some (vr 63), some (vi a), some (vi b), some (vi (s - σ 88 (60 * a.toNat + 3 * k + 2))), some (vi ((k : Int) + 1)), none, none]) rfl ?_
                  exact ih35 _ (by omega) (k + 1) _ (by omega) (by (try subst s); show _ = r28 - (am_sum (md_wetf σ a.toNat (b / 10) (b % 10)) k + md_wetf σ a.toNat (b / 10) (b % 10) k); unfold md_wetf at *; first | (rw [if_pos (by omega)]; omega) | (rw [if_neg (by omega)]; omega)) rfl
      exact hL35 _ 0 _ (by omega) (by simp [am_sum]) rfl
    · skip
      refine am_ldc X (n := -2000000000) (by unfold R32; decide) cn_X10_149 dX10_wet_16 ?_
      exact hret _ _ _ _ _ dX10_wet_18 rfl rfl (by refine ⟨rfl, rfl, ?_⟩; (try rw [show (σ 87 a.toNat / 3).toNat = k by omega]); unfold md_owed; (repeat' split) <;> first | omega | assumption)

set_option maxHeartbeats 4000000 in
set_option maxRecDepth 100000 in
theorem m_X10_image (σ : am_H) : am_Mi yX10_image cX10_image 1 (some .int) 1 0 0 [vr 63] SH σ (fun r sh' σ' => SH = sh' ∧ md_img σ = σ' ∧ r = σ 63 9) := by
  refine am_Mi_of (by decide +kernel) (Nat.le_of_ble_eq_true rfl) (fun K X hY hI hret => ?_)
  show am_G K 0 [some (vr 63)] [] SH σ
  refine am_aload_n (x := 63) X (by rfl) dX10_image_0 ?_
  refine am_ic X (by decide) dX10_image_1 ?_
  refine am_putz X 63 fl_X10_292 rfl rfl sh_63 (by decide) (by first | exact Or.inl rfl | exact Or.inr rfl | omega) dX10_image_2 ?_
  refine am_aload_n (x := 63) X (by rfl) dX10_image_5 ?_
  refine am_aload_n (x := 63) X (by rfl) dX10_image_6 ?_
  refine am_get (v := (σ 63 7)) X 63 fl_X10_111 (by decide) sh_63 (by decide) (by simp [am_cp, am_up]) dX10_image_7 ?_
  refine am_puti X 63 fl_X10_296 rfl rfl sh_63 (by decide) dX10_image_10 ?_
  refine am_aload_n (x := 63) X (by rfl) dX10_image_13 ?_
  refine am_aload_n (x := 63) X (by rfl) dX10_image_14 ?_
  refine am_get (v := (σ 63 20)) X 63 fl_X10_161 (by decide) sh_63 (by decide) (by simp [am_cp, am_up]) dX10_image_15 ?_
  refine am_puti X 63 fl_X10_299 rfl rfl sh_63 (by decide) dX10_image_18 ?_
  refine am_aload_n (x := 63) X (by rfl) dX10_image_21 ?_
  refine am_aload_n (x := 63) X (by rfl) dX10_image_22 ?_
  refine am_get (v := (σ 63 9)) X 63 fl_X10_231 (by decide) sh_63 (by decide) (by simp [am_cp, am_up]) dX10_image_23 ?_
  refine am_puti X 63 fl_X10_302 rfl rfl sh_63 (by decide) dX10_image_26 ?_
  refine am_aload_n (x := 63) X (by rfl) dX10_image_29 ?_
  refine am_getr (c1 := 68) X 63 fl_X10_22 (by decide) sh_63 (by decide) (by rfl) dX10_image_30 ?_
  refine am_aload_n (x := 63) X (by rfl) dX10_image_33 ?_
  refine am_getr (c1 := 79) X 63 fl_X10_56 (by decide) sh_63 (by decide) (by rfl) dX10_image_34 ?_
  refine am_callSv X hY lk_X10_305 mf_X10_copies (m_X10_copies 68 79 100 (by decide) (by decide) sh_68 sh_79 (am_up (am_up (am_up (am_up σ 63 30 1) 63 31 (σ 63 7)) 63 32 (σ 63 20)) 63 33 (σ 63 9))) (by decide) (by decide) (Nat.le_refl _) (Nat.le_refl _) rfl rfl (Nat.le_of_ble_eq_true rfl) dX10_image_37 (fun sh37 σ37 hp37 => ?_)
  obtain ⟨rfl, rfl, hq37⟩ := hp37
  refine am_aload_n (x := 63) X (by rfl) dX10_image_40 ?_
  refine am_getr (c1 := 72) X 63 fl_X10_34 (by decide) sh_63 (by decide) (by rfl) dX10_image_41 ?_
  refine am_aload_n (x := 63) X (by rfl) dX10_image_44 ?_
  refine am_getr (c1 := 80) X 63 fl_X10_59 (by decide) sh_63 (by decide) (by rfl) dX10_image_45 ?_
  refine am_callSv X hY lk_X10_305 mf_X10_copies (m_X10_copies 72 80 90 (by decide) (by decide) sh_72 sh_80 (am_cp (am_up (am_up (am_up (am_up σ 63 30 1) 63 31 (σ 63 7)) 63 32 (σ 63 20)) 63 33 (σ 63 9)) 68 79 0 0 100)) (by decide) (by decide) (Nat.le_refl _) (Nat.le_refl _) rfl rfl (Nat.le_of_ble_eq_true rfl) dX10_image_48 (fun sh48 σ48 hp48 => ?_)
  obtain ⟨rfl, rfl, hq48⟩ := hp48
  refine am_aload_n (x := 63) X (by rfl) dX10_image_51 ?_
  refine am_getr (c1 := 73) X 63 fl_X10_37 (by decide) sh_63 (by decide) (by rfl) dX10_image_52 ?_
  refine am_aload_n (x := 63) X (by rfl) dX10_image_55 ?_
  refine am_getr (c1 := 81) X 63 fl_X10_62 (by decide) sh_63 (by decide) (by rfl) dX10_image_56 ?_
  refine am_callSv X hY lk_X10_305 mf_X10_copies (m_X10_copies 73 81 8 (by decide) (by decide) sh_73 sh_81 (am_cp (am_cp (am_up (am_up (am_up (am_up σ 63 30 1) 63 31 (σ 63 7)) 63 32 (σ 63 20)) 63 33 (σ 63 9)) 68 79 0 0 100) 72 80 0 0 90)) (by decide) (by decide) (Nat.le_refl _) (Nat.le_refl _) rfl rfl (Nat.le_of_ble_eq_true rfl) dX10_image_59 (fun sh59 σ59 hp59 => ?_)
  obtain ⟨rfl, rfl, hq59⟩ := hp59
  refine am_aload_n (x := 63) X (by rfl) dX10_image_62 ?_
  refine am_getr (c1 := 74) X 63 fl_X10_40 (by decide) sh_63 (by decide) (by rfl) dX10_image_63 ?_
  refine am_aload_n (x := 63) X (by rfl) dX10_image_66 ?_
  refine am_getr (c1 := 82) X 63 fl_X10_65 (by decide) sh_63 (by decide) (by rfl) dX10_image_67 ?_
  refine am_callSv X hY lk_X10_305 mf_X10_copies (m_X10_copies 74 82 384 (by decide) (by decide) sh_74 sh_82 (am_cp (am_cp (am_cp (am_up (am_up (am_up (am_up σ 63 30 1) 63 31 (σ 63 7)) 63 32 (σ 63 20)) 63 33 (σ 63 9)) 68 79 0 0 100) 72 80 0 0 90) 73 81 0 0 8)) (by decide) (by decide) (Nat.le_refl _) (Nat.le_refl _) rfl rfl (Nat.le_of_ble_eq_true rfl) dX10_image_70 (fun sh70 σ70 hp70 => ?_)
  obtain ⟨rfl, rfl, hq70⟩ := hp70
  refine am_aload_n (x := 63) X (by rfl) dX10_image_73 ?_
  refine am_getr (c1 := 75) X 63 fl_X10_43 (by decide) sh_63 (by decide) (by rfl) dX10_image_74 ?_
  refine am_aload_n (x := 63) X (by rfl) dX10_image_77 ?_
  refine am_getr (c1 := 83) X 63 fl_X10_68 (by decide) sh_63 (by decide) (by rfl) dX10_image_78 ?_
  refine am_callSv X hY lk_X10_305 mf_X10_copies (m_X10_copies 75 83 384 (by decide) (by decide) sh_75 sh_83 (am_cp (am_cp (am_cp (am_cp (am_up (am_up (am_up (am_up σ 63 30 1) 63 31 (σ 63 7)) 63 32 (σ 63 20)) 63 33 (σ 63 9)) 68 79 0 0 100) 72 80 0 0 90) 73 81 0 0 8) 74 82 0 0 384)) (by decide) (by decide) (Nat.le_refl _) (Nat.le_refl _) rfl rfl (Nat.le_of_ble_eq_true rfl) dX10_image_81 (fun sh81 σ81 hp81 => ?_)
  obtain ⟨rfl, rfl, hq81⟩ := hp81
  refine am_aload_n (x := 63) X (by rfl) dX10_image_84 ?_
  refine am_get (v := (σ 63 9)) X 63 fl_X10_231 (by decide) sh_63 (by decide) (by simp [am_cp, am_up]) dX10_image_85 ?_
  exact hret _ _ _ _ _ dX10_image_88 rfl rfl (⟨rfl, rfl, rfl⟩)

set_option maxHeartbeats 4000000 in
set_option maxRecDepth 100000 in
theorem m_X10_back (σ : am_H) (hk1 : 0 ≤ σ 63 30 ∧ σ 63 30 ≤ 1) : am_Mi yX10_back cX10_back 1 (some .int) 1 0 0 [vr 63] SH σ (fun r sh' σ' => SH = sh' ∧ ((σ 63 30 = 0 ∧ r = -5 ∧ σ = σ') ∨ (σ 63 30 = 1 ∧ r = σ 63 33 ∧ (md_bck σ) = σ'))) := by
  refine am_Mi_of (by decide +kernel) (Nat.le_of_ble_eq_true rfl) (fun K X hY hI hret => ?_)
  show am_G K 0 [some (vr 63)] [] SH σ
  refine am_aload_n (x := 63) X (by rfl) dX10_back_0 ?_
  refine am_get (v := σ 63 30) X 63 fl_X10_292 (by decide) sh_63 (by decide) (rfl) dX10_back_1 ?_
  refine am_if_ne (tgt := 10) X dX10_back_4 (by decide) (fun h4 => ?_) (fun h4 => ?_)
  · skip
    refine am_aload_n (x := 63) X (by rfl) dX10_back_10 ?_
    refine am_aload_n (x := 63) X (by rfl) dX10_back_11 ?_
    refine am_get (v := σ 63 31) X 63 fl_X10_296 (by decide) sh_63 (by decide) (rfl) dX10_back_12 ?_
    refine am_puti X 63 fl_X10_111 rfl rfl sh_63 (by decide) dX10_back_15 ?_
    refine am_aload_n (x := 63) X (by rfl) dX10_back_18 ?_
    refine am_aload_n (x := 63) X (by rfl) dX10_back_19 ?_
    refine am_get (v := (σ 63 32)) X 63 fl_X10_299 (by decide) sh_63 (by decide) (by simp [am_cp, am_up]) dX10_back_20 ?_
    refine am_puti X 63 fl_X10_161 rfl rfl sh_63 (by decide) dX10_back_23 ?_
    refine am_aload_n (x := 63) X (by rfl) dX10_back_26 ?_
    refine am_aload_n (x := 63) X (by rfl) dX10_back_27 ?_
    refine am_get (v := (σ 63 33)) X 63 fl_X10_302 (by decide) sh_63 (by decide) (by simp [am_cp, am_up]) dX10_back_28 ?_
    refine am_puti X 63 fl_X10_231 rfl rfl sh_63 (by decide) dX10_back_31 ?_
    refine am_aload_n (x := 63) X (by rfl) dX10_back_34 ?_
    refine am_getr (c1 := 79) X 63 fl_X10_56 (by decide) sh_63 (by decide) (by rfl) dX10_back_35 ?_
    refine am_aload_n (x := 63) X (by rfl) dX10_back_38 ?_
    refine am_getr (c1 := 68) X 63 fl_X10_22 (by decide) sh_63 (by decide) (by rfl) dX10_back_39 ?_
    refine am_callSv X hY lk_X10_305 mf_X10_copies (m_X10_copies 79 68 100 (by decide) (by decide) sh_79 sh_68 (am_up (am_up (am_up σ 63 7 (σ 63 31)) 63 20 (σ 63 32)) 63 9 (σ 63 33))) (by decide) (by decide) (Nat.le_refl _) (Nat.le_refl _) rfl rfl (Nat.le_of_ble_eq_true rfl) dX10_back_42 (fun sh42 σ42 hp42 => ?_)
    obtain ⟨rfl, rfl, hq42⟩ := hp42
    refine am_aload_n (x := 63) X (by rfl) dX10_back_45 ?_
    refine am_getr (c1 := 80) X 63 fl_X10_59 (by decide) sh_63 (by decide) (by rfl) dX10_back_46 ?_
    refine am_aload_n (x := 63) X (by rfl) dX10_back_49 ?_
    refine am_getr (c1 := 72) X 63 fl_X10_34 (by decide) sh_63 (by decide) (by rfl) dX10_back_50 ?_
    refine am_callSv X hY lk_X10_305 mf_X10_copies (m_X10_copies 80 72 90 (by decide) (by decide) sh_80 sh_72 (am_cp (am_up (am_up (am_up σ 63 7 (σ 63 31)) 63 20 (σ 63 32)) 63 9 (σ 63 33)) 79 68 0 0 100)) (by decide) (by decide) (Nat.le_refl _) (Nat.le_refl _) rfl rfl (Nat.le_of_ble_eq_true rfl) dX10_back_53 (fun sh53 σ53 hp53 => ?_)
    obtain ⟨rfl, rfl, hq53⟩ := hp53
    refine am_aload_n (x := 63) X (by rfl) dX10_back_56 ?_
    refine am_getr (c1 := 81) X 63 fl_X10_62 (by decide) sh_63 (by decide) (by rfl) dX10_back_57 ?_
    refine am_aload_n (x := 63) X (by rfl) dX10_back_60 ?_
    refine am_getr (c1 := 73) X 63 fl_X10_37 (by decide) sh_63 (by decide) (by rfl) dX10_back_61 ?_
    refine am_callSv X hY lk_X10_305 mf_X10_copies (m_X10_copies 81 73 8 (by decide) (by decide) sh_81 sh_73 (am_cp (am_cp (am_up (am_up (am_up σ 63 7 (σ 63 31)) 63 20 (σ 63 32)) 63 9 (σ 63 33)) 79 68 0 0 100) 80 72 0 0 90)) (by decide) (by decide) (Nat.le_refl _) (Nat.le_refl _) rfl rfl (Nat.le_of_ble_eq_true rfl) dX10_back_64 (fun sh64 σ64 hp64 => ?_)
    obtain ⟨rfl, rfl, hq64⟩ := hp64
    refine am_aload_n (x := 63) X (by rfl) dX10_back_67 ?_
    refine am_getr (c1 := 82) X 63 fl_X10_65 (by decide) sh_63 (by decide) (by rfl) dX10_back_68 ?_
    refine am_aload_n (x := 63) X (by rfl) dX10_back_71 ?_
    refine am_getr (c1 := 74) X 63 fl_X10_40 (by decide) sh_63 (by decide) (by rfl) dX10_back_72 ?_
    refine am_callSv X hY lk_X10_305 mf_X10_copies (m_X10_copies 82 74 384 (by decide) (by decide) sh_82 sh_74 (am_cp (am_cp (am_cp (am_up (am_up (am_up σ 63 7 (σ 63 31)) 63 20 (σ 63 32)) 63 9 (σ 63 33)) 79 68 0 0 100) 80 72 0 0 90) 81 73 0 0 8)) (by decide) (by decide) (Nat.le_refl _) (Nat.le_refl _) rfl rfl (Nat.le_of_ble_eq_true rfl) dX10_back_75 (fun sh75 σ75 hp75 => ?_)
    obtain ⟨rfl, rfl, hq75⟩ := hp75
    refine am_aload_n (x := 63) X (by rfl) dX10_back_78 ?_
    refine am_getr (c1 := 83) X 63 fl_X10_68 (by decide) sh_63 (by decide) (by rfl) dX10_back_79 ?_
    refine am_aload_n (x := 63) X (by rfl) dX10_back_82 ?_
    refine am_getr (c1 := 75) X 63 fl_X10_43 (by decide) sh_63 (by decide) (by rfl) dX10_back_83 ?_
    refine am_callSv X hY lk_X10_305 mf_X10_copies (m_X10_copies 83 75 384 (by decide) (by decide) sh_83 sh_75 (am_cp (am_cp (am_cp (am_cp (am_up (am_up (am_up σ 63 7 (σ 63 31)) 63 20 (σ 63 32)) 63 9 (σ 63 33)) 79 68 0 0 100) 80 72 0 0 90) 81 73 0 0 8) 82 74 0 0 384)) (by decide) (by decide) (Nat.le_refl _) (Nat.le_refl _) rfl rfl (Nat.le_of_ble_eq_true rfl) dX10_back_86 (fun sh86 σ86 hp86 => ?_)
    obtain ⟨rfl, rfl, hq86⟩ := hp86
    refine am_aload_n (x := 63) X (by rfl) dX10_back_89 ?_
    refine am_get (v := (σ 63 33)) X 63 fl_X10_231 (by decide) sh_63 (by decide) (by simp [am_cp, am_up]) dX10_back_90 ?_
    exact hret _ _ _ _ _ dX10_back_93 rfl rfl (by first | exact ⟨rfl, Or.inl ⟨by omega, by omega, rfl⟩⟩ | exact ⟨rfl, Or.inr (⟨by omega, by omega, rfl⟩)⟩)
  · skip
    refine am_bipush X (by decide) dX10_back_7 ?_
    exact hret _ _ _ _ _ dX10_back_9 rfl rfl (by first | exact ⟨rfl, Or.inl ⟨by omega, by omega, rfl⟩⟩ | exact ⟨rfl, Or.inr (⟨by omega, by omega, rfl⟩)⟩)

set_option maxHeartbeats 4000000 in
set_option maxRecDepth 100000 in
theorem m_X10_row (a b c : Int) (σ : am_H) : am_Mi yX10_row cX10_row 5 (some .int) 2 0 0 [vr 63, vi a, vi b, vi c] SH σ (fun r sh' σ' => SH = sh' ∧ ((¬ ((0 ≤ a ∧ a ≤ 5) ∧ (0 ≤ b ∧ b ≤ 4) ∧ c ≤ 60) ∧ r = -1 ∧ σ = σ') ∨ ((((0 ≤ a ∧ a ≤ 5) ∧ (0 ≤ b ∧ b ≤ 4) ∧ c ≤ 60) ∧ c < 0) ∧ r = -14 ∧ σ = σ') ∨ ((((0 ≤ a ∧ a ≤ 5) ∧ (0 ≤ b ∧ b ≤ 4) ∧ c ≤ 60) ∧ 0 ≤ c) ∧ r = 1 ∧ (md_row σ a.toNat b c) = σ'))) := by
  refine am_Mi_of (by decide +kernel) (Nat.le_of_ble_eq_true rfl) (fun K X hY hI hret => ?_)
  show am_G K 0 [some (vr 63), some (vi a), some (vi b), some (vi c), none] [] SH σ
  refine am_iload_n (x := a) X (by rfl) dX10_row_0 ?_
  refine am_callSi X hY lk_X10_128 mf_X10_isShelf (m_X10_isShelf a _ σ) (by decide) (by decide) (Nat.le_refl _) (Nat.le_refl _) rfl rfl (Nat.le_of_ble_eq_true rfl) dX10_row_1 (fun r1 sh1 σ1 hr1 hp1 => ?_)
  obtain ⟨rfl, rfl, hq1⟩ := hp1
  refine am_if_eq (tgt := 25) X dX10_row_4 (by decide) (fun h4 => ?_) (fun h4 => ?_)
  · skip
    refine am_ic X (by decide) dX10_row_25 ?_
    exact hret _ _ _ _ _ dX10_row_26 rfl rfl (by first | exact ⟨rfl, Or.inl ⟨by omega, by omega, rfl⟩⟩ | exact ⟨rfl, Or.inr (Or.inl ⟨by omega, by omega, rfl⟩)⟩ | exact ⟨rfl, Or.inr (Or.inr (⟨by omega, by omega, rfl⟩))⟩ | (rw [show k = 60 by omega]; exact ⟨rfl, Or.inr (Or.inr ⟨by omega, rfl, rfl⟩)⟩))
  · skip
    refine am_iload_n (x := b) X (by rfl) dX10_row_7 ?_
    refine am_i2l X dX10_row_8 ?_
    refine am_lc (v := 0) X (by rfl) dX10_row_9 ?_
    refine am_ldc2 X (n := 4) (by unfold R64; decide) cn_X10_144 dX10_row_10 ?_
    refine am_callSi X hY lk_X10_103 mf_X10_within (m_X10_within b 0 4 _ σ) (by decide) (by decide) (Nat.le_refl _) (Nat.le_refl _) rfl rfl (Nat.le_of_ble_eq_true rfl) dX10_row_13 (fun r13 sh13 σ13 hr13 hp13 => ?_)
    obtain ⟨rfl, rfl, hq13⟩ := hp13
    refine am_if_eq (tgt := 25) X dX10_row_16 (by decide) (fun h16 => ?_) (fun h16 => ?_)
    · skip
      refine am_ic X (by decide) dX10_row_25 ?_
      exact hret _ _ _ _ _ dX10_row_26 rfl rfl (by first | exact ⟨rfl, Or.inl ⟨by omega, by omega, rfl⟩⟩ | exact ⟨rfl, Or.inr (Or.inl ⟨by omega, by omega, rfl⟩)⟩ | exact ⟨rfl, Or.inr (Or.inr (⟨by omega, by omega, rfl⟩))⟩ | (rw [show k = 60 by omega]; exact ⟨rfl, Or.inr (Or.inr ⟨by omega, rfl, rfl⟩)⟩))
    · skip
      refine am_iload_n (x := c) X (by rfl) dX10_row_19 ?_
      refine am_bipush X (by decide) dX10_row_20 ?_
      refine am_icmp_le (tgt := 27) X dX10_row_22 (by decide) (fun h22 => ?_) (fun h22 => ?_)
      · skip
        refine am_iload_n (x := c) X (by rfl) dX10_row_27 ?_
        refine am_if_ge (tgt := 34) X dX10_row_28 (by decide) (fun h28 => ?_) (fun h28 => ?_)
        · skip
          refine am_aload_n (x := 63) X (by rfl) dX10_row_34 ?_
          refine am_getr (c1 := 86) X 63 fl_X10_77 (by decide) sh_63 (by decide) (by rfl) dX10_row_35 ?_
          refine am_iload_n (x := a) X (by rfl) dX10_row_38 ?_
          refine am_bipush X (by decide) dX10_row_39 ?_
          refine am_iload_n (x := b) X (by rfl) dX10_row_41 ?_
          refine am_add (v := (50 + b)) X (by first | rfl | omega) (by omega) dX10_row_42 ?_
          refine am_ast X 86 ((a).toNat) sh_86 (by omega) (by omega) dX10_row_43 ?_
          refine am_aload_n (x := 63) X (by rfl) dX10_row_44 ?_
          refine am_getr (c1 := 87) X 63 fl_X10_80 (by decide) sh_63 (by decide) (by rfl) dX10_row_45 ?_
          refine am_iload_n (x := a) X (by rfl) dX10_row_48 ?_
          refine am_iload_n (x := c) X (by rfl) dX10_row_49 ?_
          refine am_ast X 87 ((a).toNat) sh_87 (by omega) (by omega) dX10_row_50 ?_
          refine am_bipush X (by decide) dX10_row_51 ?_
          refine am_iload_n (x := a) X (by rfl) dX10_row_53 ?_
          refine am_mul (v := (60 * a)) X (by first | rfl | omega) (by omega) dX10_row_54 ?_
          refine am_istore (i := 4) (L' := [some (vr 63), some (vi a), some (vi b), some (vi c), some (vi (60 * a))]) X (Nat.le_of_ble_eq_true rfl) (by rfl) dX10_row_55 ?_
          have hL57 : ∀ (m57 : Nat) (k : Nat) (t : Int) (ht : t = 60 * a + (k : Int)) (hk : k ≤ 60) (hm57 : 60 - k = m57), am_G K 57 [some (vr 63), some (vi a), some (vi b), some (vi c), some (vi t)] [] SH (md_zero (am_up (am_up σ 86 a.toNat (50 + b)) 87 a.toNat c) (60 * a.toNat) k) := by
            intro m57
            induction m57 using Nat.strongRecOn with
            | ind m57 ih57 =>
            intro k t ht hk hm57
            refine am_iload (x := t) X (by rfl) dX10_row_57 ?_
            refine am_bipush X (by decide) dX10_row_59 ?_
            refine am_iload_n (x := a) X (by rfl) dX10_row_61 ?_
            refine am_mul (v := (60 * a)) X (by first | rfl | omega) (by omega) dX10_row_62 ?_
            refine am_bipush X (by decide) dX10_row_63 ?_
            refine am_add (v := ((60 * a) + 60)) X (by first | rfl | omega) (by omega) dX10_row_65 ?_
            refine am_icmp_ge (tgt := 83) X dX10_row_66 (by decide) (fun h66 => ?_) (fun h66 => ?_)
            · skip
              refine am_ic X (by decide) dX10_row_83 ?_
              exact hret _ _ _ _ _ dX10_row_84 rfl rfl (by first | exact ⟨rfl, Or.inl ⟨by omega, by omega, rfl⟩⟩ | exact ⟨rfl, Or.inr (Or.inl ⟨by omega, by omega, rfl⟩)⟩ | exact ⟨rfl, Or.inr (Or.inr (⟨by omega, by omega, rfl⟩))⟩ | (rw [show k = 60 by omega]; exact ⟨rfl, Or.inr (Or.inr ⟨by omega, rfl, rfl⟩)⟩))
            · skip
              refine am_aload_n (x := 63) X (by rfl) dX10_row_69 ?_
              refine am_getr (c1 := 88) X 63 fl_X10_83 (by decide) sh_63 (by decide) (by rfl) dX10_row_70 ?_
              refine am_iload (x := t) X (by rfl) dX10_row_73 ?_
              refine am_lc (v := 0) X (by rfl) dX10_row_75 ?_
              refine am_lasj X 88 (60 * a.toNat + k) sh_88 (by omega) (by omega) dX10_row_76 ?_
              refine am_inc (x := t) (v := (t + 1)) (L' := [some (vr 63), some (vi a), some (vi b), some (vi c), some (vi (t + 1))]) X (by rfl) (by omega) (by omega) (by rfl) dX10_row_77 ?_
              refine am_goto (tgt := 57) X dX10_row_80 (by decide) ?_
              refine am_sg (md_zero (am_up (am_up σ 86 a.toNat (50 + b)) 87 a.toNat c) (60 * a.toNat) (k + 1)) (md_zero_s _ _ _) ?_
              exact ih57 _ (by omega) (k + 1) _ (by omega) (by omega) rfl
          refine am_sg (md_zero (am_up (am_up σ 86 a.toNat (50 + b)) 87 a.toNat c) (60 * a.toNat) 0) ((md_zero_0 _ _).symm) ?_
          exact hL57 _ 0 _ (by omega) (by omega) rfl
        · skip
          refine am_bipush X (by decide) dX10_row_31 ?_
          exact hret _ _ _ _ _ dX10_row_33 rfl rfl (by first | exact ⟨rfl, Or.inl ⟨by omega, by omega, rfl⟩⟩ | exact ⟨rfl, Or.inr (Or.inl ⟨by omega, by omega, rfl⟩)⟩ | exact ⟨rfl, Or.inr (Or.inr (⟨by omega, by omega, rfl⟩))⟩ | (rw [show k = 60 by omega]; exact ⟨rfl, Or.inr (Or.inr ⟨by omega, rfl, rfl⟩)⟩))
      · skip
        refine am_ic X (by decide) dX10_row_25 ?_
        exact hret _ _ _ _ _ dX10_row_26 rfl rfl (by first | exact ⟨rfl, Or.inl ⟨by omega, by omega, rfl⟩⟩ | exact ⟨rfl, Or.inr (Or.inl ⟨by omega, by omega, rfl⟩)⟩ | exact ⟨rfl, Or.inr (Or.inr (⟨by omega, by omega, rfl⟩))⟩ | (rw [show k = 60 by omega]; exact ⟨rfl, Or.inr (Or.inr ⟨by omega, rfl, rfl⟩)⟩))
