set_option maxHeartbeats 4000000 in
set_option maxRecDepth 100000 in
theorem m_X10_undo (σ : am_H) (hcv : ∀ k : Nat, (k : Int) < σ 63 4 → 0 ≤ σ 65 k ∧ σ 65 k < 22) (hD : 0 ≤ σ 63 5 ∧ σ 63 5 ≤ σ 63 4 ∧ σ 63 4 ≤ 40) : am_Mi yX10_undo cX10_undo 1 (some .int) 0 0 0 [vr 63] SH σ (fun r sh' σ' => SH = sh' ∧ ((σ 63 5 = 0 ∧ r = -5 ∧ σ = σ') ∨ (σ 63 5 ≠ 0 ∧ r = σ 63 5 - 1 ∧ (md_undo σ (σ 63 5 - 1).toNat) = σ'))) := by
  refine am_Mi_of (by decide +kernel) (Nat.le_of_ble_eq_true rfl) (fun K X hY hI hret => ?_)
  show am_G K 0 [some (vr 63)] [] SH σ
  refine am_aload_n (x := 63) X (by rfl) dX10_undo_0 ?_
  refine am_get (v := σ 63 5) X 63 fl_X10_94 (by decide) sh_63 (by decide) (rfl) dX10_undo_1 ?_
  refine am_if_ne (tgt := 10) X dX10_undo_4 (by decide) (fun h4 => ?_) (fun h4 => ?_)
  · skip
    have hv := hcv (σ 63 5 - 1).toNat (by omega)
    refine am_aload_n (x := 63) X (by rfl) dX10_undo_10 ?_
    refine am_dup X (Nat.ne_of_beq_eq_false rfl) dX10_undo_11 ?_
    refine am_get (v := σ 63 5) X 63 fl_X10_94 (by decide) sh_63 (by decide) (rfl) dX10_undo_12 ?_
    refine am_ic X (by decide) dX10_undo_15 ?_
    refine am_sub (v := (σ 63 5 - 1)) X (by first | rfl | omega) (by omega) dX10_undo_16 ?_
    refine am_puti X 63 fl_X10_94 rfl rfl sh_63 (by decide) dX10_undo_17 ?_
    refine am_aload_n (x := 63) X (by rfl) dX10_undo_20 ?_
    refine am_getr (c1 := 64) X 63 fl_X10_9 (by decide) sh_63 (by decide) (by rfl) dX10_undo_21 ?_
    refine am_aload_n (x := 63) X (by rfl) dX10_undo_24 ?_
    refine am_getr (c1 := 65) X 63 fl_X10_13 (by decide) sh_63 (by decide) (by rfl) dX10_undo_25 ?_
    refine am_aload_n (x := 63) X (by rfl) dX10_undo_28 ?_
    refine am_get (v := (σ 63 5 - 1)) X 63 fl_X10_94 (by decide) sh_63 (by decide) (by simp [am_up]) dX10_undo_29 ?_
    refine am_ald (v := σ 65 (((σ 63 5 - 1)).toNat)) X 65 (((σ 63 5 - 1)).toNat) sh_65 (by omega) (by omega) (by simp [am_up]) dX10_undo_32 ?_
    refine am_aload_n (x := 63) X (by rfl) dX10_undo_33 ?_
    refine am_getr (c1 := 66) X 63 fl_X10_16 (by decide) sh_63 (by decide) (by rfl) dX10_undo_34 ?_
    refine am_aload_n (x := 63) X (by rfl) dX10_undo_37 ?_
    refine am_get (v := (σ 63 5 - 1)) X 63 fl_X10_94 (by decide) sh_63 (by decide) (by simp [am_up]) dX10_undo_38 ?_
    refine am_ald (v := σ 66 (((σ 63 5 - 1)).toNat)) X 66 (((σ 63 5 - 1)).toNat) sh_66 (by omega) (by omega) (by simp [am_up]) dX10_undo_41 ?_
    refine am_ast X 64 ((σ 65 (((σ 63 5 - 1)).toNat)).toNat) sh_64 (by omega) (by omega) dX10_undo_42 ?_
    refine am_aload_n (x := 63) X (by rfl) dX10_undo_43 ?_
    refine am_get (v := (σ 63 5 - 1)) X 63 fl_X10_94 (by decide) sh_63 (by decide) (by simp [am_up]) dX10_undo_44 ?_
    exact hret _ _ _ _ _ dX10_undo_47 rfl rfl (by first | exact ⟨rfl, Or.inl ⟨by omega, by omega, rfl⟩⟩ | exact ⟨rfl, Or.inr (⟨by omega, by omega, rfl⟩)⟩)
  · skip
    refine am_bipush X (by decide) dX10_undo_7 ?_
    exact hret _ _ _ _ _ dX10_undo_9 rfl rfl (by first | exact ⟨rfl, Or.inl ⟨by omega, by omega, rfl⟩⟩ | exact ⟨rfl, Or.inr (⟨by omega, by omega, rfl⟩)⟩)

set_option maxHeartbeats 4000000 in
set_option maxRecDepth 100000 in
theorem m_X10_redo (σ : am_H) (hcv : ∀ k : Nat, (k : Int) < σ 63 4 → 0 ≤ σ 65 k ∧ σ 65 k < 22) (hD : 0 ≤ σ 63 5 ∧ σ 63 5 ≤ σ 63 4 ∧ σ 63 4 ≤ 40) : am_Mi yX10_redo cX10_redo 1 (some .int) 0 0 0 [vr 63] SH σ (fun r sh' σ' => SH = sh' ∧ ((σ 63 5 = σ 63 4 ∧ r = -5 ∧ σ = σ') ∨ (σ 63 5 ≠ σ 63 4 ∧ r = σ 63 4 - (σ 63 5 + 1) ∧ (md_redo σ (σ 63 5).toNat) = σ'))) := by
  refine am_Mi_of (by decide +kernel) (Nat.le_of_ble_eq_true rfl) (fun K X hY hI hret => ?_)
  show am_G K 0 [some (vr 63)] [] SH σ
  refine am_aload_n (x := 63) X (by rfl) dX10_redo_0 ?_
  refine am_get (v := σ 63 5) X 63 fl_X10_94 (by decide) sh_63 (by decide) (rfl) dX10_redo_1 ?_
  refine am_aload_n (x := 63) X (by rfl) dX10_redo_4 ?_
  refine am_get (v := σ 63 4) X 63 fl_X10_97 (by decide) sh_63 (by decide) (rfl) dX10_redo_5 ?_
  refine am_icmp_ne (tgt := 14) X dX10_redo_8 (by decide) (fun h8 => ?_) (fun h8 => ?_)
  · skip
    have hv := hcv (σ 63 5).toNat (by omega)
    refine am_aload_n (x := 63) X (by rfl) dX10_redo_14 ?_
    refine am_getr (c1 := 64) X 63 fl_X10_9 (by decide) sh_63 (by decide) (by rfl) dX10_redo_15 ?_
    refine am_aload_n (x := 63) X (by rfl) dX10_redo_18 ?_
    refine am_getr (c1 := 65) X 63 fl_X10_13 (by decide) sh_63 (by decide) (by rfl) dX10_redo_19 ?_
    refine am_aload_n (x := 63) X (by rfl) dX10_redo_22 ?_
    refine am_get (v := σ 63 5) X 63 fl_X10_94 (by decide) sh_63 (by decide) (rfl) dX10_redo_23 ?_
    refine am_ald (v := σ 65 ((σ 63 5).toNat)) X 65 ((σ 63 5).toNat) sh_65 (by omega) (by omega) (rfl) dX10_redo_26 ?_
    refine am_aload_n (x := 63) X (by rfl) dX10_redo_27 ?_
    refine am_getr (c1 := 67) X 63 fl_X10_19 (by decide) sh_63 (by decide) (by rfl) dX10_redo_28 ?_
    refine am_aload_n (x := 63) X (by rfl) dX10_redo_31 ?_
    refine am_get (v := σ 63 5) X 63 fl_X10_94 (by decide) sh_63 (by decide) (rfl) dX10_redo_32 ?_
    refine am_ald (v := σ 67 ((σ 63 5).toNat)) X 67 ((σ 63 5).toNat) sh_67 (by omega) (by omega) (rfl) dX10_redo_35 ?_
    refine am_ast X 64 ((σ 65 ((σ 63 5).toNat)).toNat) sh_64 (by omega) (by omega) dX10_redo_36 ?_
    refine am_aload_n (x := 63) X (by rfl) dX10_redo_37 ?_
    refine am_dup X (Nat.ne_of_beq_eq_false rfl) dX10_redo_38 ?_
    refine am_get (v := σ 63 5) X 63 fl_X10_94 (by decide) sh_63 (by decide) (by simp [am_up]) dX10_redo_39 ?_
    refine am_ic X (by decide) dX10_redo_42 ?_
    refine am_add (v := (σ 63 5 + 1)) X (by first | rfl | omega) (by omega) dX10_redo_43 ?_
    refine am_puti X 63 fl_X10_94 rfl rfl sh_63 (by decide) dX10_redo_44 ?_
    refine am_aload_n (x := 63) X (by rfl) dX10_redo_47 ?_
    refine am_get (v := σ 63 4) X 63 fl_X10_97 (by decide) sh_63 (by decide) (by simp [am_up]) dX10_redo_48 ?_
    refine am_aload_n (x := 63) X (by rfl) dX10_redo_51 ?_
    refine am_get (v := (σ 63 5 + 1)) X 63 fl_X10_94 (by decide) sh_63 (by decide) (by simp [am_up]) dX10_redo_52 ?_
    refine am_sub (v := (σ 63 4 - (σ 63 5 + 1))) X (by first | rfl | omega) (by omega) dX10_redo_55 ?_
    exact hret _ _ _ _ _ dX10_redo_56 rfl rfl (by first | exact ⟨rfl, Or.inl ⟨by omega, by omega, rfl⟩⟩ | exact ⟨rfl, Or.inr (⟨by omega, by omega, rfl⟩)⟩)
  · skip
    refine am_bipush X (by decide) dX10_redo_11 ?_
    exact hret _ _ _ _ _ dX10_redo_13 rfl rfl (by first | exact ⟨rfl, Or.inl ⟨by omega, by omega, rfl⟩⟩ | exact ⟨rfl, Or.inr (⟨by omega, by omega, rfl⟩)⟩)

set_option maxHeartbeats 4000000 in
set_option maxRecDepth 100000 in
theorem m_X10_mend (a b c : Int) (σ : am_H) (hp : 0 ≤ σ 63 6 ∧ σ 63 6 ≤ 8) (hD : 0 ≤ σ 63 5 ∧ σ 63 5 ≤ 40) : am_Mi yX10_mend cX10_mend 4 (some .int) 2 0 0 [vr 63, vi a, vi b, vi c] SH σ (fun r sh' σ' => SH = sh' ∧ (((b = 0 ∧ (0 ≤ a ∧ a ≤ 11) ∧ 1 ≤ c ∧ c ≤ 9) ∧ r = σ 64 a.toNat ∧ (md_becomes σ a.toNat c) = σ') ∨ ((b = 1 ∧ (0 ≤ a ∧ a < σ 63 6) ∧ 1 ≤ c ∧ c ≤ 9) ∧ r = σ 64 (12 + a).toNat ∧ (md_becomes σ (12 + a).toNat c) = σ') ∨ ((b = 2 ∧ a = 0 ∧ 0 ≤ c ∧ c ≤ 2) ∧ r = σ 64 20 ∧ (md_becomes σ 20 c) = σ') ∨ ((b = 3 ∧ a = 0 ∧ 0 ≤ c ∧ c ≤ 12) ∧ r = σ 64 21 ∧ (md_becomes σ 21 c) = σ') ∨ (¬ ((b = 0 ∧ (0 ≤ a ∧ a ≤ 11) ∧ 1 ≤ c ∧ c ≤ 9) ∨ (b = 1 ∧ (0 ≤ a ∧ a < σ 63 6) ∧ 1 ≤ c ∧ c ≤ 9) ∨ (b = 2 ∧ a = 0 ∧ 0 ≤ c ∧ c ≤ 2) ∨ (b = 3 ∧ a = 0 ∧ 0 ≤ c ∧ c ≤ 12)) ∧ r = -1 ∧ σ = σ'))) := by
  refine am_Mi_of (by decide +kernel) (Nat.le_of_ble_eq_true rfl) (fun K X hY hI hret => ?_)
  show am_G K 0 [some (vr 63), some (vi a), some (vi b), some (vi c)] [] SH σ
  refine am_iload_n (x := b) X (by rfl) dX10_mend_0 ?_
  by_cases h1o : b < 0 ∨ 3 < b
  · skip
    refine am_tableOut (tgt := 157) X dX10_mend_1 h1o (by decide) ?_
    refine am_ic X (by decide) dX10_mend_157 ?_
    exact hret _ _ _ _ _ dX10_mend_158 rfl rfl (by first | exact ⟨rfl, Or.inl ⟨by omega, by omega, rfl⟩⟩ | exact ⟨rfl, Or.inr (Or.inl ⟨by omega, by omega, rfl⟩)⟩ | exact ⟨rfl, Or.inr (Or.inr (Or.inl ⟨by omega, by omega, rfl⟩))⟩ | exact ⟨rfl, Or.inr (Or.inr (Or.inr (Or.inl ⟨by omega, by omega, rfl⟩)))⟩ | exact ⟨rfl, Or.inr (Or.inr (Or.inr (Or.inr (⟨by omega, by omega, rfl⟩))))⟩)
  rcases (show b = 0 ∨ b = 1 ∨ b = 2 ∨ b = 3 by omega) with h1 | h1 | h1 | h1
  · skip
    refine am_tableIn (off := 31) (tgt := 32) X dX10_mend_1 (by omega) (by omega) (by rw [h1]; rfl) (by decide) ?_
    refine am_iload_n (x := a) X (by rfl) dX10_mend_32 ?_
    refine am_i2l X dX10_mend_33 ?_
    refine am_lc (v := 0) X (by rfl) dX10_mend_34 ?_
    refine am_ldc2 X (n := 11) (by unfold R64; decide) cn_X10_133 dX10_mend_35 ?_
    refine am_callSi X hY lk_X10_103 mf_X10_within (m_X10_within a 0 11 _ σ) (by decide) (by decide) (Nat.le_refl _) (Nat.le_refl _) rfl rfl (Nat.le_of_ble_eq_true rfl) dX10_mend_38 (fun r38 sh38 σ38 hr38 hp38 => ?_)
    obtain ⟨rfl, rfl, hq38⟩ := hp38
    refine am_if_eq (tgt := 65) X dX10_mend_41 (by decide) (fun h41 => ?_) (fun h41 => ?_)
    · skip
      refine am_ic X (by decide) dX10_mend_65 ?_
      exact hret _ _ _ _ _ dX10_mend_66 rfl rfl (by first | exact ⟨rfl, Or.inl ⟨by omega, by omega, rfl⟩⟩ | exact ⟨rfl, Or.inr (Or.inl ⟨by omega, by omega, rfl⟩)⟩ | exact ⟨rfl, Or.inr (Or.inr (Or.inl ⟨by omega, by omega, rfl⟩))⟩ | exact ⟨rfl, Or.inr (Or.inr (Or.inr (Or.inl ⟨by omega, by omega, rfl⟩)))⟩ | exact ⟨rfl, Or.inr (Or.inr (Or.inr (Or.inr (⟨by omega, by omega, rfl⟩))))⟩)
    · skip
      refine am_iload_n (x := c) X (by rfl) dX10_mend_44 ?_
      refine am_i2l X dX10_mend_45 ?_
      refine am_lc (v := 1) X (by rfl) dX10_mend_46 ?_
      refine am_ldc2 X (n := 9) (by unfold R64; decide) cn_X10_116 dX10_mend_47 ?_
      refine am_callSi X hY lk_X10_103 mf_X10_within (m_X10_within c 1 9 _ σ) (by decide) (by decide) (Nat.le_refl _) (Nat.le_refl _) rfl rfl (Nat.le_of_ble_eq_true rfl) dX10_mend_50 (fun r50 sh50 σ50 hr50 hp50 => ?_)
      obtain ⟨rfl, rfl, hq50⟩ := hp50
      refine am_if_eq (tgt := 65) X dX10_mend_53 (by decide) (fun h53 => ?_) (fun h53 => ?_)
      · skip
        refine am_ic X (by decide) dX10_mend_65 ?_
        exact hret _ _ _ _ _ dX10_mend_66 rfl rfl (by first | exact ⟨rfl, Or.inl ⟨by omega, by omega, rfl⟩⟩ | exact ⟨rfl, Or.inr (Or.inl ⟨by omega, by omega, rfl⟩)⟩ | exact ⟨rfl, Or.inr (Or.inr (Or.inl ⟨by omega, by omega, rfl⟩))⟩ | exact ⟨rfl, Or.inr (Or.inr (Or.inr (Or.inl ⟨by omega, by omega, rfl⟩)))⟩ | exact ⟨rfl, Or.inr (Or.inr (Or.inr (Or.inr (⟨by omega, by omega, rfl⟩))))⟩)
      · skip
        refine am_aload_n (x := 63) X (by rfl) dX10_mend_56 ?_
        refine am_iload_n (x := a) X (by rfl) dX10_mend_57 ?_
        refine am_iload_n (x := c) X (by rfl) dX10_mend_58 ?_
        refine am_callVi (ci := 9) X hY lk_X10_135 mf_X10_becomes (m_X10_becomes a ((a).toNat) (by omega) (by omega) c σ (by omega)) (by decide) (by decide) (Nat.le_refl _) (Nat.le_refl _) sh_63 rfl rfl rfl (Nat.le_of_ble_eq_true rfl) dX10_mend_59 (fun r59 sh59 σ59 hr59 hp59 => ?_)
        obtain ⟨rfl, rfl, hq59⟩ := hp59
        refine am_goto (tgt := 66) X dX10_mend_62 (by decide) ?_
        exact hret _ _ _ _ _ dX10_mend_66 rfl rfl (by first | exact ⟨rfl, Or.inl ⟨by omega, by omega, rfl⟩⟩ | exact ⟨rfl, Or.inr (Or.inl ⟨by omega, by omega, rfl⟩)⟩ | exact ⟨rfl, Or.inr (Or.inr (Or.inl ⟨by omega, by omega, rfl⟩))⟩ | exact ⟨rfl, Or.inr (Or.inr (Or.inr (Or.inl ⟨by omega, by omega, rfl⟩)))⟩ | exact ⟨rfl, Or.inr (Or.inr (Or.inr (Or.inr (⟨by omega, by omega, rfl⟩))))⟩)
  · skip
    refine am_tableIn (off := 66) (tgt := 67) X dX10_mend_1 (by omega) (by omega) (by rw [h1]; rfl) (by decide) ?_
    refine am_aload_n (x := 63) X (by rfl) dX10_mend_67 ?_
    refine am_iload_n (x := a) X (by rfl) dX10_mend_68 ?_
    refine am_callVi (ci := 9) X hY lk_X10_107 mf_X10_isPerson (m_X10_isPerson a σ hp) (by decide) (by decide) (Nat.le_refl _) (Nat.le_refl _) sh_63 rfl rfl rfl (Nat.le_of_ble_eq_true rfl) dX10_mend_69 (fun r69 sh69 σ69 hr69 hp69 => ?_)
    obtain ⟨rfl, rfl, hq69⟩ := hp69
    refine am_if_eq (tgt := 99) X dX10_mend_72 (by decide) (fun h72 => ?_) (fun h72 => ?_)
    · skip
      refine am_ic X (by decide) dX10_mend_99 ?_
      exact hret _ _ _ _ _ dX10_mend_100 rfl rfl (by first | exact ⟨rfl, Or.inl ⟨by omega, by omega, rfl⟩⟩ | exact ⟨rfl, Or.inr (Or.inl ⟨by omega, by omega, rfl⟩)⟩ | exact ⟨rfl, Or.inr (Or.inr (Or.inl ⟨by omega, by omega, rfl⟩))⟩ | exact ⟨rfl, Or.inr (Or.inr (Or.inr (Or.inl ⟨by omega, by omega, rfl⟩)))⟩ | exact ⟨rfl, Or.inr (Or.inr (Or.inr (Or.inr (⟨by omega, by omega, rfl⟩))))⟩)
    · skip
      refine am_iload_n (x := c) X (by rfl) dX10_mend_75 ?_
      refine am_i2l X dX10_mend_76 ?_
      refine am_lc (v := 1) X (by rfl) dX10_mend_77 ?_
      refine am_ldc2 X (n := 9) (by unfold R64; decide) cn_X10_116 dX10_mend_78 ?_
      refine am_callSi X hY lk_X10_103 mf_X10_within (m_X10_within c 1 9 _ σ) (by decide) (by decide) (Nat.le_refl _) (Nat.le_refl _) rfl rfl (Nat.le_of_ble_eq_true rfl) dX10_mend_81 (fun r81 sh81 σ81 hr81 hp81 => ?_)
      obtain ⟨rfl, rfl, hq81⟩ := hp81
      refine am_if_eq (tgt := 99) X dX10_mend_84 (by decide) (fun h84 => ?_) (fun h84 => ?_)
      · skip
        refine am_ic X (by decide) dX10_mend_99 ?_
        exact hret _ _ _ _ _ dX10_mend_100 rfl rfl (by first | exact ⟨rfl, Or.inl ⟨by omega, by omega, rfl⟩⟩ | exact ⟨rfl, Or.inr (Or.inl ⟨by omega, by omega, rfl⟩)⟩ | exact ⟨rfl, Or.inr (Or.inr (Or.inl ⟨by omega, by omega, rfl⟩))⟩ | exact ⟨rfl, Or.inr (Or.inr (Or.inr (Or.inl ⟨by omega, by omega, rfl⟩)))⟩ | exact ⟨rfl, Or.inr (Or.inr (Or.inr (Or.inr (⟨by omega, by omega, rfl⟩))))⟩)
      · skip
        refine am_aload_n (x := 63) X (by rfl) dX10_mend_87 ?_
        refine am_bipush X (by decide) dX10_mend_88 ?_
        refine am_iload_n (x := a) X (by rfl) dX10_mend_90 ?_
        refine am_add (v := (12 + a)) X (by first | rfl | omega) (by omega) dX10_mend_91 ?_
        refine am_iload_n (x := c) X (by rfl) dX10_mend_92 ?_
        refine am_callVi (ci := 9) X hY lk_X10_135 mf_X10_becomes (m_X10_becomes (12 + a) (((12 + a)).toNat) (by omega) (by omega) c σ (by omega)) (by decide) (by decide) (Nat.le_refl _) (Nat.le_refl _) sh_63 rfl rfl rfl (Nat.le_of_ble_eq_true rfl) dX10_mend_93 (fun r93 sh93 σ93 hr93 hp93 => ?_)
        obtain ⟨rfl, rfl, hq93⟩ := hp93
        refine am_goto (tgt := 100) X dX10_mend_96 (by decide) ?_
        exact hret _ _ _ _ _ dX10_mend_100 rfl rfl (by first | exact ⟨rfl, Or.inl ⟨by omega, by omega, rfl⟩⟩ | exact ⟨rfl, Or.inr (Or.inl ⟨by omega, by omega, rfl⟩)⟩ | exact ⟨rfl, Or.inr (Or.inr (Or.inl ⟨by omega, by omega, rfl⟩))⟩ | exact ⟨rfl, Or.inr (Or.inr (Or.inr (Or.inl ⟨by omega, by omega, rfl⟩)))⟩ | exact ⟨rfl, Or.inr (Or.inr (Or.inr (Or.inr (⟨by omega, by omega, rfl⟩))))⟩)
  · skip
    refine am_tableIn (off := 100) (tgt := 101) X dX10_mend_1 (by omega) (by omega) (by rw [h1]; rfl) (by decide) ?_
    refine am_iload_n (x := a) X (by rfl) dX10_mend_101 ?_
    refine am_if_ne (tgt := 127) X dX10_mend_102 (by decide) (fun h102 => ?_) (fun h102 => ?_)
    · skip
      refine am_ic X (by decide) dX10_mend_127 ?_
      exact hret _ _ _ _ _ dX10_mend_128 rfl rfl (by first | exact ⟨rfl, Or.inl ⟨by omega, by omega, rfl⟩⟩ | exact ⟨rfl, Or.inr (Or.inl ⟨by omega, by omega, rfl⟩)⟩ | exact ⟨rfl, Or.inr (Or.inr (Or.inl ⟨by omega, by omega, rfl⟩))⟩ | exact ⟨rfl, Or.inr (Or.inr (Or.inr (Or.inl ⟨by omega, by omega, rfl⟩)))⟩ | exact ⟨rfl, Or.inr (Or.inr (Or.inr (Or.inr (⟨by omega, by omega, rfl⟩))))⟩)
    · skip
      refine am_iload_n (x := c) X (by rfl) dX10_mend_105 ?_
      refine am_i2l X dX10_mend_106 ?_
      refine am_lc (v := 0) X (by rfl) dX10_mend_107 ?_
      refine am_ldc2 X (n := 2) (by unfold R64; decide) cn_X10_139 dX10_mend_108 ?_
      refine am_callSi X hY lk_X10_103 mf_X10_within (m_X10_within c 0 2 _ σ) (by decide) (by decide) (Nat.le_refl _) (Nat.le_refl _) rfl rfl (Nat.le_of_ble_eq_true rfl) dX10_mend_111 (fun r111 sh111 σ111 hr111 hp111 => ?_)
      obtain ⟨rfl, rfl, hq111⟩ := hp111
      refine am_if_eq (tgt := 127) X dX10_mend_114 (by decide) (fun h114 => ?_) (fun h114 => ?_)
      · skip
        refine am_ic X (by decide) dX10_mend_127 ?_
        exact hret _ _ _ _ _ dX10_mend_128 rfl rfl (by first | exact ⟨rfl, Or.inl ⟨by omega, by omega, rfl⟩⟩ | exact ⟨rfl, Or.inr (Or.inl ⟨by omega, by omega, rfl⟩)⟩ | exact ⟨rfl, Or.inr (Or.inr (Or.inl ⟨by omega, by omega, rfl⟩))⟩ | exact ⟨rfl, Or.inr (Or.inr (Or.inr (Or.inl ⟨by omega, by omega, rfl⟩)))⟩ | exact ⟨rfl, Or.inr (Or.inr (Or.inr (Or.inr (⟨by omega, by omega, rfl⟩))))⟩)
      · skip
        refine am_aload_n (x := 63) X (by rfl) dX10_mend_117 ?_
        refine am_bipush X (by decide) dX10_mend_118 ?_
        refine am_iload_n (x := c) X (by rfl) dX10_mend_120 ?_
        refine am_callVi (ci := 9) X hY lk_X10_135 mf_X10_becomes (m_X10_becomes 20 20 (by omega) (by omega) c σ (by omega)) (by decide) (by decide) (Nat.le_refl _) (Nat.le_refl _) sh_63 rfl rfl rfl (Nat.le_of_ble_eq_true rfl) dX10_mend_121 (fun r121 sh121 σ121 hr121 hp121 => ?_)
        obtain ⟨rfl, rfl, hq121⟩ := hp121
        refine am_goto (tgt := 128) X dX10_mend_124 (by decide) ?_
        exact hret _ _ _ _ _ dX10_mend_128 rfl rfl (by first | exact ⟨rfl, Or.inl ⟨by omega, by omega, rfl⟩⟩ | exact ⟨rfl, Or.inr (Or.inl ⟨by omega, by omega, rfl⟩)⟩ | exact ⟨rfl, Or.inr (Or.inr (Or.inl ⟨by omega, by omega, rfl⟩))⟩ | exact ⟨rfl, Or.inr (Or.inr (Or.inr (Or.inl ⟨by omega, by omega, rfl⟩)))⟩ | exact ⟨rfl, Or.inr (Or.inr (Or.inr (Or.inr (⟨by omega, by omega, rfl⟩))))⟩)
  · skip
    refine am_tableIn (off := 128) (tgt := 129) X dX10_mend_1 (by omega) (by omega) (by rw [h1]; rfl) (by decide) ?_
    refine am_iload_n (x := a) X (by rfl) dX10_mend_129 ?_
    refine am_if_ne (tgt := 155) X dX10_mend_130 (by decide) (fun h130 => ?_) (fun h130 => ?_)
    · skip
      refine am_ic X (by decide) dX10_mend_155 ?_
      exact hret _ _ _ _ _ dX10_mend_156 rfl rfl (by first | exact ⟨rfl, Or.inl ⟨by omega, by omega, rfl⟩⟩ | exact ⟨rfl, Or.inr (Or.inl ⟨by omega, by omega, rfl⟩)⟩ | exact ⟨rfl, Or.inr (Or.inr (Or.inl ⟨by omega, by omega, rfl⟩))⟩ | exact ⟨rfl, Or.inr (Or.inr (Or.inr (Or.inl ⟨by omega, by omega, rfl⟩)))⟩ | exact ⟨rfl, Or.inr (Or.inr (Or.inr (Or.inr (⟨by omega, by omega, rfl⟩))))⟩)
    · skip
      refine am_iload_n (x := c) X (by rfl) dX10_mend_133 ?_
      refine am_i2l X dX10_mend_134 ?_
      refine am_lc (v := 0) X (by rfl) dX10_mend_135 ?_
      refine am_ldc2 X (n := 12) (by unfold R64; decide) cn_X10_118 dX10_mend_136 ?_
      refine am_callSi X hY lk_X10_103 mf_X10_within (m_X10_within c 0 12 _ σ) (by decide) (by decide) (Nat.le_refl _) (Nat.le_refl _) rfl rfl (Nat.le_of_ble_eq_true rfl) dX10_mend_139 (fun r139 sh139 σ139 hr139 hp139 => ?_)
      obtain ⟨rfl, rfl, hq139⟩ := hp139
      refine am_if_eq (tgt := 155) X dX10_mend_142 (by decide) (fun h142 => ?_) (fun h142 => ?_)
      · skip
        refine am_ic X (by decide) dX10_mend_155 ?_
        exact hret _ _ _ _ _ dX10_mend_156 rfl rfl (by first | exact ⟨rfl, Or.inl ⟨by omega, by omega, rfl⟩⟩ | exact ⟨rfl, Or.inr (Or.inl ⟨by omega, by omega, rfl⟩)⟩ | exact ⟨rfl, Or.inr (Or.inr (Or.inl ⟨by omega, by omega, rfl⟩))⟩ | exact ⟨rfl, Or.inr (Or.inr (Or.inr (Or.inl ⟨by omega, by omega, rfl⟩)))⟩ | exact ⟨rfl, Or.inr (Or.inr (Or.inr (Or.inr (⟨by omega, by omega, rfl⟩))))⟩)
      · skip
        refine am_aload_n (x := 63) X (by rfl) dX10_mend_145 ?_
        refine am_bipush X (by decide) dX10_mend_146 ?_
        refine am_iload_n (x := c) X (by rfl) dX10_mend_148 ?_
        refine am_callVi (ci := 9) X hY lk_X10_135 mf_X10_becomes (m_X10_becomes 21 21 (by omega) (by omega) c σ (by omega)) (by decide) (by decide) (Nat.le_refl _) (Nat.le_refl _) sh_63 rfl rfl rfl (Nat.le_of_ble_eq_true rfl) dX10_mend_149 (fun r149 sh149 σ149 hr149 hp149 => ?_)
        obtain ⟨rfl, rfl, hq149⟩ := hp149
        refine am_goto (tgt := 156) X dX10_mend_152 (by decide) ?_
        exact hret _ _ _ _ _ dX10_mend_156 rfl rfl (by first | exact ⟨rfl, Or.inl ⟨by omega, by omega, rfl⟩⟩ | exact ⟨rfl, Or.inr (Or.inl ⟨by omega, by omega, rfl⟩)⟩ | exact ⟨rfl, Or.inr (Or.inr (Or.inl ⟨by omega, by omega, rfl⟩))⟩ | exact ⟨rfl, Or.inr (Or.inr (Or.inr (Or.inl ⟨by omega, by omega, rfl⟩)))⟩ | exact ⟨rfl, Or.inr (Or.inr (Or.inr (Or.inr (⟨by omega, by omega, rfl⟩))))⟩)

set_option maxHeartbeats 4000000 in
set_option maxRecDepth 100000 in
theorem m_X10_ofPerson (a b : Int) (σ : am_H) (hp : 0 ≤ σ 63 6 ∧ σ 63 6 ≤ 8) (hc : 0 ≤ σ 63 7 ∧ σ 63 7 ≤ 20) (hd : ∀ n : Nat, (n : Int) < σ 63 7 → 0 ≤ σ 68 (5 * n + 2) ∧ σ 68 (5 * n + 2) ≤ 9) (ha : 0 ≤ a ∧ a < 8) : am_Mi yX10_ofPerson cX10_ofPerson 3 (some .int) 1 0 0 [vr 63, vi a, vi b] SH σ (fun r sh' σ' => SH = sh' ∧ σ = σ' ∧ r = md_ofP σ a b) := by
  refine am_Mi_of (by decide +kernel) (Nat.le_of_ble_eq_true rfl) (fun K X hY hI hret => ?_)
  show am_G K 0 [some (vr 63), some (vi a), some (vi b)] [] SH σ
  refine am_iload_n (x := b) X (by rfl) dX10_ofPerson_0 ?_
  refine am_bipush X (by decide) dX10_ofPerson_1 ?_
  refine am_icmp_ne (tgt := 18) X dX10_ofPerson_3 (by decide) (fun h3 => ?_) (fun h3 => ?_)
  · skip
    refine am_iload_n (x := b) X (by rfl) dX10_ofPerson_18 ?_
    refine am_bipush X (by decide) dX10_ofPerson_19 ?_
    refine am_icmp_ne (tgt := 33) X dX10_ofPerson_21 (by decide) (fun h21 => ?_) (fun h21 => ?_)
    · skip
      refine am_iload_n (x := b) X (by rfl) dX10_ofPerson_33 ?_
      refine am_bipush X (by decide) dX10_ofPerson_34 ?_
      refine am_icmp_ne (tgt := 48) X dX10_ofPerson_36 (by decide) (fun h36 => ?_) (fun h36 => ?_)
      · skip
        refine am_aload_n (x := 63) X (by rfl) dX10_ofPerson_48 ?_
        refine am_getr (c1 := 73) X 63 fl_X10_37 (by decide) sh_63 (by decide) (by rfl) dX10_ofPerson_49 ?_
        refine am_iload_n (x := a) X (by rfl) dX10_ofPerson_52 ?_
        refine am_ald (v := σ 73 ((a).toNat)) X 73 ((a).toNat) sh_73 (by omega) (by omega) (rfl) dX10_ofPerson_53 ?_
        exact hret _ _ _ _ _ dX10_ofPerson_54 rfl rfl (by refine ⟨rfl, rfl, ?_⟩; unfold md_ofP md_by md_to; (repeat' split) <;> first | omega | assumption)
      · skip
        refine am_aload_n (x := 63) X (by rfl) dX10_ofPerson_39 ?_
        refine am_iload_n (x := a) X (by rfl) dX10_ofPerson_40 ?_
        refine am_ic X (by decide) dX10_ofPerson_41 ?_
        refine am_callVi (ci := 9) X hY lk_X10_141 mf_X10_sumOf (m_X10_sumOf_1 a σ hc hd) (by decide) (by decide) (Nat.le_refl _) (Nat.le_refl _) sh_63 rfl rfl rfl (Nat.le_of_ble_eq_true rfl) dX10_ofPerson_42 (fun r42 sh42 σ42 hr42 hp42 => ?_)
        obtain ⟨rfl, rfl, hq42⟩ := hp42
        refine am_goto (tgt := 54) X dX10_ofPerson_45 (by decide) ?_
        exact hret _ _ _ _ _ dX10_ofPerson_54 rfl rfl (by refine ⟨rfl, rfl, ?_⟩; unfold md_ofP md_by md_to; (repeat' split) <;> first | omega | assumption)
    · skip
      refine am_aload_n (x := 63) X (by rfl) dX10_ofPerson_24 ?_
      refine am_iload_n (x := a) X (by rfl) dX10_ofPerson_25 ?_
      refine am_ic X (by decide) dX10_ofPerson_26 ?_
      refine am_callVi (ci := 9) X hY lk_X10_141 mf_X10_sumOf (m_X10_sumOf_0 a σ hc hd) (by decide) (by decide) (Nat.le_refl _) (Nat.le_refl _) sh_63 rfl rfl rfl (Nat.le_of_ble_eq_true rfl) dX10_ofPerson_27 (fun r27 sh27 σ27 hr27 hp27 => ?_)
      obtain ⟨rfl, rfl, hq27⟩ := hp27
      refine am_goto (tgt := 54) X dX10_ofPerson_30 (by decide) ?_
      exact hret _ _ _ _ _ dX10_ofPerson_54 rfl rfl (by refine ⟨rfl, rfl, ?_⟩; unfold md_ofP md_by md_to; (repeat' split) <;> first | omega | assumption)
  · skip
    refine am_aload_n (x := 63) X (by rfl) dX10_ofPerson_6 ?_
    refine am_getr (c1 := 64) X 63 fl_X10_9 (by decide) sh_63 (by decide) (by rfl) dX10_ofPerson_7 ?_
    refine am_bipush X (by decide) dX10_ofPerson_10 ?_
    refine am_iload_n (x := a) X (by rfl) dX10_ofPerson_12 ?_
    refine am_add (v := (12 + a)) X (by first | rfl | omega) (by omega) dX10_ofPerson_13 ?_
    refine am_ald (v := σ 64 (((12 + a)).toNat)) X 64 (((12 + a)).toNat) sh_64 (by omega) (by omega) (rfl) dX10_ofPerson_14 ?_
    refine am_goto (tgt := 54) X dX10_ofPerson_15 (by decide) ?_
    exact hret _ _ _ _ _ dX10_ofPerson_54 rfl rfl (by refine ⟨rfl, rfl, ?_⟩; unfold md_ofP md_by md_to; (repeat' split) <;> first | omega | assumption)

set_option maxHeartbeats 4000000 in
set_option maxRecDepth 100000 in
theorem m_X10_of (a b : Int) (σ : am_H) (hp : 0 ≤ σ 63 6 ∧ σ 63 6 ≤ 8) (hc : 0 ≤ σ 63 7 ∧ σ 63 7 ≤ 20) (hd : ∀ n : Nat, (n : Int) < σ 63 7 → 0 ≤ σ 68 (5 * n + 2) ∧ σ 68 (5 * n + 2) ≤ 9) (ha : 0 ≤ σ 63 20 ∧ σ 63 20 ≤ 30) : am_Mi yX10_of cX10_of 3 (some .int) 3 0 0 [vr 63, vi a, vi b] SH σ (fun r sh' σ' => SH = sh' ∧ σ = σ' ∧ r = md_of σ a b) := by
  refine am_Mi_of (by decide +kernel) (Nat.le_of_ble_eq_true rfl) (fun K X hY hI hret => ?_)
  show am_G K 0 [some (vr 63), some (vi a), some (vi b)] [] SH σ
  refine am_iload_n (x := b) X (by rfl) dX10_of_0 ?_
  refine am_i2l X dX10_of_1 ?_
  refine am_lc (v := 0) X (by rfl) dX10_of_2 ?_
  refine am_ldc2 X (n := 4) (by unfold R64; decide) cn_X10_144 dX10_of_3 ?_
  refine am_callSi X hY lk_X10_103 mf_X10_within (m_X10_within b 0 4 _ σ) (by decide) (by decide) (Nat.le_refl _) (Nat.le_refl _) rfl rfl (Nat.le_of_ble_eq_true rfl) dX10_of_6 (fun r6 sh6 σ6 hr6 hp6 => ?_)
  obtain ⟨rfl, rfl, hq6⟩ := hp6
  refine am_if_eq (tgt := 36) X dX10_of_9 (by decide) (fun h9 => ?_) (fun h9 => ?_)
  · skip
    refine am_iload_n (x := b) X (by rfl) dX10_of_36 ?_
    refine am_i2l X dX10_of_37 ?_
    refine am_ldc2 X (n := 10) (by unfold R64; decide) cn_X10_150 dX10_of_38 ?_
    refine am_ldc2 X (n := 13) (by unfold R64; decide) cn_X10_152 dX10_of_41 ?_
    refine am_callSi X hY lk_X10_103 mf_X10_within (m_X10_within b 10 13 _ σ) (by decide) (by decide) (Nat.le_refl _) (Nat.le_refl _) rfl rfl (Nat.le_of_ble_eq_true rfl) dX10_of_44 (fun r44 sh44 σ44 hr44 hp44 => ?_)
    obtain ⟨rfl, rfl, hq44⟩ := hp44
    refine am_if_eq (tgt := 70) X dX10_of_47 (by decide) (fun h47 => ?_) (fun h47 => ?_)
    · skip
      refine am_iload_n (x := b) X (by rfl) dX10_of_70 ?_
      refine am_i2l X dX10_of_71 ?_
      refine am_ldc2 X (n := 40) (by unfold R64; decide) cn_X10_157 dX10_of_72 ?_
      refine am_ldc2 X (n := 42) (by unfold R64; decide) cn_X10_159 dX10_of_75 ?_
      refine am_callSi X hY lk_X10_103 mf_X10_within (m_X10_within b 40 42 _ σ) (by decide) (by decide) (Nat.le_refl _) (Nat.le_refl _) rfl rfl (Nat.le_of_ble_eq_true rfl) dX10_of_78 (fun r78 sh78 σ78 hr78 hp78 => ?_)
      obtain ⟨rfl, rfl, hq78⟩ := hp78
      refine am_if_eq (tgt := 119) X dX10_of_81 (by decide) (fun h81 => ?_) (fun h81 => ?_)
      · skip
        refine am_iload_n (x := b) X (by rfl) dX10_of_119 ?_
        by_cases h120_0 : b = 20
        · skip
          refine am_lookup (off := 44) (tgt := 164) X dX10_of_120 (by decide) (by rw [h120_0]; rfl) (by decide) ?_
          refine am_iload_n (x := a) X (by rfl) dX10_of_164 ?_
          refine am_i2l X dX10_of_165 ?_
          refine am_lc (v := 0) X (by rfl) dX10_of_166 ?_
          refine am_ldc2 X (n := 11) (by unfold R64; decide) cn_X10_133 dX10_of_167 ?_
          refine am_callSi X hY lk_X10_103 mf_X10_within (m_X10_within a 0 11 _ σ) (by decide) (by decide) (Nat.le_refl _) (Nat.le_refl _) rfl rfl (Nat.le_of_ble_eq_true rfl) dX10_of_170 (fun r170 sh170 σ170 hr170 hp170 => ?_)
          obtain ⟨rfl, rfl, hq170⟩ := hp170
          refine am_if_eq (tgt := 185) X dX10_of_173 (by decide) (fun h173 => ?_) (fun h173 => ?_)
          · skip
            refine am_ldc X (n := -2000000000) (by unfold R32; decide) cn_X10_149 dX10_of_185 ?_
            exact hret _ _ _ _ _ dX10_of_187 rfl rfl (by refine ⟨rfl, rfl, ?_⟩; unfold md_of; (try unfold md_owed); (repeat' split) <;> first | omega | assumption)
          · skip
            refine am_aload_n (x := 63) X (by rfl) dX10_of_176 ?_
            refine am_getr (c1 := 64) X 63 fl_X10_9 (by decide) sh_63 (by decide) (by rfl) dX10_of_177 ?_
            refine am_iload_n (x := a) X (by rfl) dX10_of_180 ?_
            refine am_ald (v := σ 64 ((a).toNat)) X 64 ((a).toNat) sh_64 (by omega) (by omega) (rfl) dX10_of_181 ?_
            refine am_goto (tgt := 187) X dX10_of_182 (by decide) ?_
            exact hret _ _ _ _ _ dX10_of_187 rfl rfl (by refine ⟨rfl, rfl, ?_⟩; unfold md_of; (try unfold md_owed); (repeat' split) <;> first | omega | assumption)
        by_cases h120_1 : b = 30
        · skip
          refine am_lookup (off := 68) (tgt := 188) X dX10_of_120 (by decide) (by rw [h120_1]; rfl) (by decide) ?_
          refine am_aload_n (x := 63) X (by rfl) dX10_of_188 ?_
          refine am_iload_n (x := a) X (by rfl) dX10_of_189 ?_
          refine am_callVi (ci := 9) X hY lk_X10_164 mf_X10_isPq (m_X10_isPq a σ hp) (by decide) (by decide) (Nat.le_refl _) (Nat.le_refl _) sh_63 rfl rfl rfl (Nat.le_of_ble_eq_true rfl) dX10_of_190 (fun r190 sh190 σ190 hr190 hp190 => ?_)
          obtain ⟨rfl, rfl, hq190⟩ := hp190
          refine am_if_eq (tgt := 211) X dX10_of_193 (by decide) (fun h193 => ?_) (fun h193 => ?_)
          · skip
            refine am_ldc X (n := -2000000000) (by unfold R32; decide) cn_X10_149 dX10_of_211 ?_
            exact hret _ _ _ _ _ dX10_of_213 rfl rfl (by refine ⟨rfl, rfl, ?_⟩; unfold md_of; (try unfold md_owed); (repeat' split) <;> first | omega | assumption)
          · skip
            refine am_aload_n (x := 63) X (by rfl) dX10_of_196 ?_
            refine am_iload_n (x := a) X (by rfl) dX10_of_197 ?_
            refine am_bipush X (by decide) dX10_of_198 ?_
            refine am_div (v := (a / 10)) X (by omega) (by omega) rfl dX10_of_200 ?_
            refine am_iload_n (x := a) X (by rfl) dX10_of_201 ?_
            refine am_bipush X (by decide) dX10_of_202 ?_
            refine am_rem (v := (a % 10)) X (by omega) (by omega) rfl dX10_of_204 ?_
            refine am_callVi (ci := 9) X hY lk_X10_167 mf_X10_owedBetween (m_X10_owedBetween (a / 10) (a % 10) σ hc hd) (by decide) (by decide) (Nat.le_refl _) (Nat.le_refl _) sh_63 rfl rfl rfl (Nat.le_of_ble_eq_true rfl) dX10_of_205 (fun r205 sh205 σ205 hr205 hp205 => ?_)
            obtain ⟨rfl, rfl, hq205⟩ := hp205
            refine am_goto (tgt := 213) X dX10_of_208 (by decide) ?_
            exact hret _ _ _ _ _ dX10_of_213 rfl rfl (by refine ⟨rfl, rfl, ?_⟩; unfold md_of; (try unfold md_owed); (repeat' split) <;> first | omega | assumption)
        by_cases h120_2 : b = 50
        · skip
          refine am_lookup (off := 94) (tgt := 214) X dX10_of_120 (by decide) (by rw [h120_2]; rfl) (by decide) ?_
          refine am_iload_n (x := a) X (by rfl) dX10_of_214 ?_
          refine am_if_ne (tgt := 233) X dX10_of_215 (by decide) (fun h215 => ?_) (fun h215 => ?_)
          · skip
            refine am_ldc X (n := -2000000000) (by unfold R32; decide) cn_X10_149 dX10_of_233 ?_
            exact hret _ _ _ _ _ dX10_of_235 rfl rfl (by refine ⟨rfl, rfl, ?_⟩; unfold md_of; (try unfold md_owed); (repeat' split) <;> first | omega | assumption)
          · skip
            refine am_aload_n (x := 63) X (by rfl) dX10_of_218 ?_
            refine am_getr (c1 := 64) X 63 fl_X10_9 (by decide) sh_63 (by decide) (by rfl) dX10_of_219 ?_
            refine am_bipush X (by decide) dX10_of_222 ?_
            refine am_iload_n (x := b) X (by rfl) dX10_of_224 ?_
            refine am_add (v := (20 + b)) X (by first | rfl | omega) (by omega) dX10_of_225 ?_
            refine am_bipush X (by decide) dX10_of_226 ?_
            refine am_sub (v := ((20 + b) - 50)) X (by first | rfl | omega) (by omega) dX10_of_228 ?_
            refine am_ald (v := σ 64 ((20 + b - 50).toNat)) X 64 ((20 + b - 50).toNat) sh_64 (by omega) (by omega) (rfl) dX10_of_229 ?_
            refine am_goto (tgt := 235) X dX10_of_230 (by decide) ?_
            exact hret _ _ _ _ _ dX10_of_235 rfl rfl (by refine ⟨rfl, rfl, ?_⟩; unfold md_of; (try unfold md_owed); (repeat' split) <;> first | omega | assumption)
        by_cases h120_3 : b = 51
        · skip
          refine am_lookup (off := 94) (tgt := 214) X dX10_of_120 (by decide) (by rw [h120_3]; rfl) (by decide) ?_
          refine am_iload_n (x := a) X (by rfl) dX10_of_214 ?_
          refine am_if_ne (tgt := 233) X dX10_of_215 (by decide) (fun h215 => ?_) (fun h215 => ?_)
          · skip
            refine am_ldc X (n := -2000000000) (by unfold R32; decide) cn_X10_149 dX10_of_233 ?_
            exact hret _ _ _ _ _ dX10_of_235 rfl rfl (by refine ⟨rfl, rfl, ?_⟩; unfold md_of; (try unfold md_owed); (repeat' split) <;> first | omega | assumption)
          · skip
            refine am_aload_n (x := 63) X (by rfl) dX10_of_218 ?_
            refine am_getr (c1 := 64) X 63 fl_X10_9 (by decide) sh_63 (by decide) (by rfl) dX10_of_219 ?_
            refine am_bipush X (by decide) dX10_of_222 ?_
            refine am_iload_n (x := b) X (by rfl) dX10_of_224 ?_
            refine am_add (v := (20 + b)) X (by first | rfl | omega) (by omega) dX10_of_225 ?_
            refine am_bipush X (by decide) dX10_of_226 ?_
            refine am_sub (v := ((20 + b) - 50)) X (by first | rfl | omega) (by omega) dX10_of_228 ?_
            refine am_ald (v := σ 64 ((20 + b - 50).toNat)) X 64 ((20 + b - 50).toNat) sh_64 (by omega) (by omega) (rfl) dX10_of_229 ?_
            refine am_goto (tgt := 235) X dX10_of_230 (by decide) ?_
            exact hret _ _ _ _ _ dX10_of_235 rfl rfl (by refine ⟨rfl, rfl, ?_⟩; unfold md_of; (try unfold md_owed); (repeat' split) <;> first | omega | assumption)
        refine am_lookup (off := 116) (tgt := 236) X dX10_of_120 (by decide) (by simp [Op.lookupswitch.offset, h120_0, h120_1, h120_2, h120_3, Ne.symm h120_0, Ne.symm h120_1, Ne.symm h120_2, Ne.symm h120_3]) (by decide) ?_
        refine am_ldc X (n := -2000000000) (by unfold R32; decide) cn_X10_149 dX10_of_236 ?_
        exact hret _ _ _ _ _ dX10_of_238 rfl rfl (by refine ⟨rfl, rfl, ?_⟩; unfold md_of; (try unfold md_owed); (repeat' split) <;> first | omega | assumption)
      · skip
        refine am_iload_n (x := a) X (by rfl) dX10_of_84 ?_
        refine am_i2l X dX10_of_85 ?_
        refine am_lc (v := 0) X (by rfl) dX10_of_86 ?_
        refine am_aload_n (x := 63) X (by rfl) dX10_of_87 ?_
        refine am_get (v := σ 63 20) X 63 fl_X10_161 (by decide) sh_63 (by decide) (rfl) dX10_of_88 ?_
        refine am_ic X (by decide) dX10_of_91 ?_
        refine am_sub (v := (σ 63 20 - 1)) X (by first | rfl | omega) (by omega) dX10_of_92 ?_
        refine am_i2l X dX10_of_93 ?_
        refine am_callSi X hY lk_X10_103 mf_X10_within (m_X10_within a 0 (σ 63 20 - 1) _ σ) (by decide) (by decide) (Nat.le_refl _) (Nat.le_refl _) rfl rfl (Nat.le_of_ble_eq_true rfl) dX10_of_94 (fun r94 sh94 σ94 hr94 hp94 => ?_)
        obtain ⟨rfl, rfl, hq94⟩ := hp94
        refine am_if_eq (tgt := 116) X dX10_of_97 (by decide) (fun h97 => ?_) (fun h97 => ?_)
        · skip
          refine am_ldc X (n := -2000000000) (by unfold R32; decide) cn_X10_149 dX10_of_116 ?_
          exact hret _ _ _ _ _ dX10_of_118 rfl rfl (by refine ⟨rfl, rfl, ?_⟩; unfold md_of; (try unfold md_owed); (repeat' split) <;> first | omega | assumption)
        · skip
          refine am_aload_n (x := 63) X (by rfl) dX10_of_100 ?_
          refine am_getr (c1 := 72) X 63 fl_X10_34 (by decide) sh_63 (by decide) (by rfl) dX10_of_101 ?_
          refine am_ic X (by decide) dX10_of_104 ?_
          refine am_iload_n (x := a) X (by rfl) dX10_of_105 ?_
          refine am_mul (v := (3 * a)) X (by first | rfl | omega) (by omega) dX10_of_106 ?_
          refine am_iload_n (x := b) X (by rfl) dX10_of_107 ?_
          refine am_add (v := ((3 * a) + b)) X (by first | rfl | omega) (by omega) dX10_of_108 ?_
          refine am_bipush X (by decide) dX10_of_109 ?_
          refine am_sub (v := (((3 * a) + b) - 40)) X (by first | rfl | omega) (by omega) dX10_of_111 ?_
          refine am_ald (v := σ 72 ((3 * a + b - 40).toNat)) X 72 ((3 * a + b - 40).toNat) sh_72 (by omega) (by omega) (rfl) dX10_of_112 ?_
          refine am_goto (tgt := 118) X dX10_of_113 (by decide) ?_
          exact hret _ _ _ _ _ dX10_of_118 rfl rfl (by refine ⟨rfl, rfl, ?_⟩; unfold md_of; (try unfold md_owed); (repeat' split) <;> first | omega | assumption)
    · skip
      refine am_aload_n (x := 63) X (by rfl) dX10_of_50 ?_
      refine am_iload_n (x := a) X (by rfl) dX10_of_51 ?_
      refine am_callVi (ci := 9) X hY lk_X10_107 mf_X10_isPerson (m_X10_isPerson a σ hp) (by decide) (by decide) (Nat.le_refl _) (Nat.le_refl _) sh_63 rfl rfl rfl (Nat.le_of_ble_eq_true rfl) dX10_of_52 (fun r52 sh52 σ52 hr52 hp52 => ?_)
      obtain ⟨rfl, rfl, hq52⟩ := hp52
      refine am_if_eq (tgt := 67) X dX10_of_55 (by decide) (fun h55 => ?_) (fun h55 => ?_)
      · skip
        refine am_ldc X (n := -2000000000) (by unfold R32; decide) cn_X10_149 dX10_of_67 ?_
        exact hret _ _ _ _ _ dX10_of_69 rfl rfl (by refine ⟨rfl, rfl, ?_⟩; unfold md_of; (try unfold md_owed); (repeat' split) <;> first | omega | assumption)
      · skip
        refine am_aload_n (x := 63) X (by rfl) dX10_of_58 ?_
        refine am_iload_n (x := a) X (by rfl) dX10_of_59 ?_
        refine am_iload_n (x := b) X (by rfl) dX10_of_60 ?_
        refine am_callVi (ci := 9) X hY lk_X10_154 mf_X10_ofPerson (m_X10_ofPerson a b σ hp hc hd (by omega)) (by decide) (by decide) (Nat.le_refl _) (Nat.le_refl _) sh_63 rfl rfl rfl (Nat.le_of_ble_eq_true rfl) dX10_of_61 (fun r61 sh61 σ61 hr61 hp61 => ?_)
        obtain ⟨rfl, rfl, hq61⟩ := hp61
        refine am_goto (tgt := 69) X dX10_of_64 (by decide) ?_
        exact hret _ _ _ _ _ dX10_of_69 rfl rfl (by refine ⟨rfl, rfl, ?_⟩; unfold md_of; (try unfold md_owed); (repeat' split) <;> first | omega | assumption)
  · skip
    refine am_aload_n (x := 63) X (by rfl) dX10_of_12 ?_
    refine am_iload_n (x := a) X (by rfl) dX10_of_13 ?_
    refine am_callVi (ci := 9) X hY lk_X10_146 mf_X10_isDebt (m_X10_isDebt a σ hc) (by decide) (by decide) (Nat.le_refl _) (Nat.le_refl _) sh_63 rfl rfl rfl (Nat.le_of_ble_eq_true rfl) dX10_of_14 (fun r14 sh14 σ14 hr14 hp14 => ?_)
    obtain ⟨rfl, rfl, hq14⟩ := hp14
    refine am_if_eq (tgt := 33) X dX10_of_17 (by decide) (fun h17 => ?_) (fun h17 => ?_)
    · skip
      refine am_ldc X (n := -2000000000) (by unfold R32; decide) cn_X10_149 dX10_of_33 ?_
      exact hret _ _ _ _ _ dX10_of_35 rfl rfl (by refine ⟨rfl, rfl, ?_⟩; unfold md_of; (try unfold md_owed); (repeat' split) <;> first | omega | assumption)
    · skip
      refine am_aload_n (x := 63) X (by rfl) dX10_of_20 ?_
      refine am_getr (c1 := 68) X 63 fl_X10_22 (by decide) sh_63 (by decide) (by rfl) dX10_of_21 ?_
      refine am_ic X (by decide) dX10_of_24 ?_
      refine am_iload_n (x := a) X (by rfl) dX10_of_25 ?_
      refine am_mul (v := (5 * a)) X (by first | rfl | omega) (by omega) dX10_of_26 ?_
      refine am_iload_n (x := b) X (by rfl) dX10_of_27 ?_
      refine am_add (v := ((5 * a) + b)) X (by first | rfl | omega) (by omega) dX10_of_28 ?_
      refine am_ald (v := σ 68 ((5 * a + b).toNat)) X 68 ((5 * a + b).toNat) sh_68 (by omega) (by omega) (rfl) dX10_of_29 ?_
      refine am_goto (tgt := 35) X dX10_of_30 (by decide) ?_
      exact hret _ _ _ _ _ dX10_of_35 rfl rfl (by refine ⟨rfl, rfl, ?_⟩; unfold md_of; (try unfold md_owed); (repeat' split) <;> first | omega | assumption)

set_option maxHeartbeats 4000000 in
set_option maxRecDepth 100000 in
theorem m_X10_feed (a : Int) (σ : am_H) (ht : 0 ≤ σ 63 11 ∧ σ 63 11 ≤ 120) : am_Mi yX10_feed cX10_feed 2 (some .int) 1 0 0 [vr 63, vi a] SH σ (fun r sh' σ' => SH = sh' ∧ ((¬ (0 ≤ a ∧ a ≤ 255) ∧ r = -1 ∧ σ = σ') ∨ (((0 ≤ a ∧ a ≤ 255) ∧ σ 63 11 = 120) ∧ r = -3 ∧ σ = σ') ∨ (((0 ≤ a ∧ a ≤ 255) ∧ σ 63 11 < 120) ∧ r = σ 63 11 + 1 ∧ (am_up (am_up σ 69 (σ 63 11).toNat a) 63 11 (σ 63 11 + 1)) = σ'))) := by
  refine am_Mi_of (by decide +kernel) (Nat.le_of_ble_eq_true rfl) (fun K X hY hI hret => ?_)
  show am_G K 0 [some (vr 63), some (vi a)] [] SH σ
  refine am_iload_n (x := a) X (by rfl) dX10_feed_0 ?_
  refine am_i2l X dX10_feed_1 ?_
  refine am_lc (v := 0) X (by rfl) dX10_feed_2 ?_
  refine am_ldc2 X (n := 255) (by unfold R64; decide) cn_X10_170 dX10_feed_3 ?_
  refine am_callSi X hY lk_X10_103 mf_X10_within (m_X10_within a 0 255 _ σ) (by decide) (by decide) (Nat.le_refl _) (Nat.le_refl _) rfl rfl (Nat.le_of_ble_eq_true rfl) dX10_feed_6 (fun r6 sh6 σ6 hr6 hp6 => ?_)
  obtain ⟨rfl, rfl, hq6⟩ := hp6
  refine am_if_ne (tgt := 14) X dX10_feed_9 (by decide) (fun h9 => ?_) (fun h9 => ?_)
  · skip
    refine am_aload_n (x := 63) X (by rfl) dX10_feed_14 ?_
    refine am_get (v := σ 63 11) X 63 fl_X10_172 (by decide) sh_63 (by decide) (rfl) dX10_feed_15 ?_
    refine am_bipush X (by decide) dX10_feed_18 ?_
    refine am_icmp_ne (tgt := 26) X dX10_feed_20 (by decide) (fun h20 => ?_) (fun h20 => ?_)
    · skip
      refine am_aload_n (x := 63) X (by rfl) dX10_feed_26 ?_
      refine am_getr (c1 := 69) X 63 fl_X10_25 (by decide) sh_63 (by decide) (by rfl) dX10_feed_27 ?_
      refine am_aload_n (x := 63) X (by rfl) dX10_feed_30 ?_
      refine am_get (v := σ 63 11) X 63 fl_X10_172 (by decide) sh_63 (by decide) (rfl) dX10_feed_31 ?_
      refine am_iload_n (x := a) X (by rfl) dX10_feed_34 ?_
      refine am_ast X 69 ((σ 63 11).toNat) sh_69 (by omega) (by omega) dX10_feed_35 ?_
      refine am_aload_n (x := 63) X (by rfl) dX10_feed_36 ?_
      refine am_dup X (Nat.ne_of_beq_eq_false rfl) dX10_feed_37 ?_
      refine am_get (v := σ 63 11) X 63 fl_X10_172 (by decide) sh_63 (by decide) (by simp [am_up]) dX10_feed_38 ?_
      refine am_ic X (by decide) dX10_feed_41 ?_
      refine am_add (v := (σ 63 11 + 1)) X (by first | rfl | omega) (by omega) dX10_feed_42 ?_
      refine am_puti X 63 fl_X10_172 rfl rfl sh_63 (by decide) dX10_feed_43 ?_
      refine am_aload_n (x := 63) X (by rfl) dX10_feed_46 ?_
      refine am_get (v := (σ 63 11 + 1)) X 63 fl_X10_172 (by decide) sh_63 (by decide) (by simp [am_up]) dX10_feed_47 ?_
      exact hret _ _ _ _ _ dX10_feed_50 rfl rfl (by first | exact ⟨rfl, Or.inl ⟨by omega, by omega, rfl⟩⟩ | exact ⟨rfl, Or.inr (Or.inl ⟨by omega, by omega, rfl⟩)⟩ | exact ⟨rfl, Or.inr (Or.inr (⟨by omega, by omega, rfl⟩))⟩)
    · skip
      refine am_bipush X (by decide) dX10_feed_23 ?_
      exact hret _ _ _ _ _ dX10_feed_25 rfl rfl (by first | exact ⟨rfl, Or.inl ⟨by omega, by omega, rfl⟩⟩ | exact ⟨rfl, Or.inr (Or.inl ⟨by omega, by omega, rfl⟩)⟩ | exact ⟨rfl, Or.inr (Or.inr (⟨by omega, by omega, rfl⟩))⟩)
  · skip
    refine am_ic X (by decide) dX10_feed_12 ?_
    exact hret _ _ _ _ _ dX10_feed_13 rfl rfl (by first | exact ⟨rfl, Or.inl ⟨by omega, by omega, rfl⟩⟩ | exact ⟨rfl, Or.inr (Or.inl ⟨by omega, by omega, rfl⟩)⟩ | exact ⟨rfl, Or.inr (Or.inr (⟨by omega, by omega, rfl⟩))⟩)

set_option maxHeartbeats 4000000 in
set_option maxRecDepth 100000 in
theorem m_X10_mayAsk (t : Int) (σ : am_H) (hn : 0 ≤ σ 63 9 ∧ σ 63 9 ≤ 48) : am_Mi yX10_mayAsk cX10_mayAsk 2 (some .boolean) 1 0 0 [vr 63, vi t] SH σ (fun r sh' σ' => SH = sh' ∧ σ = σ' ∧ am_b r ((σ 63 9 + 3 ≤ t ∧ t ≤ 47) ∧ ¬ t % 4 = 3)) := by
  refine am_Mz_of (by decide +kernel) (Nat.le_of_ble_eq_true rfl) (fun K X hY hI hret => ?_)
  show am_G K 0 [some (vr 63), some (vi t)] [] SH σ
  refine am_iload_n (x := t) X (by rfl) dX10_mayAsk_0 ?_
  refine am_i2l X dX10_mayAsk_1 ?_
  refine am_aload_n (x := 63) X (by rfl) dX10_mayAsk_2 ?_
  refine am_get (v := σ 63 9) X 63 fl_X10_231 (by decide) sh_63 (by decide) (rfl) dX10_mayAsk_3 ?_
  refine am_ic X (by decide) dX10_mayAsk_6 ?_
  refine am_add (v := (σ 63 9 + 3)) X (by first | rfl | omega) (by omega) dX10_mayAsk_7 ?_
  refine am_i2l X dX10_mayAsk_8 ?_
  refine am_ldc2 X (n := 47) (by unfold R64; decide) cn_X10_114 dX10_mayAsk_9 ?_
  refine am_callSi X hY lk_X10_103 mf_X10_within (m_X10_within t (σ 63 9 + 3) 47 _ σ) (by decide) (by decide) (Nat.le_refl _) (Nat.le_refl _) rfl rfl (Nat.le_of_ble_eq_true rfl) dX10_mayAsk_12 (fun r12 sh12 σ12 hr12 hp12 => ?_)
  obtain ⟨rfl, rfl, hq12⟩ := hp12
  refine am_if_eq (tgt := 29) X dX10_mayAsk_15 (by decide) (fun h15 => ?_) (fun h15 => ?_)
  · skip
    refine am_ic X (by decide) dX10_mayAsk_29 ?_
    exact hret _ _ _ _ _ dX10_mayAsk_30 rfl rfl (by first | exact ⟨rfl, rfl, am_bt (by omega)⟩ | exact ⟨rfl, rfl, am_bf (by omega)⟩) (by first | exact Or.inl rfl | exact Or.inr rfl | omega)
  · skip
    refine am_iload_n (x := t) X (by rfl) dX10_mayAsk_18 ?_
    refine am_callSi X hY lk_X10_234 mf_X10_isHoly (m_X10_isHoly t (by omega) _ σ) (by decide) (by decide) (Nat.le_refl _) (Nat.le_refl _) rfl rfl (Nat.le_of_ble_eq_true rfl) dX10_mayAsk_19 (fun r19 sh19 σ19 hr19 hp19 => ?_)
    obtain ⟨rfl, rfl, hq19⟩ := hp19
    refine am_if_ne (tgt := 29) X dX10_mayAsk_22 (by decide) (fun h22 => ?_) (fun h22 => ?_)
    · skip
      refine am_ic X (by decide) dX10_mayAsk_29 ?_
      exact hret _ _ _ _ _ dX10_mayAsk_30 rfl rfl (by first | exact ⟨rfl, rfl, am_bt (by omega)⟩ | exact ⟨rfl, rfl, am_bf (by omega)⟩) (by first | exact Or.inl rfl | exact Or.inr rfl | omega)
    · skip
      refine am_ic X (by decide) dX10_mayAsk_25 ?_
      refine am_goto (tgt := 30) X dX10_mayAsk_26 (by decide) ?_
      exact hret _ _ _ _ _ dX10_mayAsk_30 rfl rfl (by first | exact ⟨rfl, rfl, am_bt (by omega)⟩ | exact ⟨rfl, rfl, am_bf (by omega)⟩) (by first | exact Or.inl rfl | exact Or.inr rfl | omega)

set_option maxHeartbeats 4000000 in
set_option maxRecDepth 100000 in
theorem m_X10_ask (a b : Int) (σ : am_H) (hc : 0 ≤ σ 63 7 ∧ σ 63 7 ≤ 20) (ha : 0 ≤ σ 63 20 ∧ σ 63 20 ≤ 30) (hn : 0 ≤ σ 63 9 ∧ σ 63 9 ≤ 48) : am_Mi yX10_ask cX10_ask 3 (some .int) 2 0 0 [vr 63, vi a, vi b] SH σ (fun r sh' σ' => SH = sh' ∧ ((¬ ((0 ≤ a ∧ a < σ 63 7) ∧ (σ 63 9 + 3 ≤ b ∧ b ≤ 47) ∧ ¬ b % 4 = 3) ∧ r = -1 ∧ σ = σ') ∨ ((((0 ≤ a ∧ a < σ 63 7) ∧ (σ 63 9 + 3 ≤ b ∧ b ≤ 47) ∧ ¬ b % 4 = 3) ∧ ¬ 0 < σ 68 (5 * a.toNat + 2)) ∧ r = -5 ∧ σ = σ') ∨ ((((0 ≤ a ∧ a < σ 63 7) ∧ (σ 63 9 + 3 ≤ b ∧ b ≤ 47) ∧ ¬ b % 4 = 3) ∧ 0 < σ 68 (5 * a.toNat + 2) ∧ σ 63 20 = 30) ∧ r = -3 ∧ σ = σ') ∨ ((((0 ≤ a ∧ a < σ 63 7) ∧ (σ 63 9 + 3 ≤ b ∧ b ≤ 47) ∧ ¬ b % 4 = 3) ∧ 0 < σ 68 (5 * a.toNat + 2) ∧ σ 63 20 < 30) ∧ r = σ 63 20 ∧ (md_ask σ (σ 63 20).toNat a b) = σ'))) := by
  refine am_Mi_of (by decide +kernel) (Nat.le_of_ble_eq_true rfl) (fun K X hY hI hret => ?_)
  show am_G K 0 [some (vr 63), some (vi a), some (vi b)] [] SH σ
  refine am_aload_n (x := 63) X (by rfl) dX10_ask_0 ?_
  refine am_iload_n (x := a) X (by rfl) dX10_ask_1 ?_
  refine am_callVi (ci := 9) X hY lk_X10_146 mf_X10_isDebt (m_X10_isDebt a σ hc) (by decide) (by decide) (Nat.le_refl _) (Nat.le_refl _) sh_63 rfl rfl rfl (Nat.le_of_ble_eq_true rfl) dX10_ask_2 (fun r2 sh2 σ2 hr2 hp2 => ?_)
  obtain ⟨rfl, rfl, hq2⟩ := hp2
  refine am_if_eq (tgt := 16) X dX10_ask_5 (by decide) (fun h5 => ?_) (fun h5 => ?_)
  · skip
    refine am_ic X (by decide) dX10_ask_16 ?_
    exact hret _ _ _ _ _ dX10_ask_17 rfl rfl (by first | exact ⟨rfl, Or.inl ⟨by omega, by omega, rfl⟩⟩ | exact ⟨rfl, Or.inr (Or.inl ⟨by omega, by omega, rfl⟩)⟩ | exact ⟨rfl, Or.inr (Or.inr (Or.inl ⟨by omega, by omega, rfl⟩))⟩ | exact ⟨rfl, Or.inr (Or.inr (Or.inr (⟨by omega, by omega, rfl⟩)))⟩)
  · skip
    refine am_aload_n (x := 63) X (by rfl) dX10_ask_8 ?_
    refine am_iload_n (x := b) X (by rfl) dX10_ask_9 ?_
    refine am_callVi (ci := 9) X hY lk_X10_237 mf_X10_mayAsk (m_X10_mayAsk b σ hn) (by decide) (by decide) (Nat.le_refl _) (Nat.le_refl _) sh_63 rfl rfl rfl (Nat.le_of_ble_eq_true rfl) dX10_ask_10 (fun r10 sh10 σ10 hr10 hp10 => ?_)
    obtain ⟨rfl, rfl, hq10⟩ := hp10
    refine am_if_ne (tgt := 18) X dX10_ask_13 (by decide) (fun h13 => ?_) (fun h13 => ?_)
    · skip
      refine am_aload_n (x := 63) X (by rfl) dX10_ask_18 ?_
      refine am_iload_n (x := a) X (by rfl) dX10_ask_19 ?_
      refine am_callVi (ci := 9) X hY lk_X10_240 mf_X10_isOpen (m_X10_isOpen a ((a).toNat) (by omega) (by omega) σ) (by decide) (by decide) (Nat.le_refl _) (Nat.le_refl _) sh_63 rfl rfl rfl (Nat.le_of_ble_eq_true rfl) dX10_ask_20 (fun r20 sh20 σ20 hr20 hp20 => ?_)
      obtain ⟨rfl, rfl, hq20⟩ := hp20
      refine am_if_ne (tgt := 29) X dX10_ask_23 (by decide) (fun h23 => ?_) (fun h23 => ?_)
      · skip
        refine am_aload_n (x := 63) X (by rfl) dX10_ask_29 ?_
        refine am_get (v := σ 63 20) X 63 fl_X10_161 (by decide) sh_63 (by decide) (rfl) dX10_ask_30 ?_
        refine am_bipush X (by decide) dX10_ask_33 ?_
        refine am_icmp_ne (tgt := 41) X dX10_ask_35 (by decide) (fun h35 => ?_) (fun h35 => ?_)
        · skip
          refine am_aload_n (x := 63) X (by rfl) dX10_ask_41 ?_
          refine am_getr (c1 := 72) X 63 fl_X10_34 (by decide) sh_63 (by decide) (by rfl) dX10_ask_42 ?_
          refine am_ic X (by decide) dX10_ask_45 ?_
          refine am_aload_n (x := 63) X (by rfl) dX10_ask_46 ?_
          refine am_get (v := σ 63 20) X 63 fl_X10_161 (by decide) sh_63 (by decide) (rfl) dX10_ask_47 ?_
          refine am_mul (v := (3 * σ 63 20)) X (by first | rfl | omega) (by omega) dX10_ask_50 ?_
          refine am_iload_n (x := a) X (by rfl) dX10_ask_51 ?_
          refine am_ast X 72 (3 * (σ 63 20).toNat) sh_72 (by omega) (by omega) dX10_ask_52 ?_
          refine am_aload_n (x := 63) X (by rfl) dX10_ask_53 ?_
          refine am_getr (c1 := 72) X 63 fl_X10_34 (by decide) sh_63 (by decide) (by rfl) dX10_ask_54 ?_
          refine am_ic X (by decide) dX10_ask_57 ?_
          refine am_aload_n (x := 63) X (by rfl) dX10_ask_58 ?_
          refine am_get (v := σ 63 20) X 63 fl_X10_161 (by decide) sh_63 (by decide) (by simp [am_up]) dX10_ask_59 ?_
          refine am_mul (v := (3 * σ 63 20)) X (by first | rfl | omega) (by omega) dX10_ask_62 ?_
          refine am_ic X (by decide) dX10_ask_63 ?_
          refine am_add (v := ((3 * σ 63 20) + 1)) X (by first | rfl | omega) (by omega) dX10_ask_64 ?_
          refine am_iload_n (x := b) X (by rfl) dX10_ask_65 ?_
          refine am_ast X 72 (3 * (σ 63 20).toNat + 1) sh_72 (by omega) (by omega) dX10_ask_66 ?_
          refine am_aload_n (x := 63) X (by rfl) dX10_ask_67 ?_
          refine am_getr (c1 := 72) X 63 fl_X10_34 (by decide) sh_63 (by decide) (by rfl) dX10_ask_68 ?_
          refine am_ic X (by decide) dX10_ask_71 ?_
          refine am_aload_n (x := 63) X (by rfl) dX10_ask_72 ?_
          refine am_get (v := σ 63 20) X 63 fl_X10_161 (by decide) sh_63 (by decide) (by simp [am_up]) dX10_ask_73 ?_
          refine am_mul (v := (3 * σ 63 20)) X (by first | rfl | omega) (by omega) dX10_ask_76 ?_
          refine am_ic X (by decide) dX10_ask_77 ?_
          refine am_add (v := ((3 * σ 63 20) + 2)) X (by first | rfl | omega) (by omega) dX10_ask_78 ?_
          refine am_ic X (by decide) dX10_ask_79 ?_
          refine am_ast X 72 (3 * (σ 63 20).toNat + 2) sh_72 (by omega) (by omega) dX10_ask_80 ?_
          refine am_aload_n (x := 63) X (by rfl) dX10_ask_81 ?_
          refine am_dup X (Nat.ne_of_beq_eq_false rfl) dX10_ask_82 ?_
          refine am_get (v := σ 63 20) X 63 fl_X10_161 (by decide) sh_63 (by decide) (by simp [am_up]) dX10_ask_83 ?_
          refine am_ic X (by decide) dX10_ask_86 ?_
          refine am_add (v := (σ 63 20 + 1)) X (by first | rfl | omega) (by omega) dX10_ask_87 ?_
          refine am_puti X 63 fl_X10_161 rfl rfl sh_63 (by decide) dX10_ask_88 ?_
          refine am_aload_n (x := 63) X (by rfl) dX10_ask_91 ?_
          refine am_get (v := (σ 63 20 + 1)) X 63 fl_X10_161 (by decide) sh_63 (by decide) (by simp [am_up]) dX10_ask_92 ?_
          refine am_ic X (by decide) dX10_ask_95 ?_
          refine am_sub (v := ((σ 63 20 + 1) - 1)) X (by first | rfl | omega) (by omega) dX10_ask_96 ?_
          exact hret _ _ _ _ _ dX10_ask_97 rfl rfl (by first | exact ⟨rfl, Or.inl ⟨by omega, by omega, rfl⟩⟩ | exact ⟨rfl, Or.inr (Or.inl ⟨by omega, by omega, rfl⟩)⟩ | exact ⟨rfl, Or.inr (Or.inr (Or.inl ⟨by omega, by omega, rfl⟩))⟩ | exact ⟨rfl, Or.inr (Or.inr (Or.inr (⟨by omega, by omega, rfl⟩)))⟩)
        · skip
          refine am_bipush X (by decide) dX10_ask_38 ?_
          exact hret _ _ _ _ _ dX10_ask_40 rfl rfl (by first | exact ⟨rfl, Or.inl ⟨by omega, by omega, rfl⟩⟩ | exact ⟨rfl, Or.inr (Or.inl ⟨by omega, by omega, rfl⟩)⟩ | exact ⟨rfl, Or.inr (Or.inr (Or.inl ⟨by omega, by omega, rfl⟩))⟩ | exact ⟨rfl, Or.inr (Or.inr (Or.inr (⟨by omega, by omega, rfl⟩)))⟩)
      · skip
        refine am_bipush X (by decide) dX10_ask_26 ?_
        exact hret _ _ _ _ _ dX10_ask_28 rfl rfl (by first | exact ⟨rfl, Or.inl ⟨by omega, by omega, rfl⟩⟩ | exact ⟨rfl, Or.inr (Or.inl ⟨by omega, by omega, rfl⟩)⟩ | exact ⟨rfl, Or.inr (Or.inr (Or.inl ⟨by omega, by omega, rfl⟩))⟩ | exact ⟨rfl, Or.inr (Or.inr (Or.inr (⟨by omega, by omega, rfl⟩)))⟩)
    · skip
      refine am_ic X (by decide) dX10_ask_16 ?_
      exact hret _ _ _ _ _ dX10_ask_17 rfl rfl (by first | exact ⟨rfl, Or.inl ⟨by omega, by omega, rfl⟩⟩ | exact ⟨rfl, Or.inr (Or.inl ⟨by omega, by omega, rfl⟩)⟩ | exact ⟨rfl, Or.inr (Or.inr (Or.inl ⟨by omega, by omega, rfl⟩))⟩ | exact ⟨rfl, Or.inr (Or.inr (Or.inr (⟨by omega, by omega, rfl⟩)))⟩)

set_option maxHeartbeats 4000000 in
set_option maxRecDepth 100000 in
theorem m_X10_led (a b : Int) (σ : am_H) (hp : 0 ≤ σ 63 6 ∧ σ 63 6 ≤ 8) (hn : 0 ≤ σ 63 9 ∧ σ 63 9 ≤ 48) : am_Mi yX10_led cX10_led 4 (some .int) 2 0 0 [vr 63, vi a, vi b] SH σ (fun r sh' σ' => SH = sh' ∧ σ = σ' ∧ r = (if 0 ≤ a ∧ a / 10 < σ 63 9 ∧ (0 ≤ a % 10 ∧ a % 10 < σ 63 6) ∧ 0 ≤ b ∧ b ≤ 1 then (if b = 0 then σ 74 (8 * (a / 10) + a % 10).toNat else σ 75 (8 * (a / 10) + a % 10).toNat) else -1)) := by
  refine am_Mi_of (by decide +kernel) (Nat.le_of_ble_eq_true rfl) (fun K X hY hI hret => ?_)
  show am_G K 0 [some (vr 63), some (vi a), some (vi b), none] [] SH σ
  refine am_iload_n (x := a) X (by rfl) dX10_led_0 ?_
  refine am_if_lt (tgt := 36) X dX10_led_1 (by decide) (fun h1 => ?_) (fun h1 => ?_)
  · skip
    refine am_ic X (by decide) dX10_led_36 ?_
    exact hret _ _ _ _ _ dX10_led_37 rfl rfl (by refine ⟨rfl, rfl, ?_⟩; (repeat' split) <;> first | omega | assumption)
  · skip
    refine am_iload_n (x := a) X (by rfl) dX10_led_4 ?_
    refine am_bipush X (by decide) dX10_led_5 ?_
    refine am_div (v := (a / 10)) X (by omega) (by omega) rfl dX10_led_7 ?_
    refine am_aload_n (x := 63) X (by rfl) dX10_led_8 ?_
    refine am_get (v := σ 63 9) X 63 fl_X10_231 (by decide) sh_63 (by decide) (rfl) dX10_led_9 ?_
    refine am_icmp_ge (tgt := 36) X dX10_led_12 (by decide) (fun h12 => ?_) (fun h12 => ?_)
    · skip
      refine am_ic X (by decide) dX10_led_36 ?_
      exact hret _ _ _ _ _ dX10_led_37 rfl rfl (by refine ⟨rfl, rfl, ?_⟩; (repeat' split) <;> first | omega | assumption)
    · skip
      refine am_aload_n (x := 63) X (by rfl) dX10_led_15 ?_
      refine am_iload_n (x := a) X (by rfl) dX10_led_16 ?_
      refine am_bipush X (by decide) dX10_led_17 ?_
      refine am_rem (v := (a % 10)) X (by omega) (by omega) rfl dX10_led_19 ?_
      refine am_callVi (ci := 9) X hY lk_X10_107 mf_X10_isPerson (m_X10_isPerson (a % 10) σ hp) (by decide) (by decide) (Nat.le_refl _) (Nat.le_refl _) sh_63 rfl rfl rfl (Nat.le_of_ble_eq_true rfl) dX10_led_20 (fun r20 sh20 σ20 hr20 hp20 => ?_)
      obtain ⟨rfl, rfl, hq20⟩ := hp20
      refine am_if_eq (tgt := 36) X dX10_led_23 (by decide) (fun h23 => ?_) (fun h23 => ?_)
      · skip
        refine am_ic X (by decide) dX10_led_36 ?_
        exact hret _ _ _ _ _ dX10_led_37 rfl rfl (by refine ⟨rfl, rfl, ?_⟩; (repeat' split) <;> first | omega | assumption)
      · skip
        refine am_iload_n (x := b) X (by rfl) dX10_led_26 ?_
        refine am_i2l X dX10_led_27 ?_
        refine am_lc (v := 0) X (by rfl) dX10_led_28 ?_
        refine am_lc (v := 1) X (by rfl) dX10_led_29 ?_
        refine am_callSi X hY lk_X10_103 mf_X10_within (m_X10_within b 0 1 _ σ) (by decide) (by decide) (Nat.le_refl _) (Nat.le_refl _) rfl rfl (Nat.le_of_ble_eq_true rfl) dX10_led_30 (fun r30 sh30 σ30 hr30 hp30 => ?_)
        obtain ⟨rfl, rfl, hq30⟩ := hp30
        refine am_if_ne (tgt := 38) X dX10_led_33 (by decide) (fun h33 => ?_) (fun h33 => ?_)
        · skip
          refine am_bipush X (by decide) dX10_led_38 ?_
          refine am_iload_n (x := a) X (by rfl) dX10_led_40 ?_
          refine am_bipush X (by decide) dX10_led_41 ?_
          refine am_div (v := (a / 10)) X (by omega) (by omega) rfl dX10_led_43 ?_
          refine am_mul (v := (8 * (a / 10))) X (by first | rfl | omega) (by omega) dX10_led_44 ?_
          refine am_iload_n (x := a) X (by rfl) dX10_led_45 ?_
          refine am_bipush X (by decide) dX10_led_46 ?_
          refine am_rem (v := (a % 10)) X (by omega) (by omega) rfl dX10_led_48 ?_
          refine am_add (v := ((8 * (a / 10)) + (a % 10))) X (by first | rfl | omega) (by omega) dX10_led_49 ?_
          refine am_istore_n (i := 3) (L' := [some (vr 63), some (vi a), some (vi b), some (vi ((8 * (a / 10)) + (a % 10)))]) X rfl (Nat.le_of_ble_eq_true rfl) (by rfl) dX10_led_50 ?_
          refine am_iload_n (x := b) X (by rfl) dX10_led_51 ?_
          refine am_if_ne (tgt := 64) X dX10_led_52 (by decide) (fun h52 => ?_) (fun h52 => ?_)
          · skip
            refine am_aload_n (x := 63) X (by rfl) dX10_led_64 ?_
            refine am_getr (c1 := 75) X 63 fl_X10_43 (by decide) sh_63 (by decide) (by rfl) dX10_led_65 ?_
            refine am_iload_n (x := ((8 * (a / 10)) + (a % 10))) X (by rfl) dX10_led_68 ?_
            refine am_ald (v := σ 75 ((8 * (a / 10) + a % 10).toNat)) X 75 ((8 * (a / 10) + a % 10).toNat) sh_75 (by omega) (by omega) (rfl) dX10_led_69 ?_
            exact hret _ _ _ _ _ dX10_led_70 rfl rfl (by refine ⟨rfl, rfl, ?_⟩; (repeat' split) <;> first | omega | assumption)
          · skip
            refine am_aload_n (x := 63) X (by rfl) dX10_led_55 ?_
            refine am_getr (c1 := 74) X 63 fl_X10_40 (by decide) sh_63 (by decide) (by rfl) dX10_led_56 ?_
            refine am_iload_n (x := ((8 * (a / 10)) + (a % 10))) X (by rfl) dX10_led_59 ?_
            refine am_ald (v := σ 74 ((8 * (a / 10) + a % 10).toNat)) X 74 ((8 * (a / 10) + a % 10).toNat) sh_74 (by omega) (by omega) (rfl) dX10_led_60 ?_
            refine am_goto (tgt := 70) X dX10_led_61 (by decide) ?_
            exact hret _ _ _ _ _ dX10_led_70 rfl rfl (by refine ⟨rfl, rfl, ?_⟩; (repeat' split) <;> first | omega | assumption)
        · skip
          refine am_ic X (by decide) dX10_led_36 ?_
          exact hret _ _ _ _ _ dX10_led_37 rfl rfl (by refine ⟨rfl, rfl, ?_⟩; (repeat' split) <;> first | omega | assumption)

set_option maxHeartbeats 4000000 in
set_option maxRecDepth 100000 in
theorem m_X10_balance (a : Int) (σ : am_H) (hp : 0 ≤ σ 63 6 ∧ σ 63 6 ≤ 8) (hc : 0 ≤ σ 63 7 ∧ σ 63 7 ≤ 20) (hd : ∀ n : Nat, (n : Int) < σ 63 7 → 0 ≤ σ 68 (5 * n + 2) ∧ σ 68 (5 * n + 2) ≤ 9) : am_Mi yX10_balance cX10_balance 2 (some .int) 2 0 0 [vr 63, vi a] SH σ (fun r sh' σ' => SH = sh' ∧ σ = σ' ∧ r = (if 0 ≤ a ∧ a < σ 63 6 then md_to σ a - md_by σ a else -2000000000)) := by
  refine am_Mi_of (by decide +kernel) (Nat.le_of_ble_eq_true rfl) (fun K X hY hI hret => ?_)
  show am_G K 0 [some (vr 63), some (vi a)] [] SH σ
  refine am_aload_n (x := 63) X (by rfl) dX10_balance_0 ?_
  refine am_iload_n (x := a) X (by rfl) dX10_balance_1 ?_
  refine am_callVi (ci := 9) X hY lk_X10_107 mf_X10_isPerson (m_X10_isPerson a σ hp) (by decide) (by decide) (Nat.le_refl _) (Nat.le_refl _) sh_63 rfl rfl rfl (Nat.le_of_ble_eq_true rfl) dX10_balance_2 (fun r2 sh2 σ2 hr2 hp2 => ?_)
  obtain ⟨rfl, rfl, hq2⟩ := hp2
  refine am_if_eq (tgt := 24) X dX10_balance_5 (by decide) (fun h5 => ?_) (fun h5 => ?_)
  · skip
    refine am_ldc X (n := -2000000000) (by unfold R32; decide) cn_X10_149 dX10_balance_24 ?_
    exact hret _ _ _ _ _ dX10_balance_26 rfl rfl (by refine ⟨rfl, rfl, ?_⟩; unfold md_to md_by; (repeat' split) <;> first | omega | assumption)
  · skip
    refine am_aload_n (x := 63) X (by rfl) dX10_balance_8 ?_
    refine am_iload_n (x := a) X (by rfl) dX10_balance_9 ?_
    refine am_ic X (by decide) dX10_balance_10 ?_
    refine am_callVi (ci := 9) X hY lk_X10_141 mf_X10_sumOf (m_X10_sumOf_1 a σ hc hd) (by decide) (by decide) (Nat.le_refl _) (Nat.le_refl _) sh_63 rfl rfl rfl (Nat.le_of_ble_eq_true rfl) dX10_balance_11 (fun r11 sh11 σ11 hr11 hp11 => ?_)
    obtain ⟨rfl, rfl, hq11⟩ := hp11
    refine am_aload_n (x := 63) X (by rfl) dX10_balance_14 ?_
    refine am_iload_n (x := a) X (by rfl) dX10_balance_15 ?_
    refine am_ic X (by decide) dX10_balance_16 ?_
    refine am_callVi (ci := 9) X hY lk_X10_141 mf_X10_sumOf (m_X10_sumOf_0 a σ hc hd) (by decide) (by decide) (Nat.le_refl _) (Nat.le_refl _) sh_63 rfl rfl rfl (Nat.le_of_ble_eq_true rfl) dX10_balance_17 (fun r17 sh17 σ17 hr17 hp17 => ?_)
    obtain ⟨rfl, rfl, hq17⟩ := hp17
    refine am_sub (v := (r11 - r17)) X (by first | rfl | omega) (by omega) dX10_balance_20 ?_
    refine am_goto (tgt := 26) X dX10_balance_21 (by decide) ?_
    exact hret _ _ _ _ _ dX10_balance_26 rfl rfl (by refine ⟨rfl, rfl, ?_⟩; unfold md_to md_by; (repeat' split) <;> first | omega | assumption)

set_option maxHeartbeats 4000000 in
set_option maxRecDepth 100000 in
theorem m_X10_body (a : Int) (σ : am_H) (hb : 0 ≤ σ 63 39 ∧ σ 63 39 ≤ 50) : am_Mi yX10_body cX10_body 2 (some .int) 1 0 0 [vr 63, vi a] SH σ (fun r sh' σ' => SH = sh' ∧ ((¬ (0 ≤ a ∧ a ≤ 7) ∧ r = -1 ∧ σ = σ') ∨ (((0 ≤ a ∧ a ≤ 7) ∧ σ 63 39 = 50) ∧ r = -3 ∧ σ = σ') ∨ (((0 ≤ a ∧ a ≤ 7) ∧ σ 63 39 < 50) ∧ r = σ 63 39 ∧ (am_up (am_up σ 84 (σ 63 39).toNat a) 63 39 (σ 63 39 + 1)) = σ'))) := by
  refine am_Mi_of (by decide +kernel) (Nat.le_of_ble_eq_true rfl) (fun K X hY hI hret => ?_)
  show am_G K 0 [some (vr 63), some (vi a)] [] SH σ
  refine am_iload_n (x := a) X (by rfl) dX10_body_0 ?_
  refine am_i2l X dX10_body_1 ?_
  refine am_lc (v := 0) X (by rfl) dX10_body_2 ?_
  refine am_ldc2 X (n := 7) (by unfold R64; decide) cn_X10_312 dX10_body_3 ?_
  refine am_callSi X hY lk_X10_103 mf_X10_within (m_X10_within a 0 7 _ σ) (by decide) (by decide) (Nat.le_refl _) (Nat.le_refl _) rfl rfl (Nat.le_of_ble_eq_true rfl) dX10_body_6 (fun r6 sh6 σ6 hr6 hp6 => ?_)
  obtain ⟨rfl, rfl, hq6⟩ := hp6
  refine am_if_ne (tgt := 14) X dX10_body_9 (by decide) (fun h9 => ?_) (fun h9 => ?_)
  · skip
    refine am_aload_n (x := 63) X (by rfl) dX10_body_14 ?_
    refine am_get (v := σ 63 39) X 63 fl_X10_309 (by decide) sh_63 (by decide) (rfl) dX10_body_15 ?_
    refine am_bipush X (by decide) dX10_body_18 ?_
    refine am_icmp_ne (tgt := 26) X dX10_body_20 (by decide) (fun h20 => ?_) (fun h20 => ?_)
    · skip
      refine am_aload_n (x := 63) X (by rfl) dX10_body_26 ?_
      refine am_getr (c1 := 84) X 63 fl_X10_71 (by decide) sh_63 (by decide) (by rfl) dX10_body_27 ?_
      refine am_aload_n (x := 63) X (by rfl) dX10_body_30 ?_
      refine am_get (v := σ 63 39) X 63 fl_X10_309 (by decide) sh_63 (by decide) (rfl) dX10_body_31 ?_
      refine am_iload_n (x := a) X (by rfl) dX10_body_34 ?_
      refine am_ast X 84 ((σ 63 39).toNat) sh_84 (by omega) (by omega) dX10_body_35 ?_
      refine am_aload_n (x := 63) X (by rfl) dX10_body_36 ?_
      refine am_dup X (Nat.ne_of_beq_eq_false rfl) dX10_body_37 ?_
      refine am_get (v := σ 63 39) X 63 fl_X10_309 (by decide) sh_63 (by decide) (by simp [am_up]) dX10_body_38 ?_
      refine am_ic X (by decide) dX10_body_41 ?_
      refine am_add (v := (σ 63 39 + 1)) X (by first | rfl | omega) (by omega) dX10_body_42 ?_
      refine am_puti X 63 fl_X10_309 rfl rfl sh_63 (by decide) dX10_body_43 ?_
      refine am_aload_n (x := 63) X (by rfl) dX10_body_46 ?_
      refine am_get (v := (σ 63 39 + 1)) X 63 fl_X10_309 (by decide) sh_63 (by decide) (by simp [am_up]) dX10_body_47 ?_
      refine am_ic X (by decide) dX10_body_50 ?_
      refine am_sub (v := ((σ 63 39 + 1) - 1)) X (by first | rfl | omega) (by omega) dX10_body_51 ?_
      exact hret _ _ _ _ _ dX10_body_52 rfl rfl (by first | exact ⟨rfl, Or.inl ⟨by omega, by omega, rfl⟩⟩ | exact ⟨rfl, Or.inr (Or.inl ⟨by omega, by omega, rfl⟩)⟩ | exact ⟨rfl, Or.inr (Or.inr (⟨by omega, by omega, rfl⟩))⟩)
    · skip
      refine am_bipush X (by decide) dX10_body_23 ?_
      exact hret _ _ _ _ _ dX10_body_25 rfl rfl (by first | exact ⟨rfl, Or.inl ⟨by omega, by omega, rfl⟩⟩ | exact ⟨rfl, Or.inr (Or.inl ⟨by omega, by omega, rfl⟩)⟩ | exact ⟨rfl, Or.inr (Or.inr (⟨by omega, by omega, rfl⟩))⟩)
  · skip
    refine am_ic X (by decide) dX10_body_12 ?_
    exact hret _ _ _ _ _ dX10_body_13 rfl rfl (by first | exact ⟨rfl, Or.inl ⟨by omega, by omega, rfl⟩⟩ | exact ⟨rfl, Or.inr (Or.inl ⟨by omega, by omega, rfl⟩)⟩ | exact ⟨rfl, Or.inr (Or.inr (⟨by omega, by omega, rfl⟩))⟩)

set_option maxHeartbeats 4000000 in
set_option maxRecDepth 100000 in
theorem m_X10_trace (a : Int) (σ : am_H) (hr : 0 ≤ σ 63 42 ∧ σ 63 42 ≤ 1000) : am_Mi yX10_trace cX10_trace 2 (some .int) 0 0 0 [vr 63, vi a] SH σ (fun r sh' σ' => SH = sh' ∧ σ = σ' ∧ r = (if 0 ≤ a ∧ a < σ 63 42 ∧ a < 24 then σ 85 a.toNat else -1)) := by
  refine am_Mi_of (by decide +kernel) (Nat.le_of_ble_eq_true rfl) (fun K X hY hI hret => ?_)
  show am_G K 0 [some (vr 63), some (vi a)] [] SH σ
  refine am_iload_n (x := a) X (by rfl) dX10_trace_0 ?_
  refine am_if_lt (tgt := 27) X dX10_trace_1 (by decide) (fun h1 => ?_) (fun h1 => ?_)
  · skip
    refine am_ic X (by decide) dX10_trace_27 ?_
    exact hret _ _ _ _ _ dX10_trace_28 rfl rfl (by refine ⟨rfl, rfl, ?_⟩; (repeat' split) <;> first | omega | assumption)
  · skip
    refine am_iload_n (x := a) X (by rfl) dX10_trace_4 ?_
    refine am_aload_n (x := 63) X (by rfl) dX10_trace_5 ?_
    refine am_get (v := σ 63 42) X 63 fl_X10_314 (by decide) sh_63 (by decide) (rfl) dX10_trace_6 ?_
    refine am_icmp_ge (tgt := 27) X dX10_trace_9 (by decide) (fun h9 => ?_) (fun h9 => ?_)
    · skip
      refine am_ic X (by decide) dX10_trace_27 ?_
      exact hret _ _ _ _ _ dX10_trace_28 rfl rfl (by refine ⟨rfl, rfl, ?_⟩; (repeat' split) <;> first | omega | assumption)
    · skip
      refine am_iload_n (x := a) X (by rfl) dX10_trace_12 ?_
      refine am_bipush X (by decide) dX10_trace_13 ?_
      refine am_icmp_ge (tgt := 27) X dX10_trace_15 (by decide) (fun h15 => ?_) (fun h15 => ?_)
      · skip
        refine am_ic X (by decide) dX10_trace_27 ?_
        exact hret _ _ _ _ _ dX10_trace_28 rfl rfl (by refine ⟨rfl, rfl, ?_⟩; (repeat' split) <;> first | omega | assumption)
      · skip
        refine am_aload_n (x := 63) X (by rfl) dX10_trace_18 ?_
        refine am_getr (c1 := 85) X 63 fl_X10_74 (by decide) sh_63 (by decide) (by rfl) dX10_trace_19 ?_
        refine am_iload_n (x := a) X (by rfl) dX10_trace_22 ?_
        refine am_ald (v := σ 85 ((a).toNat)) X 85 ((a).toNat) sh_85 (by omega) (by omega) (rfl) dX10_trace_23 ?_
        refine am_goto (tgt := 28) X dX10_trace_24 (by decide) ?_
        exact hret _ _ _ _ _ dX10_trace_28 rfl rfl (by refine ⟨rfl, rfl, ?_⟩; (repeat' split) <;> first | omega | assumption)

set_option maxHeartbeats 4000000 in
set_option maxRecDepth 100000 in
theorem m_X10_keep (a b : Int) (σ : am_H) (hb : 0 ≤ σ 63 39 ∧ σ 63 39 ≤ 50) : am_Mi yX10_keep cX10_keep 3 (some .int) 2 0 0 [vr 63, vi a, vi b] SH σ (fun r sh' σ' => SH = sh' ∧ ((¬ ((0 ≤ a ∧ a ≤ 5) ∧ (b = -1 ∨ (0 ≤ b ∧ b < σ 63 39))) ∧ r = -1 ∧ σ = σ') ∨ (((0 ≤ a ∧ a ≤ 5) ∧ (b = -1 ∨ (0 ≤ b ∧ b < σ 63 39))) ∧ r = 1 ∧ (am_up (am_up σ 86 a.toNat b) 87 a.toNat 0) = σ'))) := by
  refine am_Mi_of (by decide +kernel) (Nat.le_of_ble_eq_true rfl) (fun K X hY hI hret => ?_)
  show am_G K 0 [some (vr 63), some (vi a), some (vi b)] [] SH σ
  refine am_iload_n (x := a) X (by rfl) dX10_keep_0 ?_
  refine am_callSi X hY lk_X10_128 mf_X10_isShelf (m_X10_isShelf a _ σ) (by decide) (by decide) (Nat.le_refl _) (Nat.le_refl _) rfl rfl (Nat.le_of_ble_eq_true rfl) dX10_keep_1 (fun r1 sh1 σ1 hr1 hp1 => ?_)
  obtain ⟨rfl, rfl, hq1⟩ := hp1
  refine am_if_eq (tgt := 20) X dX10_keep_4 (by decide) (fun h4 => ?_) (fun h4 => ?_)
  · skip
    refine am_ic X (by decide) dX10_keep_20 ?_
    exact hret _ _ _ _ _ dX10_keep_21 rfl rfl (by first | exact ⟨rfl, Or.inl ⟨by omega, by omega, rfl⟩⟩ | exact ⟨rfl, Or.inr (⟨by omega, by omega, rfl⟩)⟩)
  · skip
    refine am_iload_n (x := b) X (by rfl) dX10_keep_7 ?_
    refine am_ic X (by decide) dX10_keep_8 ?_
    refine am_icmp_eq (tgt := 22) X dX10_keep_9 (by decide) (fun h9 => ?_) (fun h9 => ?_)
    · skip
      refine am_aload_n (x := 63) X (by rfl) dX10_keep_22 ?_
      refine am_getr (c1 := 86) X 63 fl_X10_77 (by decide) sh_63 (by decide) (by rfl) dX10_keep_23 ?_
      refine am_iload_n (x := a) X (by rfl) dX10_keep_26 ?_
      refine am_iload_n (x := b) X (by rfl) dX10_keep_27 ?_
      refine am_ast X 86 ((a).toNat) sh_86 (by omega) (by omega) dX10_keep_28 ?_
      refine am_aload_n (x := 63) X (by rfl) dX10_keep_29 ?_
      refine am_getr (c1 := 87) X 63 fl_X10_80 (by decide) sh_63 (by decide) (by rfl) dX10_keep_30 ?_
      refine am_iload_n (x := a) X (by rfl) dX10_keep_33 ?_
      refine am_ic X (by decide) dX10_keep_34 ?_
      refine am_ast X 87 ((a).toNat) sh_87 (by omega) (by omega) dX10_keep_35 ?_
      refine am_ic X (by decide) dX10_keep_36 ?_
      exact hret _ _ _ _ _ dX10_keep_37 rfl rfl (by first | exact ⟨rfl, Or.inl ⟨by omega, by omega, rfl⟩⟩ | exact ⟨rfl, Or.inr (⟨by omega, by omega, rfl⟩)⟩)
    · skip
      refine am_aload_n (x := 63) X (by rfl) dX10_keep_12 ?_
      refine am_iload_n (x := b) X (by rfl) dX10_keep_13 ?_
      refine am_callVi (ci := 9) X hY lk_X10_339 mf_X10_isBody (m_X10_isBody b σ (by omega)) (by decide) (by decide) (Nat.le_refl _) (Nat.le_refl _) sh_63 rfl rfl rfl (Nat.le_of_ble_eq_true rfl) dX10_keep_14 (fun r14 sh14 σ14 hr14 hp14 => ?_)
      obtain ⟨rfl, rfl, hq14⟩ := hp14
      refine am_if_ne (tgt := 22) X dX10_keep_17 (by decide) (fun h17 => ?_) (fun h17 => ?_)
      · skip
        refine am_aload_n (x := 63) X (by rfl) dX10_keep_22 ?_
        refine am_getr (c1 := 86) X 63 fl_X10_77 (by decide) sh_63 (by decide) (by rfl) dX10_keep_23 ?_
        refine am_iload_n (x := a) X (by rfl) dX10_keep_26 ?_
        refine am_iload_n (x := b) X (by rfl) dX10_keep_27 ?_
        refine am_ast X 86 ((a).toNat) sh_86 (by omega) (by omega) dX10_keep_28 ?_
        refine am_aload_n (x := 63) X (by rfl) dX10_keep_29 ?_
        refine am_getr (c1 := 87) X 63 fl_X10_80 (by decide) sh_63 (by decide) (by rfl) dX10_keep_30 ?_
        refine am_iload_n (x := a) X (by rfl) dX10_keep_33 ?_
        refine am_ic X (by decide) dX10_keep_34 ?_
        refine am_ast X 87 ((a).toNat) sh_87 (by omega) (by omega) dX10_keep_35 ?_
        refine am_ic X (by decide) dX10_keep_36 ?_
        exact hret _ _ _ _ _ dX10_keep_37 rfl rfl (by first | exact ⟨rfl, Or.inl ⟨by omega, by omega, rfl⟩⟩ | exact ⟨rfl, Or.inr (⟨by omega, by omega, rfl⟩)⟩)
      · skip
        refine am_ic X (by decide) dX10_keep_20 ?_
        exact hret _ _ _ _ _ dX10_keep_21 rfl rfl (by first | exact ⟨rfl, Or.inl ⟨by omega, by omega, rfl⟩⟩ | exact ⟨rfl, Or.inr (⟨by omega, by omega, rfl⟩)⟩)
