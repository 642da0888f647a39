set_option maxHeartbeats 4000000 in
set_option maxRecDepth 100000 in
theorem m_X3_isDigit (a : Int) (sh : List am_S) (σ : am_H) : am_Mi yX3_isDigit cX3_isDigit 1 (some .boolean) 1 0 0 [vi a] sh σ (fun r sh' σ' => sh = sh' ∧ σ = σ' ∧ am_b r (48 ≤ a ∧ a ≤ 57)) := by
  refine am_Mz_of (by decide +kernel) (Nat.le_of_ble_eq_true rfl) (fun K X hY hI hret => ?_)
  show am_G K 0 [some (vi a)] [] sh σ
  refine am_iload_n (x := a) X (by rfl) dX3_isDigit_0 ?_
  refine am_bipush X (by decide) dX3_isDigit_1 ?_
  refine am_bipush X (by decide) dX3_isDigit_3 ?_
  refine am_callSNi X hY lk_X3_110 mf_X9_within (m_X9_within a 48 57 _ σ) (by decide) (by decide) (Nat.le_refl _) (Nat.le_refl _) rfl rfl (Nat.le_of_ble_eq_true rfl) dX3_isDigit_5 (fun r5 sh5 σ5 hr5 hp5 => ?_)
  obtain ⟨rfl, rfl, hq5⟩ := hp5
  exact hret _ _ _ _ _ dX3_isDigit_8 rfl rfl (⟨rfl, rfl, hq5⟩) (am_bz hq5)

set_option maxHeartbeats 4000000 in
set_option maxRecDepth 100000 in
theorem m_X3_nameOf (a : Int) (sh : List am_S) (σ : am_H) : am_Mi yX3_nameOf cX3_nameOf 1 (some .int) 0 0 0 [vi a] sh σ (fun r sh' σ' => sh = sh' ∧ σ = σ' ∧ r = lx_name a) := by
  refine am_Mi_of (by decide +kernel) (Nat.le_of_ble_eq_true rfl) (fun K X hY hI hret => ?_)
  show am_G K 0 [some (vi a)] [] sh σ
  refine am_iload_n (x := a) X (by rfl) dX3_nameOf_0 ?_
  by_cases h1o : a < 100 ∨ 115 < a
  · skip
    refine am_tableOut (tgt := 92) X dX3_nameOf_1 h1o (by decide) ?_
    refine am_ic X (by decide) dX3_nameOf_92 ?_
    exact hret _ _ _ _ _ dX3_nameOf_93 rfl rfl (by refine ⟨rfl, rfl, ?_⟩; unfold lx_name; (repeat' split) <;> first | omega | assumption)
  rcases (show a = 100 ∨ a = 101 ∨ a = 102 ∨ a = 103 ∨ a = 104 ∨ a = 105 ∨ a = 106 ∨ a = 107 ∨ a = 108 ∨ a = 109 ∨ a = 110 ∨ a = 111 ∨ a = 112 ∨ a = 113 ∨ a = 114 ∨ a = 115 by omega) with h1 | h1 | h1 | h1 | h1 | h1 | h1 | h1 | h1 | h1 | h1 | h1 | h1 | h1 | h1 | h1
  · skip
    refine am_tableIn (off := 79) (tgt := 80) X dX3_nameOf_1 (by omega) (by omega) (by rw [h1]; rfl) (by decide) ?_
    refine am_ic X (by decide) dX3_nameOf_80 ?_
    exact hret _ _ _ _ _ dX3_nameOf_81 rfl rfl (by refine ⟨rfl, rfl, ?_⟩; unfold lx_name; (repeat' split) <;> first | omega | assumption)
  · skip
    refine am_tableIn (off := 91) (tgt := 92) X dX3_nameOf_1 (by omega) (by omega) (by rw [h1]; rfl) (by decide) ?_
    refine am_ic X (by decide) dX3_nameOf_92 ?_
    exact hret _ _ _ _ _ dX3_nameOf_93 rfl rfl (by refine ⟨rfl, rfl, ?_⟩; unfold lx_name; (repeat' split) <;> first | omega | assumption)
  · skip
    refine am_tableIn (off := 91) (tgt := 92) X dX3_nameOf_1 (by omega) (by omega) (by rw [h1]; rfl) (by decide) ?_
    refine am_ic X (by decide) dX3_nameOf_92 ?_
    exact hret _ _ _ _ _ dX3_nameOf_93 rfl rfl (by refine ⟨rfl, rfl, ?_⟩; unfold lx_name; (repeat' split) <;> first | omega | assumption)
  · skip
    refine am_tableIn (off := 91) (tgt := 92) X dX3_nameOf_1 (by omega) (by omega) (by rw [h1]; rfl) (by decide) ?_
    refine am_ic X (by decide) dX3_nameOf_92 ?_
    exact hret _ _ _ _ _ dX3_nameOf_93 rfl rfl (by refine ⟨rfl, rfl, ?_⟩; unfold lx_name; (repeat' split) <;> first | omega | assumption)
  · skip
    refine am_tableIn (off := 91) (tgt := 92) X dX3_nameOf_1 (by omega) (by omega) (by rw [h1]; rfl) (by decide) ?_
    refine am_ic X (by decide) dX3_nameOf_92 ?_
    exact hret _ _ _ _ _ dX3_nameOf_93 rfl rfl (by refine ⟨rfl, rfl, ?_⟩; unfold lx_name; (repeat' split) <;> first | omega | assumption)
  · skip
    refine am_tableIn (off := 91) (tgt := 92) X dX3_nameOf_1 (by omega) (by omega) (by rw [h1]; rfl) (by decide) ?_
    refine am_ic X (by decide) dX3_nameOf_92 ?_
    exact hret _ _ _ _ _ dX3_nameOf_93 rfl rfl (by refine ⟨rfl, rfl, ?_⟩; unfold lx_name; (repeat' split) <;> first | omega | assumption)
  · skip
    refine am_tableIn (off := 91) (tgt := 92) X dX3_nameOf_1 (by omega) (by omega) (by rw [h1]; rfl) (by decide) ?_
    refine am_ic X (by decide) dX3_nameOf_92 ?_
    exact hret _ _ _ _ _ dX3_nameOf_93 rfl rfl (by refine ⟨rfl, rfl, ?_⟩; unfold lx_name; (repeat' split) <;> first | omega | assumption)
  · skip
    refine am_tableIn (off := 91) (tgt := 92) X dX3_nameOf_1 (by omega) (by omega) (by rw [h1]; rfl) (by decide) ?_
    refine am_ic X (by decide) dX3_nameOf_92 ?_
    exact hret _ _ _ _ _ dX3_nameOf_93 rfl rfl (by refine ⟨rfl, rfl, ?_⟩; unfold lx_name; (repeat' split) <;> first | omega | assumption)
  · skip
    refine am_tableIn (off := 83) (tgt := 84) X dX3_nameOf_1 (by omega) (by omega) (by rw [h1]; rfl) (by decide) ?_
    refine am_ic X (by decide) dX3_nameOf_84 ?_
    exact hret _ _ _ _ _ dX3_nameOf_85 rfl rfl (by refine ⟨rfl, rfl, ?_⟩; unfold lx_name; (repeat' split) <;> first | omega | assumption)
  · skip
    refine am_tableIn (off := 81) (tgt := 82) X dX3_nameOf_1 (by omega) (by omega) (by rw [h1]; rfl) (by decide) ?_
    refine am_ic X (by decide) dX3_nameOf_82 ?_
    exact hret _ _ _ _ _ dX3_nameOf_83 rfl rfl (by refine ⟨rfl, rfl, ?_⟩; unfold lx_name; (repeat' split) <;> first | omega | assumption)
  · skip
    refine am_tableIn (off := 91) (tgt := 92) X dX3_nameOf_1 (by omega) (by omega) (by rw [h1]; rfl) (by decide) ?_
    refine am_ic X (by decide) dX3_nameOf_92 ?_
    exact hret _ _ _ _ _ dX3_nameOf_93 rfl rfl (by refine ⟨rfl, rfl, ?_⟩; unfold lx_name; (repeat' split) <;> first | omega | assumption)
  · skip
    refine am_tableIn (off := 91) (tgt := 92) X dX3_nameOf_1 (by omega) (by omega) (by rw [h1]; rfl) (by decide) ?_
    refine am_ic X (by decide) dX3_nameOf_92 ?_
    exact hret _ _ _ _ _ dX3_nameOf_93 rfl rfl (by refine ⟨rfl, rfl, ?_⟩; unfold lx_name; (repeat' split) <;> first | omega | assumption)
  · skip
    refine am_tableIn (off := 87) (tgt := 88) X dX3_nameOf_1 (by omega) (by omega) (by rw [h1]; rfl) (by decide) ?_
    refine am_ic X (by decide) dX3_nameOf_88 ?_
    exact hret _ _ _ _ _ dX3_nameOf_89 rfl rfl (by refine ⟨rfl, rfl, ?_⟩; unfold lx_name; (repeat' split) <;> first | omega | assumption)
  · skip
    refine am_tableIn (off := 89) (tgt := 90) X dX3_nameOf_1 (by omega) (by omega) (by rw [h1]; rfl) (by decide) ?_
    refine am_ic X (by decide) dX3_nameOf_90 ?_
    exact hret _ _ _ _ _ dX3_nameOf_91 rfl rfl (by refine ⟨rfl, rfl, ?_⟩; unfold lx_name; (repeat' split) <;> first | omega | assumption)
  · skip
    refine am_tableIn (off := 91) (tgt := 92) X dX3_nameOf_1 (by omega) (by omega) (by rw [h1]; rfl) (by decide) ?_
    refine am_ic X (by decide) dX3_nameOf_92 ?_
    exact hret _ _ _ _ _ dX3_nameOf_93 rfl rfl (by refine ⟨rfl, rfl, ?_⟩; unfold lx_name; (repeat' split) <;> first | omega | assumption)
  · skip
    refine am_tableIn (off := 85) (tgt := 86) X dX3_nameOf_1 (by omega) (by omega) (by rw [h1]; rfl) (by decide) ?_
    refine am_ic X (by decide) dX3_nameOf_86 ?_
    exact hret _ _ _ _ _ dX3_nameOf_87 rfl rfl (by refine ⟨rfl, rfl, ?_⟩; unfold lx_name; (repeat' split) <;> first | omega | assumption)

set_option maxHeartbeats 4000000 in
set_option maxRecDepth 100000 in
theorem m_X3_rankOf (a : Int) (sh : List am_S) (σ : am_H) : am_Mi yX3_rankOf cX3_rankOf 1 (some .int) 0 0 0 [vi a] sh σ (fun r sh' σ' => sh = sh' ∧ σ = σ' ∧ r = lx_rank a) := by
  refine am_Mi_of (by decide +kernel) (Nat.le_of_ble_eq_true rfl) (fun K X hY hI hret => ?_)
  show am_G K 0 [some (vi a)] [] sh σ
  refine am_iload_n (x := a) X (by rfl) dX3_rankOf_0 ?_
  by_cases h1_0 : a = 33
  · skip
    refine am_lookup (off := 107) (tgt := 108) X dX3_rankOf_1 (by decide) (by rw [h1_0]; rfl) (by decide) ?_
    refine am_bipush X (by decide) dX3_rankOf_108 ?_
    exact hret _ _ _ _ _ dX3_rankOf_110 rfl rfl (by refine ⟨rfl, rfl, ?_⟩; unfold lx_rank; (repeat' split) <;> first | omega | assumption)
  by_cases h1_1 : a = 37
  · skip
    refine am_lookup (off := 110) (tgt := 111) X dX3_rankOf_1 (by decide) (by rw [h1_1]; rfl) (by decide) ?_
    refine am_ic X (by decide) dX3_rankOf_111 ?_
    exact hret _ _ _ _ _ dX3_rankOf_112 rfl rfl (by refine ⟨rfl, rfl, ?_⟩; unfold lx_rank; (repeat' split) <;> first | omega | assumption)
  by_cases h1_2 : a = 38
  · skip
    refine am_lookup (off := 116) (tgt := 117) X dX3_rankOf_1 (by decide) (by rw [h1_2]; rfl) (by decide) ?_
    refine am_ic X (by decide) dX3_rankOf_117 ?_
    exact hret _ _ _ _ _ dX3_rankOf_118 rfl rfl (by refine ⟨rfl, rfl, ?_⟩; unfold lx_rank; (repeat' split) <;> first | omega | assumption)
  by_cases h1_3 : a = 42
  · skip
    refine am_lookup (off := 110) (tgt := 111) X dX3_rankOf_1 (by decide) (by rw [h1_3]; rfl) (by decide) ?_
    refine am_ic X (by decide) dX3_rankOf_111 ?_
    exact hret _ _ _ _ _ dX3_rankOf_112 rfl rfl (by refine ⟨rfl, rfl, ?_⟩; unfold lx_rank; (repeat' split) <;> first | omega | assumption)
  by_cases h1_4 : a = 43
  · skip
    refine am_lookup (off := 112) (tgt := 113) X dX3_rankOf_1 (by decide) (by rw [h1_4]; rfl) (by decide) ?_
    refine am_ic X (by decide) dX3_rankOf_113 ?_
    exact hret _ _ _ _ _ dX3_rankOf_114 rfl rfl (by refine ⟨rfl, rfl, ?_⟩; unfold lx_rank; (repeat' split) <;> first | omega | assumption)
  by_cases h1_5 : a = 45
  · skip
    refine am_lookup (off := 112) (tgt := 113) X dX3_rankOf_1 (by decide) (by rw [h1_5]; rfl) (by decide) ?_
    refine am_ic X (by decide) dX3_rankOf_113 ?_
    exact hret _ _ _ _ _ dX3_rankOf_114 rfl rfl (by refine ⟨rfl, rfl, ?_⟩; unfold lx_rank; (repeat' split) <;> first | omega | assumption)
  by_cases h1_6 : a = 47
  · skip
    refine am_lookup (off := 110) (tgt := 111) X dX3_rankOf_1 (by decide) (by rw [h1_6]; rfl) (by decide) ?_
    refine am_ic X (by decide) dX3_rankOf_111 ?_
    exact hret _ _ _ _ _ dX3_rankOf_112 rfl rfl (by refine ⟨rfl, rfl, ?_⟩; unfold lx_rank; (repeat' split) <;> first | omega | assumption)
  by_cases h1_7 : a = 60
  · skip
    refine am_lookup (off := 114) (tgt := 115) X dX3_rankOf_1 (by decide) (by rw [h1_7]; rfl) (by decide) ?_
    refine am_ic X (by decide) dX3_rankOf_115 ?_
    exact hret _ _ _ _ _ dX3_rankOf_116 rfl rfl (by refine ⟨rfl, rfl, ?_⟩; unfold lx_rank; (repeat' split) <;> first | omega | assumption)
  by_cases h1_8 : a = 61
  · skip
    refine am_lookup (off := 114) (tgt := 115) X dX3_rankOf_1 (by decide) (by rw [h1_8]; rfl) (by decide) ?_
    refine am_ic X (by decide) dX3_rankOf_115 ?_
    exact hret _ _ _ _ _ dX3_rankOf_116 rfl rfl (by refine ⟨rfl, rfl, ?_⟩; unfold lx_rank; (repeat' split) <;> first | omega | assumption)
  by_cases h1_9 : a = 62
  · skip
    refine am_lookup (off := 114) (tgt := 115) X dX3_rankOf_1 (by decide) (by rw [h1_9]; rfl) (by decide) ?_
    refine am_ic X (by decide) dX3_rankOf_115 ?_
    exact hret _ _ _ _ _ dX3_rankOf_116 rfl rfl (by refine ⟨rfl, rfl, ?_⟩; unfold lx_rank; (repeat' split) <;> first | omega | assumption)
  by_cases h1_10 : a = 124
  · skip
    refine am_lookup (off := 118) (tgt := 119) X dX3_rankOf_1 (by decide) (by rw [h1_10]; rfl) (by decide) ?_
    refine am_ic X (by decide) dX3_rankOf_119 ?_
    exact hret _ _ _ _ _ dX3_rankOf_120 rfl rfl (by refine ⟨rfl, rfl, ?_⟩; unfold lx_rank; (repeat' split) <;> first | omega | assumption)
  by_cases h1_11 : a = 126
  · skip
    refine am_lookup (off := 107) (tgt := 108) X dX3_rankOf_1 (by decide) (by rw [h1_11]; rfl) (by decide) ?_
    refine am_bipush X (by decide) dX3_rankOf_108 ?_
    exact hret _ _ _ _ _ dX3_rankOf_110 rfl rfl (by refine ⟨rfl, rfl, ?_⟩; unfold lx_rank; (repeat' split) <;> first | omega | assumption)
  refine am_lookup (off := 120) (tgt := 121) X dX3_rankOf_1 (by decide) (by simp [Op.lookupswitch.offset, h1_0, h1_1, h1_2, h1_3, h1_4, h1_5, h1_6, h1_7, h1_8, h1_9, h1_10, h1_11, Ne.symm h1_0, Ne.symm h1_1, Ne.symm h1_2, Ne.symm h1_3, Ne.symm h1_4, Ne.symm h1_5, Ne.symm h1_6, Ne.symm h1_7, Ne.symm h1_8, Ne.symm h1_9, Ne.symm h1_10, Ne.symm h1_11]) (by decide) ?_
  refine am_ic X (by decide) dX3_rankOf_121 ?_
  exact hret _ _ _ _ _ dX3_rankOf_122 rfl rfl (by refine ⟨rfl, rfl, ?_⟩; unfold lx_rank; (repeat' split) <;> first | omega | assumption)

set_option maxHeartbeats 4000000 in
set_option maxRecDepth 100000 in
theorem m_X3_operandsOf (a : Int) (sh : List am_S) (σ : am_H) : am_Mi yX3_operandsOf cX3_operandsOf 1 (some .int) 0 0 0 [vi a] sh σ (fun r sh' σ' => sh = sh' ∧ σ = σ' ∧ r = (if a = 0 ∨ a = 6 then 1 else 2)) := by
  refine am_Mi_of (by decide +kernel) (Nat.le_of_ble_eq_true rfl) (fun K X hY hI hret => ?_)
  show am_G K 0 [some (vi a)] [] sh σ
  refine am_iload_n (x := a) X (by rfl) dX3_operandsOf_0 ?_
  refine am_if_eq (tgt := 10) X dX3_operandsOf_1 (by decide) (fun h1 => ?_) (fun h1 => ?_)
  · skip
    refine am_ic X (by decide) dX3_operandsOf_10 ?_
    refine am_goto (tgt := 15) X dX3_operandsOf_11 (by decide) ?_
    exact hret _ _ _ _ _ dX3_operandsOf_15 rfl rfl (by first | exact ⟨rfl, rfl, (if_pos (by omega)).symm⟩ | exact ⟨rfl, rfl, (if_neg (by omega)).symm⟩)
  · skip
    refine am_iload_n (x := a) X (by rfl) dX3_operandsOf_4 ?_
    refine am_bipush X (by decide) dX3_operandsOf_5 ?_
    refine am_icmp_ne (tgt := 14) X dX3_operandsOf_7 (by decide) (fun h7 => ?_) (fun h7 => ?_)
    · skip
      refine am_ic X (by decide) dX3_operandsOf_14 ?_
      exact hret _ _ _ _ _ dX3_operandsOf_15 rfl rfl (by first | exact ⟨rfl, rfl, (if_pos (by omega)).symm⟩ | exact ⟨rfl, rfl, (if_neg (by omega)).symm⟩)
    · skip
      refine am_ic X (by decide) dX3_operandsOf_10 ?_
      refine am_goto (tgt := 15) X dX3_operandsOf_11 (by decide) ?_
      exact hret _ _ _ _ _ dX3_operandsOf_15 rfl rfl (by first | exact ⟨rfl, rfl, (if_pos (by omega)).symm⟩ | exact ⟨rfl, rfl, (if_neg (by omega)).symm⟩)

set_option maxHeartbeats 4000000 in
set_option maxRecDepth 100000 in
theorem m_X3_ofOne (k a : Int) (sh : List am_S) (σ : am_H) : am_Mi yX3_ofOne cX3_ofOne 2 (some .int) 0 0 0 [vi k, vi a] sh σ (fun r sh' σ' => sh = sh' ∧ σ = σ' ∧ r = lx_op1 k a) := by
  refine am_Mi_of (by decide +kernel) (Nat.le_of_ble_eq_true rfl) (fun K X hY hI hret => ?_)
  show am_G K 0 [some (vi k), some (vi a)] [] sh σ
  refine am_iload_n (x := k) X (by rfl) dX3_ofOne_0 ?_
  refine am_bipush X (by decide) dX3_ofOne_1 ?_
  refine am_icmp_ne (tgt := 16) X dX3_ofOne_3 (by decide) (fun h3 => ?_) (fun h3 => ?_)
  · skip
    refine am_iload_n (x := a) X (by rfl) dX3_ofOne_16 ?_
    refine am_ineg X dX3_ofOne_17 ?_
    exact hret _ _ _ _ _ dX3_ofOne_18 rfl rfl (by refine ⟨rfl, rfl, ?_⟩; unfold lx_op1; (repeat' split) <;> first | omega | assumption | rfl)
  · skip
    refine am_iload_n (x := a) X (by rfl) dX3_ofOne_6 ?_
    refine am_if_ne (tgt := 14) X dX3_ofOne_7 (by decide) (fun h7 => ?_) (fun h7 => ?_)
    · skip
      refine am_ic X (by decide) dX3_ofOne_14 ?_
      exact hret _ _ _ _ _ dX3_ofOne_15 rfl rfl (by refine ⟨rfl, rfl, ?_⟩; unfold lx_op1; (repeat' split) <;> first | omega | assumption | rfl)
    · skip
      refine am_ic X (by decide) dX3_ofOne_10 ?_
      refine am_goto (tgt := 15) X dX3_ofOne_11 (by decide) ?_
      exact hret _ _ _ _ _ dX3_ofOne_15 rfl rfl (by refine ⟨rfl, rfl, ?_⟩; unfold lx_op1; (repeat' split) <;> first | omega | assumption | rfl)

set_option maxHeartbeats 4000000 in
set_option maxRecDepth 100000 in
theorem m_X3_ofTwo (k a b : Int) (sh : List am_S) (σ : am_H) : am_Mi yX3_ofTwo cX3_ofTwo 3 (some .int) 0 0 0 [vi k, vi a, vi b] sh σ (fun r sh' σ' => sh = sh' ∧ σ = σ' ∧ r = lx_op2 k a b) := by
  refine am_Mi_of (by decide +kernel) (Nat.le_of_ble_eq_true rfl) (fun K X hY hI hret => ?_)
  show am_G K 0 [some (vi k), some (vi a), some (vi b)] [] sh σ
  refine am_iload_n (x := k) X (by rfl) dX3_ofTwo_0 ?_
  have hL203 : ∀  (hk : k ≠ 42 ∧ k ≠ 47 ∧ k ≠ 37 ∧ k ≠ 43 ∧ k ≠ 45 ∧ k ≠ 60 ∧ k ≠ 61 ∧ k ≠ 62 ∧ k ≠ 38), am_G K 203 [some (vi k), some (vi a), some (vi b)] [] sh σ := by
    intro  hk
    refine am_iload_n (x := a) X (by rfl) dX3_ofTwo_203 ?_
    refine am_if_ne (tgt := 211) X dX3_ofTwo_204 (by decide) (fun h204 => ?_) (fun h204 => ?_)
    · skip
      refine am_ic X (by decide) dX3_ofTwo_211 ?_
      refine am_goto (tgt := 216) X dX3_ofTwo_212 (by decide) ?_
      exact hret _ _ _ _ _ dX3_ofTwo_216 rfl rfl (by refine ⟨rfl, rfl, ?_⟩; unfold lx_op2; rw [if_neg (by omega), if_neg (by omega), if_neg (by omega), if_neg (by omega), if_neg (by omega), if_neg (by omega), if_neg (by omega), if_neg (by omega), if_neg (by omega)]; rw [if_pos (by omega)])
    · skip
      refine am_iload_n (x := b) X (by rfl) dX3_ofTwo_207 ?_
      refine am_if_eq (tgt := 215) X dX3_ofTwo_208 (by decide) (fun h208 => ?_) (fun h208 => ?_)
      · skip
        refine am_ic X (by decide) dX3_ofTwo_215 ?_
        exact hret _ _ _ _ _ dX3_ofTwo_216 rfl rfl (by refine ⟨rfl, rfl, ?_⟩; unfold lx_op2; rw [if_neg (by omega), if_neg (by omega), if_neg (by omega), if_neg (by omega), if_neg (by omega), if_neg (by omega), if_neg (by omega), if_neg (by omega), if_neg (by omega)]; rw [if_neg (by omega)])
      · skip
        refine am_ic X (by decide) dX3_ofTwo_211 ?_
        refine am_goto (tgt := 216) X dX3_ofTwo_212 (by decide) ?_
        exact hret _ _ _ _ _ dX3_ofTwo_216 rfl rfl (by refine ⟨rfl, rfl, ?_⟩; unfold lx_op2; rw [if_neg (by omega), if_neg (by omega), if_neg (by omega), if_neg (by omega), if_neg (by omega), if_neg (by omega), if_neg (by omega), if_neg (by omega), if_neg (by omega)]; rw [if_pos (by omega)])
  by_cases h1o : k < 37 ∨ 62 < k
  · skip
    refine am_tableOut (tgt := 203) X dX3_ofTwo_1 h1o (by decide) ?_
    exact hL203  (by omega)
  rcases (show k = 37 ∨ k = 38 ∨ k = 39 ∨ k = 40 ∨ k = 41 ∨ k = 42 ∨ k = 43 ∨ k = 44 ∨ k = 45 ∨ k = 46 ∨ k = 47 ∨ k = 48 ∨ k = 49 ∨ k = 50 ∨ k = 51 ∨ k = 52 ∨ k = 53 ∨ k = 54 ∨ k = 55 ∨ k = 56 ∨ k = 57 ∨ k = 58 ∨ k = 59 ∨ k = 60 ∨ k = 61 ∨ k = 62 by omega) with h1 | h1 | h1 | h1 | h1 | h1 | h1 | h1 | h1 | h1 | h1 | h1 | h1 | h1 | h1 | h1 | h1 | h1 | h1 | h1 | h1 | h1 | h1 | h1 | h1 | h1
  · skip
    refine am_tableIn (off := 135) (tgt := 136) X dX3_ofTwo_1 (by omega) (by omega) (by rw [h1]; rfl) (by decide) ?_
    refine am_iload_n (x := b) X (by rfl) dX3_ofTwo_136 ?_
    refine am_if_ne (tgt := 144) X dX3_ofTwo_137 (by decide) (fun h137 => ?_) (fun h137 => ?_)
    · skip
      refine am_iload_n (x := a) X (by rfl) dX3_ofTwo_144 ?_
      refine am_iload_n (x := b) X (by rfl) dX3_ofTwo_145 ?_
      refine am_irem X (by omega) dX3_ofTwo_146 ?_
      exact hret _ _ _ _ _ dX3_ofTwo_147 rfl rfl (by refine ⟨rfl, rfl, ?_⟩; rw [h1]; unfold lx_op2; rw [if_neg (by decide), if_neg (by decide), if_pos rfl]; rw [if_neg (by omega)])
    · skip
      refine am_ic X (by decide) dX3_ofTwo_140 ?_
      refine am_goto (tgt := 147) X dX3_ofTwo_141 (by decide) ?_
      exact hret _ _ _ _ _ dX3_ofTwo_147 rfl rfl (by refine ⟨rfl, rfl, ?_⟩; rw [h1]; unfold lx_op2; rw [if_neg (by decide), if_neg (by decide), if_pos rfl]; rw [if_pos (by omega)])
  · skip
    refine am_tableIn (off := 188) (tgt := 189) X dX3_ofTwo_1 (by omega) (by omega) (by rw [h1]; rfl) (by decide) ?_
    refine am_iload_n (x := a) X (by rfl) dX3_ofTwo_189 ?_
    refine am_if_eq (tgt := 201) X dX3_ofTwo_190 (by decide) (fun h190 => ?_) (fun h190 => ?_)
    · skip
      refine am_ic X (by decide) dX3_ofTwo_201 ?_
      exact hret _ _ _ _ _ dX3_ofTwo_202 rfl rfl (by refine ⟨rfl, rfl, ?_⟩; rw [h1]; unfold lx_op2; rw [if_neg (by decide), if_neg (by decide), if_neg (by decide), if_neg (by decide), if_neg (by decide), if_neg (by decide), if_neg (by decide), if_neg (by decide), if_pos rfl]; rw [if_neg (by omega)])
    · skip
      refine am_iload_n (x := b) X (by rfl) dX3_ofTwo_193 ?_
      refine am_if_eq (tgt := 201) X dX3_ofTwo_194 (by decide) (fun h194 => ?_) (fun h194 => ?_)
      · skip
        refine am_ic X (by decide) dX3_ofTwo_201 ?_
        exact hret _ _ _ _ _ dX3_ofTwo_202 rfl rfl (by refine ⟨rfl, rfl, ?_⟩; rw [h1]; unfold lx_op2; rw [if_neg (by decide), if_neg (by decide), if_neg (by decide), if_neg (by decide), if_neg (by decide), if_neg (by decide), if_neg (by decide), if_neg (by decide), if_pos rfl]; rw [if_neg (by omega)])
      · skip
        refine am_ic X (by decide) dX3_ofTwo_197 ?_
        refine am_goto (tgt := 202) X dX3_ofTwo_198 (by decide) ?_
        exact hret _ _ _ _ _ dX3_ofTwo_202 rfl rfl (by refine ⟨rfl, rfl, ?_⟩; rw [h1]; unfold lx_op2; rw [if_neg (by decide), if_neg (by decide), if_neg (by decide), if_neg (by decide), if_neg (by decide), if_neg (by decide), if_neg (by decide), if_neg (by decide), if_pos rfl]; rw [if_pos (by omega)])
  · skip
    refine am_tableIn (off := 202) (tgt := 203) X dX3_ofTwo_1 (by omega) (by omega) (by rw [h1]; rfl) (by decide) ?_
    exact hL203  (by omega)
  · skip
    refine am_tableIn (off := 202) (tgt := 203) X dX3_ofTwo_1 (by omega) (by omega) (by rw [h1]; rfl) (by decide) ?_
    exact hL203  (by omega)
  · skip
    refine am_tableIn (off := 202) (tgt := 203) X dX3_ofTwo_1 (by omega) (by omega) (by rw [h1]; rfl) (by decide) ?_
    exact hL203  (by omega)
  · skip
    refine am_tableIn (off := 119) (tgt := 120) X dX3_ofTwo_1 (by omega) (by omega) (by rw [h1]; rfl) (by decide) ?_
    refine am_iload_n (x := a) X (by rfl) dX3_ofTwo_120 ?_
    refine am_iload_n (x := b) X (by rfl) dX3_ofTwo_121 ?_
    refine am_imul X dX3_ofTwo_122 ?_
    exact hret _ _ _ _ _ dX3_ofTwo_123 rfl rfl (by refine ⟨rfl, rfl, ?_⟩; rw [h1]; unfold lx_op2; rw [if_pos rfl])
  · skip
    refine am_tableIn (off := 147) (tgt := 148) X dX3_ofTwo_1 (by omega) (by omega) (by rw [h1]; rfl) (by decide) ?_
    refine am_iload_n (x := a) X (by rfl) dX3_ofTwo_148 ?_
    refine am_iload_n (x := b) X (by rfl) dX3_ofTwo_149 ?_
    refine am_iadd X dX3_ofTwo_150 ?_
    exact hret _ _ _ _ _ dX3_ofTwo_151 rfl rfl (by refine ⟨rfl, rfl, ?_⟩; rw [h1]; unfold lx_op2; rw [if_neg (by decide), if_neg (by decide), if_neg (by decide), if_pos rfl])
  · skip
    refine am_tableIn (off := 202) (tgt := 203) X dX3_ofTwo_1 (by omega) (by omega) (by rw [h1]; rfl) (by decide) ?_
    exact hL203  (by omega)
  · skip
    refine am_tableIn (off := 151) (tgt := 152) X dX3_ofTwo_1 (by omega) (by omega) (by rw [h1]; rfl) (by decide) ?_
    refine am_iload_n (x := a) X (by rfl) dX3_ofTwo_152 ?_
    refine am_iload_n (x := b) X (by rfl) dX3_ofTwo_153 ?_
    refine am_isub X dX3_ofTwo_154 ?_
    exact hret _ _ _ _ _ dX3_ofTwo_155 rfl rfl (by refine ⟨rfl, rfl, ?_⟩; rw [h1]; unfold lx_op2; rw [if_neg (by decide), if_neg (by decide), if_neg (by decide), if_neg (by decide), if_pos rfl])
  · skip
    refine am_tableIn (off := 202) (tgt := 203) X dX3_ofTwo_1 (by omega) (by omega) (by rw [h1]; rfl) (by decide) ?_
    exact hL203  (by omega)
  · skip
    refine am_tableIn (off := 123) (tgt := 124) X dX3_ofTwo_1 (by omega) (by omega) (by rw [h1]; rfl) (by decide) ?_
    refine am_iload_n (x := b) X (by rfl) dX3_ofTwo_124 ?_
    refine am_if_ne (tgt := 132) X dX3_ofTwo_125 (by decide) (fun h125 => ?_) (fun h125 => ?_)
    · skip
      refine am_iload_n (x := a) X (by rfl) dX3_ofTwo_132 ?_
      refine am_iload_n (x := b) X (by rfl) dX3_ofTwo_133 ?_
      refine am_idiv X (by omega) dX3_ofTwo_134 ?_
      exact hret _ _ _ _ _ dX3_ofTwo_135 rfl rfl (by refine ⟨rfl, rfl, ?_⟩; rw [h1]; unfold lx_op2; rw [if_neg (by decide), if_pos rfl]; rw [if_neg (by omega)])
    · skip
      refine am_ic X (by decide) dX3_ofTwo_128 ?_
      refine am_goto (tgt := 135) X dX3_ofTwo_129 (by decide) ?_
      exact hret _ _ _ _ _ dX3_ofTwo_135 rfl rfl (by refine ⟨rfl, rfl, ?_⟩; rw [h1]; unfold lx_op2; rw [if_neg (by decide), if_pos rfl]; rw [if_pos (by omega)])
  · skip
    refine am_tableIn (off := 202) (tgt := 203) X dX3_ofTwo_1 (by omega) (by omega) (by rw [h1]; rfl) (by decide) ?_
    exact hL203  (by omega)
  · skip
    refine am_tableIn (off := 202) (tgt := 203) X dX3_ofTwo_1 (by omega) (by omega) (by rw [h1]; rfl) (by decide) ?_
    exact hL203  (by omega)
  · skip
    refine am_tableIn (off := 202) (tgt := 203) X dX3_ofTwo_1 (by omega) (by omega) (by rw [h1]; rfl) (by decide) ?_
    exact hL203  (by omega)
  · skip
    refine am_tableIn (off := 202) (tgt := 203) X dX3_ofTwo_1 (by omega) (by omega) (by rw [h1]; rfl) (by decide) ?_
    exact hL203  (by omega)
  · skip
    refine am_tableIn (off := 202) (tgt := 203) X dX3_ofTwo_1 (by omega) (by omega) (by rw [h1]; rfl) (by decide) ?_
    exact hL203  (by omega)
  · skip
    refine am_tableIn (off := 202) (tgt := 203) X dX3_ofTwo_1 (by omega) (by omega) (by rw [h1]; rfl) (by decide) ?_
    exact hL203  (by omega)
  · skip
    refine am_tableIn (off := 202) (tgt := 203) X dX3_ofTwo_1 (by omega) (by omega) (by rw [h1]; rfl) (by decide) ?_
    exact hL203  (by omega)
  · skip
    refine am_tableIn (off := 202) (tgt := 203) X dX3_ofTwo_1 (by omega) (by omega) (by rw [h1]; rfl) (by decide) ?_
    exact hL203  (by omega)
  · skip
    refine am_tableIn (off := 202) (tgt := 203) X dX3_ofTwo_1 (by omega) (by omega) (by rw [h1]; rfl) (by decide) ?_
    exact hL203  (by omega)
  · skip
    refine am_tableIn (off := 202) (tgt := 203) X dX3_ofTwo_1 (by omega) (by omega) (by rw [h1]; rfl) (by decide) ?_
    exact hL203  (by omega)
  · skip
    refine am_tableIn (off := 202) (tgt := 203) X dX3_ofTwo_1 (by omega) (by omega) (by rw [h1]; rfl) (by decide) ?_
    exact hL203  (by omega)
  · skip
    refine am_tableIn (off := 202) (tgt := 203) X dX3_ofTwo_1 (by omega) (by omega) (by rw [h1]; rfl) (by decide) ?_
    exact hL203  (by omega)
  · skip
    refine am_tableIn (off := 155) (tgt := 156) X dX3_ofTwo_1 (by omega) (by omega) (by rw [h1]; rfl) (by decide) ?_
    refine am_iload_n (x := a) X (by rfl) dX3_ofTwo_156 ?_
    refine am_iload_n (x := b) X (by rfl) dX3_ofTwo_157 ?_
    refine am_icmp_ge (tgt := 165) X dX3_ofTwo_158 (by decide) (fun h158 => ?_) (fun h158 => ?_)
    · skip
      refine am_ic X (by decide) dX3_ofTwo_165 ?_
      exact hret _ _ _ _ _ dX3_ofTwo_166 rfl rfl (by refine ⟨rfl, rfl, ?_⟩; rw [h1]; unfold lx_op2; rw [if_neg (by decide), if_neg (by decide), if_neg (by decide), if_neg (by decide), if_neg (by decide), if_pos rfl]; rw [if_neg (by omega)])
    · skip
      refine am_ic X (by decide) dX3_ofTwo_161 ?_
      refine am_goto (tgt := 166) X dX3_ofTwo_162 (by decide) ?_
      exact hret _ _ _ _ _ dX3_ofTwo_166 rfl rfl (by refine ⟨rfl, rfl, ?_⟩; rw [h1]; unfold lx_op2; rw [if_neg (by decide), if_neg (by decide), if_neg (by decide), if_neg (by decide), if_neg (by decide), if_pos rfl]; rw [if_pos (by omega)])
  · skip
    refine am_tableIn (off := 166) (tgt := 167) X dX3_ofTwo_1 (by omega) (by omega) (by rw [h1]; rfl) (by decide) ?_
    refine am_iload_n (x := a) X (by rfl) dX3_ofTwo_167 ?_
    refine am_iload_n (x := b) X (by rfl) dX3_ofTwo_168 ?_
    refine am_icmp_ne (tgt := 176) X dX3_ofTwo_169 (by decide) (fun h169 => ?_) (fun h169 => ?_)
    · skip
      refine am_ic X (by decide) dX3_ofTwo_176 ?_
      exact hret _ _ _ _ _ dX3_ofTwo_177 rfl rfl (by refine ⟨rfl, rfl, ?_⟩; rw [h1]; unfold lx_op2; rw [if_neg (by decide), if_neg (by decide), if_neg (by decide), if_neg (by decide), if_neg (by decide), if_neg (by decide), if_pos rfl]; rw [if_neg (by omega)])
    · skip
      refine am_ic X (by decide) dX3_ofTwo_172 ?_
      refine am_goto (tgt := 177) X dX3_ofTwo_173 (by decide) ?_
      exact hret _ _ _ _ _ dX3_ofTwo_177 rfl rfl (by refine ⟨rfl, rfl, ?_⟩; rw [h1]; unfold lx_op2; rw [if_neg (by decide), if_neg (by decide), if_neg (by decide), if_neg (by decide), if_neg (by decide), if_neg (by decide), if_pos rfl]; rw [if_pos (by omega)])
  · skip
    refine am_tableIn (off := 177) (tgt := 178) X dX3_ofTwo_1 (by omega) (by omega) (by rw [h1]; rfl) (by decide) ?_
    refine am_iload_n (x := a) X (by rfl) dX3_ofTwo_178 ?_
    refine am_iload_n (x := b) X (by rfl) dX3_ofTwo_179 ?_
    refine am_icmp_le (tgt := 187) X dX3_ofTwo_180 (by decide) (fun h180 => ?_) (fun h180 => ?_)
    · skip
      refine am_ic X (by decide) dX3_ofTwo_187 ?_
      exact hret _ _ _ _ _ dX3_ofTwo_188 rfl rfl (by refine ⟨rfl, rfl, ?_⟩; rw [h1]; unfold lx_op2; rw [if_neg (by decide), if_neg (by decide), if_neg (by decide), if_neg (by decide), if_neg (by decide), if_neg (by decide), if_neg (by decide), if_pos rfl]; rw [if_neg (by omega)])
    · skip
      refine am_ic X (by decide) dX3_ofTwo_183 ?_
      refine am_goto (tgt := 188) X dX3_ofTwo_184 (by decide) ?_
      exact hret _ _ _ _ _ dX3_ofTwo_188 rfl rfl (by refine ⟨rfl, rfl, ?_⟩; rw [h1]; unfold lx_op2; rw [if_neg (by decide), if_neg (by decide), if_neg (by decide), if_neg (by decide), if_neg (by decide), if_neg (by decide), if_neg (by decide), if_pos rfl]; rw [if_pos (by omega)])

set_option maxHeartbeats 4000000 in
set_option maxRecDepth 100000 in
theorem m_X3_emit (x : Int) (σ : am_H) (hd : 0 ≤ σ 9 8 ∧ σ 9 8 < 121) : am_Mv yX3_emit cX3_emit 2 none 0 0 0 [vr 9, vi x] SH σ (fun sh' σ' => SH = sh' ∧ (lw_emit σ x) = σ' ∧ True) := by
  refine am_Mv_of (by decide +kernel) (Nat.le_of_ble_eq_true rfl) (fun K X hY hI hret => ?_)
  show am_G K 0 [some (vr 9), some (vi x)] [] SH σ
  refine am_aload_n (x := 9) X (by rfl) dX3_emit_0 ?_
  refine am_get (v := σ 9 8) X 9 fl_X3_41 (by decide) sh_9 (by decide) (rfl) dX3_emit_1 ?_
  refine am_aload_n (x := 9) X (by rfl) dX3_emit_4 ?_
  refine am_getr (c1 := 12) X 9 fl_X3_18 (by decide) sh_9 (by decide) (by rfl) dX3_emit_5 ?_
  refine am_alen X 12 sh_12 (by decide) (by omega) dX3_emit_8 ?_
  refine am_icmp_ge (tgt := 32) X dX3_emit_9 (by decide) (fun h9 => ?_) (fun h9 => ?_)
  · skip
    (exfalso; omega)
  · skip
    refine am_aload_n (x := 9) X (by rfl) dX3_emit_12 ?_
    refine am_getr (c1 := 12) X 9 fl_X3_18 (by decide) sh_9 (by decide) (by rfl) dX3_emit_13 ?_
    refine am_aload_n (x := 9) X (by rfl) dX3_emit_16 ?_
    refine am_get (v := σ 9 8) X 9 fl_X3_41 (by decide) sh_9 (by decide) (rfl) dX3_emit_17 ?_
    refine am_iload_n (x := x) X (by rfl) dX3_emit_20 ?_
    refine am_ast X 12 ((σ 9 8).toNat) sh_12 (by omega) (by omega) dX3_emit_21 ?_
    refine am_aload_n (x := 9) X (by rfl) dX3_emit_22 ?_
    refine am_dup X (Nat.ne_of_beq_eq_false rfl) dX3_emit_23 ?_
    refine am_get (v := σ 9 8) X 9 fl_X3_41 (by decide) sh_9 (by decide) (by simp [am_up]) dX3_emit_24 ?_
    refine am_ic X (by decide) dX3_emit_27 ?_
    refine am_add (v := (σ 9 8 + 1)) X (by first | rfl | omega) (by omega) dX3_emit_28 ?_
    refine am_puti X 9 fl_X3_41 rfl rfl sh_9 (by decide) dX3_emit_29 ?_
    exact hret _ _ _ _ dX3_emit_32 rfl rfl (⟨rfl, rfl, trivial⟩)

set_option maxHeartbeats 4000000 in
set_option maxRecDepth 100000 in
theorem m_X3_push (x : Int) (σ : am_H) (hd : 0 ≤ σ 9 9 ∧ σ 9 9 < 120) : am_Mv yX3_push cX3_push 2 none 0 0 0 [vr 9, vi x] SH σ (fun sh' σ' => SH = sh' ∧ (lw_push σ x) = σ' ∧ True) := by
  refine am_Mv_of (by decide +kernel) (Nat.le_of_ble_eq_true rfl) (fun K X hY hI hret => ?_)
  show am_G K 0 [some (vr 9), some (vi x)] [] SH σ
  refine am_aload_n (x := 9) X (by rfl) dX3_push_0 ?_
  refine am_get (v := σ 9 9) X 9 fl_X3_50 (by decide) sh_9 (by decide) (rfl) dX3_push_1 ?_
  refine am_aload_n (x := 9) X (by rfl) dX3_push_4 ?_
  refine am_getr (c1 := 13) X 9 fl_X3_21 (by decide) sh_9 (by decide) (by rfl) dX3_push_5 ?_
  refine am_alen X 13 sh_13 (by decide) (by omega) dX3_push_8 ?_
  refine am_icmp_ge (tgt := 32) X dX3_push_9 (by decide) (fun h9 => ?_) (fun h9 => ?_)
  · skip
    (exfalso; omega)
  · skip
    refine am_aload_n (x := 9) X (by rfl) dX3_push_12 ?_
    refine am_getr (c1 := 13) X 9 fl_X3_21 (by decide) sh_9 (by decide) (by rfl) dX3_push_13 ?_
    refine am_aload_n (x := 9) X (by rfl) dX3_push_16 ?_
    refine am_get (v := σ 9 9) X 9 fl_X3_50 (by decide) sh_9 (by decide) (rfl) dX3_push_17 ?_
    refine am_iload_n (x := x) X (by rfl) dX3_push_20 ?_
    refine am_ast X 13 ((σ 9 9).toNat) sh_13 (by omega) (by omega) dX3_push_21 ?_
    refine am_aload_n (x := 9) X (by rfl) dX3_push_22 ?_
    refine am_dup X (Nat.ne_of_beq_eq_false rfl) dX3_push_23 ?_
    refine am_get (v := σ 9 9) X 9 fl_X3_50 (by decide) sh_9 (by decide) (by simp [am_up]) dX3_push_24 ?_
    refine am_ic X (by decide) dX3_push_27 ?_
    refine am_add (v := (σ 9 9 + 1)) X (by first | rfl | omega) (by omega) dX3_push_28 ?_
    refine am_puti X 9 fl_X3_50 rfl rfl sh_9 (by decide) dX3_push_29 ?_
    exact hret _ _ _ _ dX3_push_32 rfl rfl (⟨rfl, rfl, trivial⟩)

set_option maxHeartbeats 4000000 in
set_option maxRecDepth 100000 in
theorem m_X3_endOperand (x g : Int) (σ : am_H) (hd : 0 ≤ σ 9 8 ∧ σ 9 8 < 121) : am_Mv yX3_endOperand cX3_endOperand 3 none 1 0 0 [vr 9, vi x, vi g] SH σ (fun sh' σ' => SH = sh' ∧ (am_up (am_up (lw_emit σ x) 9 12 g) 9 13 0) = σ' ∧ True) := by
  refine am_Mv_of (by decide +kernel) (Nat.le_of_ble_eq_true rfl) (fun K X hY hI hret => ?_)
  show am_G K 0 [some (vr 9), some (vi x), some (vi g)] [] SH σ
  refine am_aload_n (x := 9) X (by rfl) dX3_endOperand_0 ?_
  refine am_iload_n (x := x) X (by rfl) dX3_endOperand_1 ?_
  refine am_callVv (ci := 3) X hY lk_X3_77 mf_X3_emit (m_X3_emit x σ hd) (by decide) (by decide) (Nat.le_refl _) (Nat.le_refl _) sh_9 rfl rfl rfl (Nat.le_of_ble_eq_true rfl) dX3_endOperand_2 (fun sh2 σ2 hp2 => ?_)
  obtain ⟨rfl, rfl, hq2⟩ := hp2
  refine am_aload_n (x := 9) X (by rfl) dX3_endOperand_5 ?_
  refine am_iload_n (x := g) X (by rfl) dX3_endOperand_6 ?_
  refine am_puti X 9 fl_X3_94 rfl rfl sh_9 (by decide) dX3_endOperand_7 ?_
  refine am_aload_n (x := 9) X (by rfl) dX3_endOperand_10 ?_
  refine am_ic X (by decide) dX3_endOperand_11 ?_
  refine am_putz X 9 fl_X3_59 rfl rfl sh_9 (by decide) (by first | exact Or.inl rfl | exact Or.inr rfl | omega) dX3_endOperand_12 ?_
  exact hret _ _ _ _ dX3_endOperand_15 rfl rfl (⟨rfl, rfl, trivial⟩)

set_option maxHeartbeats 4000000 in
set_option maxRecDepth 100000 in
theorem m_X3_settle (r : Int) (c ops : List Int) (o b g due cd : Int) (hr : 1 ≤ r) (σ : am_H) (his : lx_is σ (c, ops, o, b, g, due, cd)) (hl : c.length + ops.length ≤ 120) (ho : -500 ≤ o ∧ o ≤ 500) : am_Mv yX3_settle cX3_settle 2 none 1 0 0 [vr 9, vi r] SH σ (fun sh' σ' => SH = sh' ∧ lx_is σ' ((lx_set r c ops o).1, (lx_set r c ops o).2.1, (lx_set r c ops o).2.2, b, g, due, cd) ∧ lx_fr σ σ') := by
  refine am_Mv_of (by decide +kernel) (Nat.le_of_ble_eq_true rfl) (fun K X hY hI hret => ?_)
  show am_G K 0 [some (vr 9), some (vi r)] [] SH σ
  have hL0 : ∀ (m0 : Nat) (τ : am_H) (c1 : List Int) (ops1 : List Int) (o1 : Int) (hs1 : lx_is τ (c1, ops1, o1, b, g, due, cd)) (he : (lx_set r c ops o) = lx_set r c1 ops1 o1) (hl1 : c1.length + ops1.length ≤ 120) (ho1 : -1000 ≤ o1 - (ops1.length : Int) ∧ o1 ≤ 1000) (hfr : lx_fr σ τ) (hm0 : ops1.length = m0), am_G K 0 [some (vr 9), some (vi r)] [] SH τ := by
    intro m0
    induction m0 using Nat.strongRecOn with
    | ind m0 ih0 =>
    intro τ c1 ops1 o1 hs1 he hl1 ho1 hfr hm0
    have e8 : τ 9 8 = (c1.length : Int) := hs1.1.1
    have e9 : τ 9 9 = (ops1.length : Int) := hs1.2.1.1
    have e10 : τ 9 10 = o1 := hs1.2.2.1
    have e11 : τ 9 11 = b := hs1.2.2.2.1
    have e12 : τ 9 12 = g := hs1.2.2.2.2.1
    have e13 : τ 9 13 = due := hs1.2.2.2.2.2.1
    have e14 : τ 9 14 = cd := hs1.2.2.2.2.2.2
    refine am_aload_n (x := 9) X (by rfl) dX3_settle_0 ?_
    refine am_get (v := τ 9 9) X 9 fl_X3_50 (by decide) sh_9 (by decide) (rfl) dX3_settle_1 ?_
    refine am_if_le (tgt := 82) X dX3_settle_4 (by decide) (fun h4 => ?_) (fun h4 => ?_)
    · skip
      exact hret _ _ _ _ dX3_settle_82 rfl rfl (by have e0 : ops1 = [] := List.eq_nil_of_length_eq_zero (by omega); subst e0; exact ⟨rfl, by rw [he]; exact hs1, hfr⟩)
    · skip
      obtain ⟨opsx, hop⟩ := lx_is_top hs1 (by omega)
      rw [show (τ 9 9 - 1).toNat = ((τ 9 9 - 1)).toNat from rfl] at hop
      subst hop
      have hlc : (τ 13 ((τ 9 9 - 1)).toNat :: opsx).length = opsx.length + 1 := rfl
      refine am_aload_n (x := 9) X (by rfl) dX3_settle_7 ?_
      refine am_getr (c1 := 13) X 9 fl_X3_21 (by decide) sh_9 (by decide) (by rfl) dX3_settle_8 ?_
      refine am_aload_n (x := 9) X (by rfl) dX3_settle_11 ?_
      refine am_get (v := τ 9 9) X 9 fl_X3_50 (by decide) sh_9 (by decide) (rfl) dX3_settle_12 ?_
      refine am_ic X (by decide) dX3_settle_15 ?_
      refine am_sub (v := (τ 9 9 - 1)) X (by first | rfl | omega) (by omega) dX3_settle_16 ?_
      refine am_ald (v := τ 13 (((τ 9 9 - 1)).toNat)) X 13 (((τ 9 9 - 1)).toNat) sh_13 (by omega) (by omega) (rfl) dX3_settle_17 ?_
      refine am_callSi X hY lk_X3_107 mf_X3_rankOf (m_X3_rankOf (τ 13 (((τ 9 9 - 1)).toNat)) _ τ) (by decide) (by decide) (Nat.le_refl _) (Nat.le_refl _) rfl rfl (Nat.le_of_ble_eq_true rfl) dX3_settle_18 (fun r18 sh18 σ18 hr18 hp18 => ?_)
      obtain ⟨rfl, rfl, hq18⟩ := hp18
      refine am_iload_n (x := r) X (by rfl) dX3_settle_21 ?_
      refine am_icmp_lt (tgt := 82) X dX3_settle_22 (by decide) (fun h22 => ?_) (fun h22 => ?_)
      · skip
        exact hret _ _ _ _ dX3_settle_82 rfl rfl (by refine ⟨rfl, ?_, hfr⟩; rw [he, lx_set_stop (r := r) (by show lx_rank (τ 13 ((τ 9 9 - 1)).toNat) < r; omega)]; exact hs1)
      · skip
        have hpb := lx_rank_in (x := τ 13 ((τ 9 9 - 1)).toNat) (by omega)
        refine am_aload_n (x := 9) X (by rfl) dX3_settle_25 ?_
        refine am_dup X (Nat.ne_of_beq_eq_false rfl) dX3_settle_26 ?_
        refine am_get (v := τ 9 9) X 9 fl_X3_50 (by decide) sh_9 (by decide) (rfl) dX3_settle_27 ?_
        refine am_ic X (by decide) dX3_settle_30 ?_
        refine am_sub (v := (τ 9 9 - 1)) X (by first | rfl | omega) (by omega) dX3_settle_31 ?_
        refine am_puti X 9 fl_X3_50 rfl rfl sh_9 (by decide) dX3_settle_32 ?_
        refine am_aload_n (x := 9) X (by rfl) dX3_settle_35 ?_
        refine am_getr (c1 := 13) X 9 fl_X3_21 (by decide) sh_9 (by decide) (by rfl) dX3_settle_36 ?_
        refine am_aload_n (x := 9) X (by rfl) dX3_settle_39 ?_
        refine am_get (v := (τ 9 9 - 1)) X 9 fl_X3_50 (by decide) sh_9 (by decide) (by simp [am_up]) dX3_settle_40 ?_
        refine am_ald (v := τ 13 (((τ 9 9 - 1)).toNat)) X 13 (((τ 9 9 - 1)).toNat) sh_13 (by omega) (by omega) (by simp [am_up]) dX3_settle_43 ?_
        refine am_callSi X hY lk_X3_107 mf_X3_rankOf (m_X3_rankOf (τ 13 (((τ 9 9 - 1)).toNat)) _ (am_up τ 9 9 (τ 9 9 - 1))) (by decide) (by decide) (Nat.le_refl _) (Nat.le_refl _) rfl rfl (Nat.le_of_ble_eq_true rfl) dX3_settle_44 (fun r44 sh44 σ44 hr44 hp44 => ?_)
        obtain ⟨rfl, rfl, hq44⟩ := hp44
        refine am_bipush X (by decide) dX3_settle_47 ?_
        refine am_icmp_ne (tgt := 62) X dX3_settle_49 (by decide) (fun h49 => ?_) (fun h49 => ?_)
        · skip
          refine am_aload_n (x := 9) X (by rfl) dX3_settle_62 ?_
          refine am_sipush X (by decide) dX3_settle_63 ?_
          refine am_aload_n (x := 9) X (by rfl) dX3_settle_66 ?_
          refine am_getr (c1 := 13) X 9 fl_X3_21 (by decide) sh_9 (by decide) (by rfl) dX3_settle_67 ?_
          refine am_aload_n (x := 9) X (by rfl) dX3_settle_70 ?_
          refine am_get (v := (τ 9 9 - 1)) X 9 fl_X3_50 (by decide) sh_9 (by decide) (by simp [am_up]) dX3_settle_71 ?_
          refine am_ald (v := τ 13 (((τ 9 9 - 1)).toNat)) X 13 (((τ 9 9 - 1)).toNat) sh_13 (by omega) (by omega) (by simp [am_up]) dX3_settle_74 ?_
          refine am_add (v := (20000 + τ 13 (((τ 9 9 - 1)).toNat))) X (by first | rfl | omega) (by omega) dX3_settle_75 ?_
          refine am_callVv (ci := 3) X hY lk_X3_77 mf_X3_emit (m_X3_emit (20000 + τ 13 (((τ 9 9 - 1)).toNat)) (am_up τ 9 9 (τ 9 9 - 1)) (by simp only [am_up]; simp; omega)) (by decide) (by decide) (Nat.le_refl _) (Nat.le_refl _) sh_9 rfl rfl rfl (Nat.le_of_ble_eq_true rfl) dX3_settle_76 (fun sh76 σ76 hp76 => ?_)
          obtain ⟨rfl, rfl, hq76⟩ := hp76
          refine am_goto (tgt := 0) X dX3_settle_79 (by decide) ?_
          exact ih0 _ (by omega) (lw_emit (am_up τ 9 9 (τ 9 9 - 1)) (20000 + τ 13 (((τ 9 9 - 1)).toNat))) ((20000 + τ 13 ((τ 9 9 - 1)).toNat) :: c1) opsx o1 (lx_is_emit (lx_is_pop hs1) _) (by rw [he, lx_set, if_pos (by omega), if_neg (by omega)]) (by show c1.length + 1 + opsx.length ≤ 120; omega) (by omega) (lx_fr_emit (lx_fr_up hfr (by decide))) rfl
        · skip
          refine am_aload_n (x := 9) X (by rfl) dX3_settle_52 ?_
          refine am_dup X (Nat.ne_of_beq_eq_false rfl) dX3_settle_53 ?_
          refine am_get (v := τ 9 10) X 9 fl_X3_53 (by decide) sh_9 (by decide) (by simp [am_up]) dX3_settle_54 ?_
          refine am_ic X (by decide) dX3_settle_57 ?_
          refine am_sub (v := (τ 9 10 - 1)) X (by first | rfl | omega) (by omega) dX3_settle_58 ?_
          refine am_puti X 9 fl_X3_53 rfl rfl sh_9 (by decide) dX3_settle_59 ?_
          refine am_aload_n (x := 9) X (by rfl) dX3_settle_62 ?_
          refine am_sipush X (by decide) dX3_settle_63 ?_
          refine am_aload_n (x := 9) X (by rfl) dX3_settle_66 ?_
          refine am_getr (c1 := 13) X 9 fl_X3_21 (by decide) sh_9 (by decide) (by rfl) dX3_settle_67 ?_
          refine am_aload_n (x := 9) X (by rfl) dX3_settle_70 ?_
          refine am_get (v := (τ 9 9 - 1)) X 9 fl_X3_50 (by decide) sh_9 (by decide) (by simp [am_up]) dX3_settle_71 ?_
          refine am_ald (v := τ 13 (((τ 9 9 - 1)).toNat)) X 13 (((τ 9 9 - 1)).toNat) sh_13 (by omega) (by omega) (by simp [am_up]) dX3_settle_74 ?_
          refine am_add (v := (20000 + τ 13 (((τ 9 9 - 1)).toNat))) X (by first | rfl | omega) (by omega) dX3_settle_75 ?_
          refine am_callVv (ci := 3) X hY lk_X3_77 mf_X3_emit (m_X3_emit (20000 + τ 13 (((τ 9 9 - 1)).toNat)) (am_up (am_up τ 9 9 (τ 9 9 - 1)) 9 10 (τ 9 10 - 1)) (by simp only [am_up]; simp; omega)) (by decide) (by decide) (Nat.le_refl _) (Nat.le_refl _) sh_9 rfl rfl rfl (Nat.le_of_ble_eq_true rfl) dX3_settle_76 (fun sh76 σ76 hp76 => ?_)
          obtain ⟨rfl, rfl, hq76⟩ := hp76
          refine am_goto (tgt := 0) X dX3_settle_79 (by decide) ?_
          exact ih0 _ (by omega) (lw_emit (am_up (am_up τ 9 9 (τ 9 9 - 1)) 9 10 (τ 9 10 - 1)) (20000 + τ 13 (((τ 9 9 - 1)).toNat))) ((20000 + τ 13 ((τ 9 9 - 1)).toNat) :: c1) opsx (o1 - 1) (by have h9 := lx_is_emit (lx_is_f10 (lx_is_pop hs1) (τ 9 10 - 1)) (20000 + τ 13 ((τ 9 9 - 1)).toNat); rw [e10] at h9 ⊢; exact h9) (by rw [he, lx_set, if_pos (by omega), if_pos (by omega)]) (by show c1.length + 1 + opsx.length ≤ 120; omega) (by omega) (lx_fr_emit (lx_fr_up (lx_fr_up hfr (by decide)) (by decide))) rfl
  exact hL0 _ σ c ops o (his) (rfl) (hl) (by omega) (lx_fr_rf σ) rfl

set_option maxHeartbeats 4000000 in
set_option maxRecDepth 100000 in
theorem m_X3_takeNextDigit (d : Int) (c ops : List Int) (o b g due cd : Int) (σ : am_H) (his : lx_is σ (c, ops, o, b, g, due, cd)) (k : Nat) (hok : lx_ok k (c, ops, o, b, g, due, cd)) (hk : k < 120) (hdue : due = 0) (hd : 0 ≤ d ∧ d ≤ 9) : am_Mi yX3_takeNextDigit cX3_takeNextDigit 2 (some .boolean) 0 0 0 [vr 9, vi d] SH σ (fun r sh' σ' => SH = sh' ∧ lx_fr σ σ' ∧ ((r = 0 ∧ g = 0) ∨ (r = 1 ∧ g ≠ 0 ∧ lx_is σ' ((c.headD 0 * 10 + d) :: c.tail, ops, o, b, g - 1, due, cd)))) := by
  refine am_Mz_of (by decide +kernel) (Nat.le_of_ble_eq_true rfl) (fun K X hY hI hret => ?_)
  show am_G K 0 [some (vr 9), some (vi d)] [] SH σ
  have e8 : σ 9 8 = (c.length : Int) := his.1.1
  have e9 : σ 9 9 = (ops.length : Int) := his.2.1.1
  have e10 : σ 9 10 = o := his.2.2.1
  have e11 : σ 9 11 = b := his.2.2.2.1
  have e12 : σ 9 12 = g := his.2.2.2.2.1
  have e13 : σ 9 13 = due := his.2.2.2.2.2.1
  have e14 : σ 9 14 = cd := his.2.2.2.2.2.2
  obtain ⟨⟨k1, k2, k3⟩, k4, k5, k6, k7, k8, k9⟩ := hok
  have kbd := lx_cnt_bd ops
  refine am_aload_n (x := 9) X (by rfl) dX3_takeNextDigit_0 ?_
  refine am_get (v := σ 9 12) X 9 fl_X3_94 (by decide) sh_9 (by decide) (rfl) dX3_takeNextDigit_1 ?_
  refine am_if_le (tgt := 14) X dX3_takeNextDigit_4 (by decide) (fun h4 => ?_) (fun h4 => ?_)
  · skip
    refine am_ic X (by decide) dX3_takeNextDigit_14 ?_
    exact hret _ _ _ _ _ dX3_takeNextDigit_15 rfl rfl (⟨rfl, lx_fr_rf σ, Or.inl ⟨rfl, by omega⟩⟩) (by first | exact Or.inl rfl | exact Or.inr rfl | omega)
  · skip
    have k8 := k8 hdue (by omega)
    have k80 : 0 < c.length := k8.1
    refine am_aload_n (x := 9) X (by rfl) dX3_takeNextDigit_7 ?_
    refine am_get (v := σ 9 8) X 9 fl_X3_41 (by decide) sh_9 (by decide) (rfl) dX3_takeNextDigit_8 ?_
    refine am_if_gt (tgt := 16) X dX3_takeNextDigit_11 (by decide) (fun h11 => ?_) (fun h11 => ?_)
    · skip
      obtain ⟨cx, hcx⟩ := lx_is_code his (by omega)
      subst hcx
      have k82 : 0 ≤ σ 12 (σ 9 8 - 1).toNat := k8.2.1
      have k83 : g = 3 → σ 12 (σ 9 8 - 1).toNat ≤ 9 := k8.2.2.1
      have k84 : g = 2 → σ 12 (σ 9 8 - 1).toNat ≤ 99 := k8.2.2.2.1
      have k85 : g = 1 → σ 12 (σ 9 8 - 1).toNat ≤ 999 := k8.2.2.2.2
      have hlc : (σ 12 (σ 9 8 - 1).toNat :: cx).length = cx.length + 1 := rfl
      refine am_aload_n (x := 9) X (by rfl) dX3_takeNextDigit_16 ?_
      refine am_dup X (Nat.ne_of_beq_eq_false rfl) dX3_takeNextDigit_17 ?_
      refine am_get (v := σ 9 12) X 9 fl_X3_94 (by decide) sh_9 (by decide) (rfl) dX3_takeNextDigit_18 ?_
      refine am_ic X (by decide) dX3_takeNextDigit_21 ?_
      refine am_sub (v := (σ 9 12 - 1)) X (by first | rfl | omega) (by omega) dX3_takeNextDigit_22 ?_
      refine am_puti X 9 fl_X3_94 rfl rfl sh_9 (by decide) dX3_takeNextDigit_23 ?_
      refine am_aload_n (x := 9) X (by rfl) dX3_takeNextDigit_26 ?_
      refine am_getr (c1 := 12) X 9 fl_X3_18 (by decide) sh_9 (by decide) (by rfl) dX3_takeNextDigit_27 ?_
      refine am_aload_n (x := 9) X (by rfl) dX3_takeNextDigit_30 ?_
      refine am_get (v := σ 9 8) X 9 fl_X3_41 (by decide) sh_9 (by decide) (by simp [am_up]) dX3_takeNextDigit_31 ?_
      refine am_ic X (by decide) dX3_takeNextDigit_34 ?_
      refine am_sub (v := (σ 9 8 - 1)) X (by first | rfl | omega) (by omega) dX3_takeNextDigit_35 ?_
      refine am_aload_n (x := 9) X (by rfl) dX3_takeNextDigit_36 ?_
      refine am_getr (c1 := 12) X 9 fl_X3_18 (by decide) sh_9 (by decide) (by rfl) dX3_takeNextDigit_37 ?_
      refine am_aload_n (x := 9) X (by rfl) dX3_takeNextDigit_40 ?_
      refine am_get (v := σ 9 8) X 9 fl_X3_41 (by decide) sh_9 (by decide) (by simp [am_up]) dX3_takeNextDigit_41 ?_
      refine am_ic X (by decide) dX3_takeNextDigit_44 ?_
      refine am_sub (v := (σ 9 8 - 1)) X (by first | rfl | omega) (by omega) dX3_takeNextDigit_45 ?_
      refine am_ald (v := σ 12 (((σ 9 8 - 1)).toNat)) X 12 (((σ 9 8 - 1)).toNat) sh_12 (by omega) (by omega) (by simp [am_up]) dX3_takeNextDigit_46 ?_
      refine am_bipush X (by decide) dX3_takeNextDigit_47 ?_
      refine am_mul (v := (σ 12 (((σ 9 8 - 1)).toNat) * 10)) X (by first | rfl | omega) (by omega) dX3_takeNextDigit_49 ?_
      refine am_iload_n (x := d) X (by rfl) dX3_takeNextDigit_50 ?_
      refine am_add (v := ((σ 12 (((σ 9 8 - 1)).toNat) * 10) + d)) X (by first | rfl | omega) (by omega) dX3_takeNextDigit_51 ?_
      refine am_ast X 12 (((σ 9 8 - 1)).toNat) sh_12 (by omega) (by omega) dX3_takeNextDigit_52 ?_
      refine am_ic X (by decide) dX3_takeNextDigit_53 ?_
      exact hret _ _ _ _ _ dX3_takeNextDigit_54 rfl rfl (⟨rfl, lx_fr_up (lx_fr_up (lx_fr_rf σ) (by decide)) (Or.inl rfl), Or.inr ⟨rfl, by omega, by have h9 := lx_is_last (lx_is_f12 his (σ 9 12 - 1)) (σ 12 (σ 9 8 - 1).toNat * 10 + d); rw [e12] at h9 ⊢; rw [show am_up σ 9 12 (g - 1) 9 8 = σ 9 8 from am_up_k (by decide)] at h9; exact h9⟩⟩) (by first | exact Or.inl rfl | exact Or.inr rfl | omega)
    · skip
      (exfalso; omega)

set_option maxHeartbeats 4000000 in
set_option maxRecDepth 100000 in
theorem m_X3_takeBracketsEnd (c ops : List Int) (o b g due cd : Int) (σ : am_H) (his : lx_is σ (c, ops, o, b, g, due, cd)) (k : Nat) (hok : lx_ok k (c, ops, o, b, g, due, cd)) (hk : k < 120) (hdue : due = 0) : am_Mi yX3_takeBracketsEnd cX3_takeBracketsEnd 1 (some .boolean) 2 0 0 [vr 9] SH σ (fun r sh' σ' => SH = sh' ∧ lx_fr σ σ' ∧ ((r = 0 ∧ b = 0) ∨ (r = 1 ∧ b ≠ 0 ∧ lx_is σ' ((lx_set 1 c ops o).1, (lx_set 1 c ops o).2.1.tail, (lx_set 1 c ops o).2.2 - 1, b - 1, 0, due, cd)))) := by
  refine am_Mz_of (by decide +kernel) (Nat.le_of_ble_eq_true rfl) (fun K X hY hI hret => ?_)
  show am_G K 0 [some (vr 9)] [] SH σ
  have e8 : σ 9 8 = (c.length : Int) := his.1.1
  have e9 : σ 9 9 = (ops.length : Int) := his.2.1.1
  have e10 : σ 9 10 = o := his.2.2.1
  have e11 : σ 9 11 = b := his.2.2.2.1
  have e12 : σ 9 12 = g := his.2.2.2.2.1
  have e13 : σ 9 13 = due := his.2.2.2.2.2.1
  have e14 : σ 9 14 = cd := his.2.2.2.2.2.2
  obtain ⟨⟨k1, k2, k3⟩, k4, k5, k6, k7, k8, k9⟩ := hok
  have kbd := lx_cnt_bd ops
  refine am_aload_n (x := 9) X (by rfl) dX3_takeBracketsEnd_0 ?_
  refine am_get (v := σ 9 11) X 9 fl_X3_56 (by decide) sh_9 (by decide) (rfl) dX3_takeBracketsEnd_1 ?_
  refine am_if_ne (tgt := 9) X dX3_takeBracketsEnd_4 (by decide) (fun h4 => ?_) (fun h4 => ?_)
  · skip
    refine am_aload_n (x := 9) X (by rfl) dX3_takeBracketsEnd_9 ?_
    refine am_ic X (by decide) dX3_takeBracketsEnd_10 ?_
    refine am_callVv (ci := 3) X hY lk_X3_73 mf_X3_settle (m_X3_settle 1 c ops o b g due cd (by omega) σ his (by omega) (by omega)) (by decide) (by decide) (Nat.le_refl _) (Nat.le_refl _) sh_9 rfl rfl rfl (Nat.le_of_ble_eq_true rfl) dX3_takeBracketsEnd_11 (fun sh11 σ11 hp11 => ?_)
    obtain ⟨rfl, hq11, hf11⟩ := hp11
    obtain ⟨j1, j2, j3, j4, j5⟩ := lx_set_ok (Int.le_refl 1) ops c o k3
    obtain ⟨ps, hps⟩ := lx_cb_hd (by omega) j5 j3
    have jc := lx_cnt_bd (lx_set 1 c ops o).2.1
    generalize (lx_set 1 c ops o).1 = c2 at *
    generalize (lx_set 1 c ops o).2.2 = o2 at *
    generalize (lx_set 1 c ops o).2.1 = ops2 at *
    subst hps
    have hlc : (40 :: ps).length = ps.length + 1 := rfl
    have e8a : σ11 9 8 = (c2.length : Int) := hq11.1.1
    have e9a : σ11 9 9 = ((40 :: ps).length : Int) := hq11.2.1.1
    have e10a : σ11 9 10 = o2 := hq11.2.2.1
    have e11a : σ11 9 11 = b := hq11.2.2.2.1
    have e12a : σ11 9 12 = g := hq11.2.2.2.2.1
    have e13a : σ11 9 13 = due := hq11.2.2.2.2.2.1
    have e14a : σ11 9 14 = cd := hq11.2.2.2.2.2.2
    refine am_aload_n (x := 9) X (by rfl) dX3_takeBracketsEnd_14 ?_
    refine am_dup X (Nat.ne_of_beq_eq_false rfl) dX3_takeBracketsEnd_15 ?_
    refine am_get (v := σ11 9 9) X 9 fl_X3_50 (by decide) sh_9 (by decide) (rfl) dX3_takeBracketsEnd_16 ?_
    refine am_ic X (by decide) dX3_takeBracketsEnd_19 ?_
    refine am_sub (v := (σ11 9 9 - 1)) X (by first | rfl | omega) (by omega) dX3_takeBracketsEnd_20 ?_
    refine am_puti X 9 fl_X3_50 rfl rfl sh_9 (by decide) dX3_takeBracketsEnd_21 ?_
    refine am_aload_n (x := 9) X (by rfl) dX3_takeBracketsEnd_24 ?_
    refine am_dup X (Nat.ne_of_beq_eq_false rfl) dX3_takeBracketsEnd_25 ?_
    refine am_get (v := σ11 9 10) X 9 fl_X3_53 (by decide) sh_9 (by decide) (by simp [am_up]) dX3_takeBracketsEnd_26 ?_
    refine am_ic X (by decide) dX3_takeBracketsEnd_29 ?_
    refine am_sub (v := (σ11 9 10 - 1)) X (by first | rfl | omega) (by omega) dX3_takeBracketsEnd_30 ?_
    refine am_puti X 9 fl_X3_53 rfl rfl sh_9 (by decide) dX3_takeBracketsEnd_31 ?_
    refine am_aload_n (x := 9) X (by rfl) dX3_takeBracketsEnd_34 ?_
    refine am_dup X (Nat.ne_of_beq_eq_false rfl) dX3_takeBracketsEnd_35 ?_
    refine am_get (v := σ11 9 11) X 9 fl_X3_56 (by decide) sh_9 (by decide) (by simp [am_up]) dX3_takeBracketsEnd_36 ?_
    refine am_ic X (by decide) dX3_takeBracketsEnd_39 ?_
    refine am_sub (v := (σ11 9 11 - 1)) X (by first | rfl | omega) (by omega) dX3_takeBracketsEnd_40 ?_
    refine am_puti X 9 fl_X3_56 rfl rfl sh_9 (by decide) dX3_takeBracketsEnd_41 ?_
    refine am_aload_n (x := 9) X (by rfl) dX3_takeBracketsEnd_44 ?_
    refine am_ic X (by decide) dX3_takeBracketsEnd_45 ?_
    refine am_puti X 9 fl_X3_94 rfl rfl sh_9 (by decide) dX3_takeBracketsEnd_46 ?_
    refine am_ic X (by decide) dX3_takeBracketsEnd_49 ?_
    exact hret _ _ _ _ _ dX3_takeBracketsEnd_50 rfl rfl (⟨rfl, lx_fr_up (lx_fr_up (lx_fr_up (lx_fr_up hf11 (by decide)) (by decide)) (by decide)) (by decide), Or.inr ⟨rfl, by omega, by have h9 := lx_is_f12 (lx_is_f11 (lx_is_f10 (lx_is_pop hq11) (σ11 9 10 - 1)) (σ11 9 11 - 1)) 0; rw [e10a, e11a] at h9 ⊢; exact h9⟩⟩) (by first | exact Or.inl rfl | exact Or.inr rfl | omega)
  · skip
    refine am_ic X (by decide) dX3_takeBracketsEnd_7 ?_
    exact hret _ _ _ _ _ dX3_takeBracketsEnd_8 rfl rfl (⟨rfl, lx_fr_rf σ, Or.inl ⟨rfl, by omega⟩⟩) (by first | exact Or.inl rfl | exact Or.inr rfl | omega)

set_option maxHeartbeats 4000000 in
set_option maxRecDepth 100000 in
theorem m_X3_takeExpressionsEnd (x : Int) (c ops : List Int) (o b g due cd : Int) (σ : am_H) (his : lx_is σ (c, ops, o, b, g, due, cd)) (k : Nat) (hok : lx_ok k (c, ops, o, b, g, due, cd)) (hk : k < 120) (hdue : due = 0) (hx : x = 59 ∨ x = 63) : am_Mi yX3_takeExpressionsEnd cX3_takeExpressionsEnd 2 (some .boolean) 2 0 0 [vr 9, vi x] SH σ (fun r sh' σ' => SH = sh' ∧ lx_fr σ σ' ∧ ((r = 0 ∧ (0 < b ∨ (x = 63 ∧ cd ≠ 0))) ∨ (r = 1 ∧ ¬ (0 < b ∨ (x = 63 ∧ cd ≠ 0)) ∧ lx_is σ' ((20000 + x) :: (lx_set 1 c ops o).1, (lx_set 1 c ops o).2.1, (lx_set 1 c ops o).2.2, b, g, 1, (if x = 63 then 1 else 0))))) := by
  refine am_Mz_of (by decide +kernel) (Nat.le_of_ble_eq_true rfl) (fun K X hY hI hret => ?_)
  show am_G K 0 [some (vr 9), some (vi x)] [] SH σ
  have e8 : σ 9 8 = (c.length : Int) := his.1.1
  have e9 : σ 9 9 = (ops.length : Int) := his.2.1.1
  have e10 : σ 9 10 = o := his.2.2.1
  have e11 : σ 9 11 = b := his.2.2.2.1
  have e12 : σ 9 12 = g := his.2.2.2.2.1
  have e13 : σ 9 13 = due := his.2.2.2.2.2.1
  have e14 : σ 9 14 = cd := his.2.2.2.2.2.2
  obtain ⟨⟨k1, k2, k3⟩, k4, k5, k6, k7, k8, k9⟩ := hok
  have kbd := lx_cnt_bd ops
  refine am_aload_n (x := 9) X (by rfl) dX3_takeExpressionsEnd_0 ?_
  refine am_get (v := σ 9 11) X 9 fl_X3_56 (by decide) sh_9 (by decide) (rfl) dX3_takeExpressionsEnd_1 ?_
  refine am_if_gt (tgt := 20) X dX3_takeExpressionsEnd_4 (by decide) (fun h4 => ?_) (fun h4 => ?_)
  · skip
    refine am_ic X (by decide) dX3_takeExpressionsEnd_20 ?_
    exact hret _ _ _ _ _ dX3_takeExpressionsEnd_21 rfl rfl (⟨rfl, lx_fr_rf σ, Or.inl ⟨rfl, by omega⟩⟩) (by first | exact Or.inl rfl | exact Or.inr rfl | omega)
  · skip
    refine am_iload_n (x := x) X (by rfl) dX3_takeExpressionsEnd_7 ?_
    refine am_bipush X (by decide) dX3_takeExpressionsEnd_8 ?_
    refine am_icmp_ne (tgt := 22) X dX3_takeExpressionsEnd_10 (by decide) (fun h10 => ?_) (fun h10 => ?_)
    · skip
      refine am_aload_n (x := 9) X (by rfl) dX3_takeExpressionsEnd_22 ?_
      refine am_ic X (by decide) dX3_takeExpressionsEnd_23 ?_
      refine am_callVv (ci := 3) X hY lk_X3_73 mf_X3_settle (m_X3_settle 1 c ops o b g due cd (by omega) σ his (by omega) (by omega)) (by decide) (by decide) (Nat.le_refl _) (Nat.le_refl _) sh_9 rfl rfl rfl (Nat.le_of_ble_eq_true rfl) dX3_takeExpressionsEnd_24 (fun sh24 σ24 hp24 => ?_)
      obtain ⟨rfl, hq24, hf24⟩ := hp24
      obtain ⟨j1, j2, j3, j4, j5⟩ := lx_set_ok (Int.le_refl 1) ops c o k3
      generalize (lx_set 1 c ops o).1 = c2 at *
      generalize (lx_set 1 c ops o).2.2 = o2 at *
      generalize (lx_set 1 c ops o).2.1 = ops2 at *
      have e8a : σ24 9 8 = (c2.length : Int) := hq24.1.1
      have e9a : σ24 9 9 = (ops2.length : Int) := hq24.2.1.1
      have e10a : σ24 9 10 = o2 := hq24.2.2.1
      have e11a : σ24 9 11 = b := hq24.2.2.2.1
      have e12a : σ24 9 12 = g := hq24.2.2.2.2.1
      have e13a : σ24 9 13 = due := hq24.2.2.2.2.2.1
      have e14a : σ24 9 14 = cd := hq24.2.2.2.2.2.2
      refine am_aload_n (x := 9) X (by rfl) dX3_takeExpressionsEnd_27 ?_
      refine am_sipush X (by decide) dX3_takeExpressionsEnd_28 ?_
      refine am_iload_n (x := x) X (by rfl) dX3_takeExpressionsEnd_31 ?_
      refine am_add (v := (20000 + x)) X (by first | rfl | omega) (by omega) dX3_takeExpressionsEnd_32 ?_
      refine am_callVv (ci := 3) X hY lk_X3_77 mf_X3_emit (m_X3_emit (20000 + x) σ24 (by omega)) (by decide) (by decide) (Nat.le_refl _) (Nat.le_refl _) sh_9 rfl rfl rfl (Nat.le_of_ble_eq_true rfl) dX3_takeExpressionsEnd_33 (fun sh33 σ33 hp33 => ?_)
      obtain ⟨rfl, rfl, hq33⟩ := hp33
      refine am_aload_n (x := 9) X (by rfl) dX3_takeExpressionsEnd_36 ?_
      refine am_iload_n (x := x) X (by rfl) dX3_takeExpressionsEnd_37 ?_
      refine am_bipush X (by decide) dX3_takeExpressionsEnd_38 ?_
      refine am_icmp_ne (tgt := 47) X dX3_takeExpressionsEnd_40 (by decide) (fun h40 => ?_) (fun h40 => ?_)
      · skip
        refine am_ic X (by decide) dX3_takeExpressionsEnd_47 ?_
        refine am_putz X 9 fl_X3_63 rfl rfl sh_9 (by decide) (by first | exact Or.inl rfl | exact Or.inr rfl | omega) dX3_takeExpressionsEnd_48 ?_
        refine am_aload_n (x := 9) X (by rfl) dX3_takeExpressionsEnd_51 ?_
        refine am_ic X (by decide) dX3_takeExpressionsEnd_52 ?_
        refine am_putz X 9 fl_X3_59 rfl rfl sh_9 (by decide) (by first | exact Or.inl rfl | exact Or.inr rfl | omega) dX3_takeExpressionsEnd_53 ?_
        refine am_ic X (by decide) dX3_takeExpressionsEnd_56 ?_
        exact hret _ _ _ _ _ dX3_takeExpressionsEnd_57 rfl rfl (⟨rfl, lx_fr_up (lx_fr_up (lx_fr_emit hf24) (by decide)) (by decide), Or.inr ⟨rfl, by omega, by rw [if_neg (by omega)]; exact lx_is_f13 (lx_is_f14 (lx_is_emit hq24 _) 0) 1⟩⟩) (by first | exact Or.inl rfl | exact Or.inr rfl | omega)
      · skip
        refine am_ic X (by decide) dX3_takeExpressionsEnd_43 ?_
        refine am_goto (tgt := 48) X dX3_takeExpressionsEnd_44 (by decide) ?_
        refine am_putz X 9 fl_X3_63 rfl rfl sh_9 (by decide) (by first | exact Or.inl rfl | exact Or.inr rfl | omega) dX3_takeExpressionsEnd_48 ?_
        refine am_aload_n (x := 9) X (by rfl) dX3_takeExpressionsEnd_51 ?_
        refine am_ic X (by decide) dX3_takeExpressionsEnd_52 ?_
        refine am_putz X 9 fl_X3_59 rfl rfl sh_9 (by decide) (by first | exact Or.inl rfl | exact Or.inr rfl | omega) dX3_takeExpressionsEnd_53 ?_
        refine am_ic X (by decide) dX3_takeExpressionsEnd_56 ?_
        exact hret _ _ _ _ _ dX3_takeExpressionsEnd_57 rfl rfl (⟨rfl, lx_fr_up (lx_fr_up (lx_fr_emit hf24) (by decide)) (by decide), Or.inr ⟨rfl, by omega, by rw [if_pos (by omega)]; exact lx_is_f13 (lx_is_f14 (lx_is_emit hq24 _) 1) 1⟩⟩) (by first | exact Or.inl rfl | exact Or.inr rfl | omega)
    · skip
      refine am_aload_n (x := 9) X (by rfl) dX3_takeExpressionsEnd_13 ?_
      refine am_get (v := σ 9 14) X 9 fl_X3_63 (by decide) sh_9 (by decide) (rfl) dX3_takeExpressionsEnd_14 ?_
      refine am_if_eq (tgt := 22) X dX3_takeExpressionsEnd_17 (by decide) (fun h17 => ?_) (fun h17 => ?_)
      · skip
        refine am_aload_n (x := 9) X (by rfl) dX3_takeExpressionsEnd_22 ?_
        refine am_ic X (by decide) dX3_takeExpressionsEnd_23 ?_
        refine am_callVv (ci := 3) X hY lk_X3_73 mf_X3_settle (m_X3_settle 1 c ops o b g due cd (by omega) σ his (by omega) (by omega)) (by decide) (by decide) (Nat.le_refl _) (Nat.le_refl _) sh_9 rfl rfl rfl (Nat.le_of_ble_eq_true rfl) dX3_takeExpressionsEnd_24 (fun sh24 σ24 hp24 => ?_)
        obtain ⟨rfl, hq24, hf24⟩ := hp24
        obtain ⟨j1, j2, j3, j4, j5⟩ := lx_set_ok (Int.le_refl 1) ops c o k3
        generalize (lx_set 1 c ops o).1 = c2 at *
        generalize (lx_set 1 c ops o).2.2 = o2 at *
        generalize (lx_set 1 c ops o).2.1 = ops2 at *
        have e8a : σ24 9 8 = (c2.length : Int) := hq24.1.1
        have e9a : σ24 9 9 = (ops2.length : Int) := hq24.2.1.1
        have e10a : σ24 9 10 = o2 := hq24.2.2.1
        have e11a : σ24 9 11 = b := hq24.2.2.2.1
        have e12a : σ24 9 12 = g := hq24.2.2.2.2.1
        have e13a : σ24 9 13 = due := hq24.2.2.2.2.2.1
        have e14a : σ24 9 14 = cd := hq24.2.2.2.2.2.2
        refine am_aload_n (x := 9) X (by rfl) dX3_takeExpressionsEnd_27 ?_
        refine am_sipush X (by decide) dX3_takeExpressionsEnd_28 ?_
        refine am_iload_n (x := x) X (by rfl) dX3_takeExpressionsEnd_31 ?_
        refine am_add (v := (20000 + x)) X (by first | rfl | omega) (by omega) dX3_takeExpressionsEnd_32 ?_
        refine am_callVv (ci := 3) X hY lk_X3_77 mf_X3_emit (m_X3_emit (20000 + x) σ24 (by omega)) (by decide) (by decide) (Nat.le_refl _) (Nat.le_refl _) sh_9 rfl rfl rfl (Nat.le_of_ble_eq_true rfl) dX3_takeExpressionsEnd_33 (fun sh33 σ33 hp33 => ?_)
        obtain ⟨rfl, rfl, hq33⟩ := hp33
        refine am_aload_n (x := 9) X (by rfl) dX3_takeExpressionsEnd_36 ?_
        refine am_iload_n (x := x) X (by rfl) dX3_takeExpressionsEnd_37 ?_
        refine am_bipush X (by decide) dX3_takeExpressionsEnd_38 ?_
        refine am_icmp_ne (tgt := 47) X dX3_takeExpressionsEnd_40 (by decide) (fun h40 => ?_) (fun h40 => ?_)
        · skip
          refine am_ic X (by decide) dX3_takeExpressionsEnd_47 ?_
          refine am_putz X 9 fl_X3_63 rfl rfl sh_9 (by decide) (by first | exact Or.inl rfl | exact Or.inr rfl | omega) dX3_takeExpressionsEnd_48 ?_
          refine am_aload_n (x := 9) X (by rfl) dX3_takeExpressionsEnd_51 ?_
          refine am_ic X (by decide) dX3_takeExpressionsEnd_52 ?_
          refine am_putz X 9 fl_X3_59 rfl rfl sh_9 (by decide) (by first | exact Or.inl rfl | exact Or.inr rfl | omega) dX3_takeExpressionsEnd_53 ?_
          refine am_ic X (by decide) dX3_takeExpressionsEnd_56 ?_
          exact hret _ _ _ _ _ dX3_takeExpressionsEnd_57 rfl rfl (⟨rfl, lx_fr_up (lx_fr_up (lx_fr_emit hf24) (by decide)) (by decide), Or.inr ⟨rfl, by omega, by rw [if_neg (by omega)]; exact lx_is_f13 (lx_is_f14 (lx_is_emit hq24 _) 0) 1⟩⟩) (by first | exact Or.inl rfl | exact Or.inr rfl | omega)
        · skip
          refine am_ic X (by decide) dX3_takeExpressionsEnd_43 ?_
          refine am_goto (tgt := 48) X dX3_takeExpressionsEnd_44 (by decide) ?_
          refine am_putz X 9 fl_X3_63 rfl rfl sh_9 (by decide) (by first | exact Or.inl rfl | exact Or.inr rfl | omega) dX3_takeExpressionsEnd_48 ?_
          refine am_aload_n (x := 9) X (by rfl) dX3_takeExpressionsEnd_51 ?_
          refine am_ic X (by decide) dX3_takeExpressionsEnd_52 ?_
          refine am_putz X 9 fl_X3_59 rfl rfl sh_9 (by decide) (by first | exact Or.inl rfl | exact Or.inr rfl | omega) dX3_takeExpressionsEnd_53 ?_
          refine am_ic X (by decide) dX3_takeExpressionsEnd_56 ?_
          exact hret _ _ _ _ _ dX3_takeExpressionsEnd_57 rfl rfl (⟨rfl, lx_fr_up (lx_fr_up (lx_fr_emit hf24) (by decide)) (by decide), Or.inr ⟨rfl, by omega, by rw [if_pos (by omega)]; exact lx_is_f13 (lx_is_f14 (lx_is_emit hq24 _) 1) 1⟩⟩) (by first | exact Or.inl rfl | exact Or.inr rfl | omega)
      · skip
        refine am_ic X (by decide) dX3_takeExpressionsEnd_20 ?_
        exact hret _ _ _ _ _ dX3_takeExpressionsEnd_21 rfl rfl (⟨rfl, lx_fr_rf σ, Or.inl ⟨rfl, by omega⟩⟩) (by first | exact Or.inl rfl | exact Or.inr rfl | omega)

set_option maxHeartbeats 4000000 in
set_option maxRecDepth 100000 in
theorem m_X3_takeForOperand (x : Int) (c ops : List Int) (o b g due cd : Int) (σ : am_H) (his : lx_is σ (c, ops, o, b, g, due, cd)) (k : Nat) (hok : lx_ok k (c, ops, o, b, g, due, cd)) (hk : k < 120) (hdue : due = 1) : am_Mi yX3_takeForOperand cX3_takeForOperand 3 (some .boolean) 2 0 0 [vr 9, vi x] SH σ (fun r sh' σ' => SH = sh' ∧ lx_fr σ σ' ∧ ((r = 0 ∧ lx_step (c, ops, o, b, g, due, cd) x = none) ∨ (r = 1 ∧ ∃ S', lx_step (c, ops, o, b, g, due, cd) x = some S' ∧ lx_is σ' S'))) := by
  refine am_Mz_of (by decide +kernel) (Nat.le_of_ble_eq_true rfl) (fun K X hY hI hret => ?_)
  show am_G K 0 [some (vr 9), some (vi x), none] [] SH σ
  have e8 : σ 9 8 = (c.length : Int) := his.1.1
  have e9 : σ 9 9 = (ops.length : Int) := his.2.1.1
  have e10 : σ 9 10 = o := his.2.2.1
  have e11 : σ 9 11 = b := his.2.2.2.1
  have e12 : σ 9 12 = g := his.2.2.2.2.1
  have e13 : σ 9 13 = due := his.2.2.2.2.2.1
  have e14 : σ 9 14 = cd := his.2.2.2.2.2.2
  obtain ⟨⟨k1, k2, k3⟩, k4, k5, k6, k7, k8, k9⟩ := hok
  have kbd := lx_cnt_bd ops
  refine am_iload_n (x := x) X (by rfl) dX3_takeForOperand_0 ?_
  refine am_callSi X hY lk_X3_80 mf_X3_isDigit (m_X3_isDigit x _ σ) (by decide) (by decide) (Nat.le_refl _) (Nat.le_refl _) rfl rfl (Nat.le_of_ble_eq_true rfl) dX3_takeForOperand_1 (fun r1 sh1 σ1 hr1 hp1 => ?_)
  obtain ⟨rfl, rfl, hq1⟩ := hp1
  refine am_if_eq (tgt := 18) X dX3_takeForOperand_4 (by decide) (fun h4 => ?_) (fun h4 => ?_)
  · skip
    have hdg := am_b0 hq1 (by omega)
    refine am_iload_n (x := x) X (by rfl) dX3_takeForOperand_18 ?_
    refine am_callSi X hY lk_X3_87 mf_X3_nameOf (m_X3_nameOf x _ σ) (by decide) (by decide) (Nat.le_refl _) (Nat.le_refl _) rfl rfl (Nat.le_of_ble_eq_true rfl) dX3_takeForOperand_19 (fun r19 sh19 σ19 hr19 hp19 => ?_)
    obtain ⟨rfl, rfl, hq19⟩ := hp19
    have hnb := lx_name_bd x
    refine am_istore_n (i := 2) (L' := [some (vr 9), some (vi x), some (vi r19)]) X rfl (Nat.le_of_ble_eq_true rfl) (by rfl) dX3_takeForOperand_22 ?_
    refine am_iload_n (x := r19) X (by rfl) dX3_takeForOperand_23 ?_
    refine am_if_lt (tgt := 39) X dX3_takeForOperand_24 (by decide) (fun h24 => ?_) (fun h24 => ?_)
    · skip
      refine am_iload_n (x := x) X (by rfl) dX3_takeForOperand_39 ?_
      refine am_bipush X (by decide) dX3_takeForOperand_40 ?_
      refine am_icmp_eq (tgt := 57) X dX3_takeForOperand_42 (by decide) (fun h42 => ?_) (fun h42 => ?_)
      · skip
        refine am_aload_n (x := 9) X (by rfl) dX3_takeForOperand_57 ?_
        refine am_get (v := σ 9 10) X 9 fl_X3_53 (by decide) sh_9 (by decide) (rfl) dX3_takeForOperand_58 ?_
        refine am_bipush X (by decide) dX3_takeForOperand_61 ?_
        refine am_icmp_lt (tgt := 68) X dX3_takeForOperand_63 (by decide) (fun h63 => ?_) (fun h63 => ?_)
        · skip
          refine am_aload_n (x := 9) X (by rfl) dX3_takeForOperand_68 ?_
          refine am_dup X (Nat.ne_of_beq_eq_false rfl) dX3_takeForOperand_69 ?_
          refine am_get (v := σ 9 10) X 9 fl_X3_53 (by decide) sh_9 (by decide) (rfl) dX3_takeForOperand_70 ?_
          refine am_ic X (by decide) dX3_takeForOperand_73 ?_
          refine am_add (v := (σ 9 10 + 1)) X (by first | rfl | omega) (by omega) dX3_takeForOperand_74 ?_
          refine am_puti X 9 fl_X3_53 rfl rfl sh_9 (by decide) dX3_takeForOperand_75 ?_
          refine am_iload_n (x := x) X (by rfl) dX3_takeForOperand_78 ?_
          refine am_bipush X (by decide) dX3_takeForOperand_79 ?_
          refine am_icmp_ne (tgt := 94) X dX3_takeForOperand_81 (by decide) (fun h81 => ?_) (fun h81 => ?_)
          · skip
            refine am_aload_n (x := 9) X (by rfl) dX3_takeForOperand_94 ?_
            refine am_iload_n (x := x) X (by rfl) dX3_takeForOperand_95 ?_
            refine am_bipush X (by decide) dX3_takeForOperand_96 ?_
            refine am_icmp_ne (tgt := 106) X dX3_takeForOperand_98 (by decide) (fun h98 => ?_) (fun h98 => ?_)
            · skip
              refine am_iload_n (x := x) X (by rfl) dX3_takeForOperand_106 ?_
              refine am_callVv (ci := 3) X hY lk_X3_91 mf_X3_push (m_X3_push x (am_up σ 9 10 (σ 9 10 + 1)) (by simp only [am_up]; simp; omega)) (by decide) (by decide) (Nat.le_refl _) (Nat.le_refl _) sh_9 rfl rfl rfl (Nat.le_of_ble_eq_true rfl) dX3_takeForOperand_107 (fun sh107 σ107 hp107 => ?_)
              obtain ⟨rfl, rfl, hq107⟩ := hp107
              refine am_ic X (by decide) dX3_takeForOperand_110 ?_
              exact hret _ _ _ _ _ dX3_takeForOperand_111 rfl rfl (⟨rfl, lx_fr_push (lx_fr_up (lx_fr_rf σ) (by decide)), Or.inr ⟨rfl, (c, x :: ops, o + 1, b, g, due, cd), by rw [lx_step, if_pos (by omega), if_neg hdg, if_neg (by omega), if_neg (by omega), if_neg (by omega), if_neg (by omega)], by have h9 := lx_is_push (lx_is_f10 his (σ 9 10 + 1)) x; rw [e10] at h9 ⊢; exact h9⟩⟩) (by first | exact Or.inl rfl | exact Or.inr rfl)
            · skip
              refine am_bipush X (by decide) dX3_takeForOperand_101 ?_
              refine am_goto (tgt := 107) X dX3_takeForOperand_103 (by decide) ?_
              refine am_callVv (ci := 3) X hY lk_X3_91 mf_X3_push (m_X3_push 126 (am_up σ 9 10 (σ 9 10 + 1)) (by simp only [am_up]; simp; omega)) (by decide) (by decide) (Nat.le_refl _) (Nat.le_refl _) sh_9 rfl rfl rfl (Nat.le_of_ble_eq_true rfl) dX3_takeForOperand_107 (fun sh107 σ107 hp107 => ?_)
              obtain ⟨rfl, rfl, hq107⟩ := hp107
              refine am_ic X (by decide) dX3_takeForOperand_110 ?_
              exact hret _ _ _ _ _ dX3_takeForOperand_111 rfl rfl (⟨rfl, lx_fr_push (lx_fr_up (lx_fr_rf σ) (by decide)), Or.inr ⟨rfl, (c, 126 :: ops, o + 1, b, g, due, cd), by rw [lx_step, if_pos (by omega), if_neg hdg, if_neg (by omega), if_neg (by omega), if_pos (by omega), if_neg (by omega)], by have h9 := lx_is_push (lx_is_f10 his (σ 9 10 + 1)) 126; rw [e10] at h9 ⊢; exact h9⟩⟩) (by first | exact Or.inl rfl | exact Or.inr rfl)
          · skip
            refine am_aload_n (x := 9) X (by rfl) dX3_takeForOperand_84 ?_
            refine am_dup X (Nat.ne_of_beq_eq_false rfl) dX3_takeForOperand_85 ?_
            refine am_get (v := σ 9 11) X 9 fl_X3_56 (by decide) sh_9 (by decide) (by simp [am_up]) dX3_takeForOperand_86 ?_
            refine am_ic X (by decide) dX3_takeForOperand_89 ?_
            refine am_add (v := (σ 9 11 + 1)) X (by first | rfl | omega) (by omega) dX3_takeForOperand_90 ?_
            refine am_puti X 9 fl_X3_56 rfl rfl sh_9 (by decide) dX3_takeForOperand_91 ?_
            refine am_aload_n (x := 9) X (by rfl) dX3_takeForOperand_94 ?_
            refine am_iload_n (x := x) X (by rfl) dX3_takeForOperand_95 ?_
            refine am_bipush X (by decide) dX3_takeForOperand_96 ?_
            refine am_icmp_ne (tgt := 106) X dX3_takeForOperand_98 (by decide) (fun h98 => ?_) (fun h98 => ?_)
            · skip
              refine am_iload_n (x := x) X (by rfl) dX3_takeForOperand_106 ?_
              refine am_callVv (ci := 3) X hY lk_X3_91 mf_X3_push (m_X3_push x (am_up (am_up σ 9 10 (σ 9 10 + 1)) 9 11 (σ 9 11 + 1)) (by simp only [am_up]; simp; omega)) (by decide) (by decide) (Nat.le_refl _) (Nat.le_refl _) sh_9 rfl rfl rfl (Nat.le_of_ble_eq_true rfl) dX3_takeForOperand_107 (fun sh107 σ107 hp107 => ?_)
              obtain ⟨rfl, rfl, hq107⟩ := hp107
              refine am_ic X (by decide) dX3_takeForOperand_110 ?_
              exact hret _ _ _ _ _ dX3_takeForOperand_111 rfl rfl (⟨rfl, lx_fr_push (lx_fr_up (lx_fr_up (lx_fr_rf σ) (by decide)) (by decide)), Or.inr ⟨rfl, (c, x :: ops, o + 1, b + 1, g, due, cd), by rw [lx_step, if_pos (by omega), if_neg hdg, if_neg (by omega), if_neg (by omega), if_neg (by omega), if_pos (by omega)], by have h9 := lx_is_push (lx_is_f11 (lx_is_f10 his (σ 9 10 + 1)) (σ 9 11 + 1)) x; rw [e10, e11] at h9 ⊢; exact h9⟩⟩) (by first | exact Or.inl rfl | exact Or.inr rfl)
            · skip
              refine am_bipush X (by decide) dX3_takeForOperand_101 ?_
              refine am_goto (tgt := 107) X dX3_takeForOperand_103 (by decide) ?_
              refine am_callVv (ci := 3) X hY lk_X3_91 mf_X3_push (m_X3_push 126 (am_up (am_up σ 9 10 (σ 9 10 + 1)) 9 11 (σ 9 11 + 1)) (by simp only [am_up]; simp; omega)) (by decide) (by decide) (Nat.le_refl _) (Nat.le_refl _) sh_9 rfl rfl rfl (Nat.le_of_ble_eq_true rfl) dX3_takeForOperand_107 (fun sh107 σ107 hp107 => ?_)
              obtain ⟨rfl, rfl, hq107⟩ := hp107
              refine am_ic X (by decide) dX3_takeForOperand_110 ?_
              exact hret _ _ _ _ _ dX3_takeForOperand_111 rfl rfl (⟨rfl, lx_fr_push (lx_fr_up (lx_fr_up (lx_fr_rf σ) (by decide)) (by decide)), Or.inr ⟨rfl, (c, 126 :: ops, o + 1, b + 1, g, due, cd), by rw [lx_step, if_pos (by omega), if_neg hdg, if_neg (by omega), if_neg (by omega), if_pos (by omega), if_pos (by omega)], by have h9 := lx_is_push (lx_is_f11 (lx_is_f10 his (σ 9 10 + 1)) (σ 9 11 + 1)) 126; rw [e10, e11] at h9 ⊢; exact h9⟩⟩) (by first | exact Or.inl rfl | exact Or.inr rfl)
        · skip
          refine am_ic X (by decide) dX3_takeForOperand_66 ?_
          exact hret _ _ _ _ _ dX3_takeForOperand_67 rfl rfl (⟨rfl, lx_fr_rf σ, Or.inl ⟨rfl, by rw [lx_step, if_pos (by omega), if_neg hdg, if_neg (by omega), if_pos (by omega)]⟩⟩) (by first | exact Or.inl rfl | exact Or.inr rfl)
      · skip
        refine am_iload_n (x := x) X (by rfl) dX3_takeForOperand_45 ?_
        refine am_bipush X (by decide) dX3_takeForOperand_46 ?_
        refine am_icmp_eq (tgt := 57) X dX3_takeForOperand_48 (by decide) (fun h48 => ?_) (fun h48 => ?_)
        · skip
          refine am_aload_n (x := 9) X (by rfl) dX3_takeForOperand_57 ?_
          refine am_get (v := σ 9 10) X 9 fl_X3_53 (by decide) sh_9 (by decide) (rfl) dX3_takeForOperand_58 ?_
          refine am_bipush X (by decide) dX3_takeForOperand_61 ?_
          refine am_icmp_lt (tgt := 68) X dX3_takeForOperand_63 (by decide) (fun h63 => ?_) (fun h63 => ?_)
          · skip
            refine am_aload_n (x := 9) X (by rfl) dX3_takeForOperand_68 ?_
            refine am_dup X (Nat.ne_of_beq_eq_false rfl) dX3_takeForOperand_69 ?_
            refine am_get (v := σ 9 10) X 9 fl_X3_53 (by decide) sh_9 (by decide) (rfl) dX3_takeForOperand_70 ?_
            refine am_ic X (by decide) dX3_takeForOperand_73 ?_
            refine am_add (v := (σ 9 10 + 1)) X (by first | rfl | omega) (by omega) dX3_takeForOperand_74 ?_
            refine am_puti X 9 fl_X3_53 rfl rfl sh_9 (by decide) dX3_takeForOperand_75 ?_
            refine am_iload_n (x := x) X (by rfl) dX3_takeForOperand_78 ?_
            refine am_bipush X (by decide) dX3_takeForOperand_79 ?_
            refine am_icmp_ne (tgt := 94) X dX3_takeForOperand_81 (by decide) (fun h81 => ?_) (fun h81 => ?_)
            · skip
              refine am_aload_n (x := 9) X (by rfl) dX3_takeForOperand_94 ?_
              refine am_iload_n (x := x) X (by rfl) dX3_takeForOperand_95 ?_
              refine am_bipush X (by decide) dX3_takeForOperand_96 ?_
              refine am_icmp_ne (tgt := 106) X dX3_takeForOperand_98 (by decide) (fun h98 => ?_) (fun h98 => ?_)
              · skip
                refine am_iload_n (x := x) X (by rfl) dX3_takeForOperand_106 ?_
                refine am_callVv (ci := 3) X hY lk_X3_91 mf_X3_push (m_X3_push x (am_up σ 9 10 (σ 9 10 + 1)) (by simp only [am_up]; simp; omega)) (by decide) (by decide) (Nat.le_refl _) (Nat.le_refl _) sh_9 rfl rfl rfl (Nat.le_of_ble_eq_true rfl) dX3_takeForOperand_107 (fun sh107 σ107 hp107 => ?_)
                obtain ⟨rfl, rfl, hq107⟩ := hp107
                refine am_ic X (by decide) dX3_takeForOperand_110 ?_
                exact hret _ _ _ _ _ dX3_takeForOperand_111 rfl rfl (⟨rfl, lx_fr_push (lx_fr_up (lx_fr_rf σ) (by decide)), Or.inr ⟨rfl, (c, x :: ops, o + 1, b, g, due, cd), by rw [lx_step, if_pos (by omega), if_neg hdg, if_neg (by omega), if_neg (by omega), if_neg (by omega), if_neg (by omega)], by have h9 := lx_is_push (lx_is_f10 his (σ 9 10 + 1)) x; rw [e10] at h9 ⊢; exact h9⟩⟩) (by first | exact Or.inl rfl | exact Or.inr rfl)
              · skip
                refine am_bipush X (by decide) dX3_takeForOperand_101 ?_
                refine am_goto (tgt := 107) X dX3_takeForOperand_103 (by decide) ?_
                refine am_callVv (ci := 3) X hY lk_X3_91 mf_X3_push (m_X3_push 126 (am_up σ 9 10 (σ 9 10 + 1)) (by simp only [am_up]; simp; omega)) (by decide) (by decide) (Nat.le_refl _) (Nat.le_refl _) sh_9 rfl rfl rfl (Nat.le_of_ble_eq_true rfl) dX3_takeForOperand_107 (fun sh107 σ107 hp107 => ?_)
                obtain ⟨rfl, rfl, hq107⟩ := hp107
                refine am_ic X (by decide) dX3_takeForOperand_110 ?_
                exact hret _ _ _ _ _ dX3_takeForOperand_111 rfl rfl (⟨rfl, lx_fr_push (lx_fr_up (lx_fr_rf σ) (by decide)), Or.inr ⟨rfl, (c, 126 :: ops, o + 1, b, g, due, cd), by rw [lx_step, if_pos (by omega), if_neg hdg, if_neg (by omega), if_neg (by omega), if_pos (by omega), if_neg (by omega)], by have h9 := lx_is_push (lx_is_f10 his (σ 9 10 + 1)) 126; rw [e10] at h9 ⊢; exact h9⟩⟩) (by first | exact Or.inl rfl | exact Or.inr rfl)
            · skip
              refine am_aload_n (x := 9) X (by rfl) dX3_takeForOperand_84 ?_
              refine am_dup X (Nat.ne_of_beq_eq_false rfl) dX3_takeForOperand_85 ?_
              refine am_get (v := σ 9 11) X 9 fl_X3_56 (by decide) sh_9 (by decide) (by simp [am_up]) dX3_takeForOperand_86 ?_
              refine am_ic X (by decide) dX3_takeForOperand_89 ?_
              refine am_add (v := (σ 9 11 + 1)) X (by first | rfl | omega) (by omega) dX3_takeForOperand_90 ?_
              refine am_puti X 9 fl_X3_56 rfl rfl sh_9 (by decide) dX3_takeForOperand_91 ?_
              refine am_aload_n (x := 9) X (by rfl) dX3_takeForOperand_94 ?_
              refine am_iload_n (x := x) X (by rfl) dX3_takeForOperand_95 ?_
              refine am_bipush X (by decide) dX3_takeForOperand_96 ?_
              refine am_icmp_ne (tgt := 106) X dX3_takeForOperand_98 (by decide) (fun h98 => ?_) (fun h98 => ?_)
              · skip
                refine am_iload_n (x := x) X (by rfl) dX3_takeForOperand_106 ?_
                refine am_callVv (ci := 3) X hY lk_X3_91 mf_X3_push (m_X3_push x (am_up (am_up σ 9 10 (σ 9 10 + 1)) 9 11 (σ 9 11 + 1)) (by simp only [am_up]; simp; omega)) (by decide) (by decide) (Nat.le_refl _) (Nat.le_refl _) sh_9 rfl rfl rfl (Nat.le_of_ble_eq_true rfl) dX3_takeForOperand_107 (fun sh107 σ107 hp107 => ?_)
                obtain ⟨rfl, rfl, hq107⟩ := hp107
                refine am_ic X (by decide) dX3_takeForOperand_110 ?_
                exact hret _ _ _ _ _ dX3_takeForOperand_111 rfl rfl (⟨rfl, lx_fr_push (lx_fr_up (lx_fr_up (lx_fr_rf σ) (by decide)) (by decide)), Or.inr ⟨rfl, (c, x :: ops, o + 1, b + 1, g, due, cd), by rw [lx_step, if_pos (by omega), if_neg hdg, if_neg (by omega), if_neg (by omega), if_neg (by omega), if_pos (by omega)], by have h9 := lx_is_push (lx_is_f11 (lx_is_f10 his (σ 9 10 + 1)) (σ 9 11 + 1)) x; rw [e10, e11] at h9 ⊢; exact h9⟩⟩) (by first | exact Or.inl rfl | exact Or.inr rfl)
              · skip
                refine am_bipush X (by decide) dX3_takeForOperand_101 ?_
                refine am_goto (tgt := 107) X dX3_takeForOperand_103 (by decide) ?_
                refine am_callVv (ci := 3) X hY lk_X3_91 mf_X3_push (m_X3_push 126 (am_up (am_up σ 9 10 (σ 9 10 + 1)) 9 11 (σ 9 11 + 1)) (by simp only [am_up]; simp; omega)) (by decide) (by decide) (Nat.le_refl _) (Nat.le_refl _) sh_9 rfl rfl rfl (Nat.le_of_ble_eq_true rfl) dX3_takeForOperand_107 (fun sh107 σ107 hp107 => ?_)
                obtain ⟨rfl, rfl, hq107⟩ := hp107
                refine am_ic X (by decide) dX3_takeForOperand_110 ?_
                exact hret _ _ _ _ _ dX3_takeForOperand_111 rfl rfl (⟨rfl, lx_fr_push (lx_fr_up (lx_fr_up (lx_fr_rf σ) (by decide)) (by decide)), Or.inr ⟨rfl, (c, 126 :: ops, o + 1, b + 1, g, due, cd), by rw [lx_step, if_pos (by omega), if_neg hdg, if_neg (by omega), if_neg (by omega), if_pos (by omega), if_pos (by omega)], by have h9 := lx_is_push (lx_is_f11 (lx_is_f10 his (σ 9 10 + 1)) (σ 9 11 + 1)) 126; rw [e10, e11] at h9 ⊢; exact h9⟩⟩) (by first | exact Or.inl rfl | exact Or.inr rfl)
          · skip
            refine am_ic X (by decide) dX3_takeForOperand_66 ?_
            exact hret _ _ _ _ _ dX3_takeForOperand_67 rfl rfl (⟨rfl, lx_fr_rf σ, Or.inl ⟨rfl, by rw [lx_step, if_pos (by omega), if_neg hdg, if_neg (by omega), if_pos (by omega)]⟩⟩) (by first | exact Or.inl rfl | exact Or.inr rfl)
        · skip
          refine am_iload_n (x := x) X (by rfl) dX3_takeForOperand_51 ?_
          refine am_bipush X (by decide) dX3_takeForOperand_52 ?_
          refine am_icmp_ne (tgt := 66) X dX3_takeForOperand_54 (by decide) (fun h54 => ?_) (fun h54 => ?_)
          · skip
            refine am_ic X (by decide) dX3_takeForOperand_66 ?_
            exact hret _ _ _ _ _ dX3_takeForOperand_67 rfl rfl (⟨rfl, lx_fr_rf σ, Or.inl ⟨rfl, by rw [lx_step, if_pos (by omega), if_neg hdg, if_neg (by omega), if_pos (by omega)]⟩⟩) (by first | exact Or.inl rfl | exact Or.inr rfl)
          · skip
            refine am_aload_n (x := 9) X (by rfl) dX3_takeForOperand_57 ?_
            refine am_get (v := σ 9 10) X 9 fl_X3_53 (by decide) sh_9 (by decide) (rfl) dX3_takeForOperand_58 ?_
            refine am_bipush X (by decide) dX3_takeForOperand_61 ?_
            refine am_icmp_lt (tgt := 68) X dX3_takeForOperand_63 (by decide) (fun h63 => ?_) (fun h63 => ?_)
            · skip
              refine am_aload_n (x := 9) X (by rfl) dX3_takeForOperand_68 ?_
              refine am_dup X (Nat.ne_of_beq_eq_false rfl) dX3_takeForOperand_69 ?_
              refine am_get (v := σ 9 10) X 9 fl_X3_53 (by decide) sh_9 (by decide) (rfl) dX3_takeForOperand_70 ?_
              refine am_ic X (by decide) dX3_takeForOperand_73 ?_
              refine am_add (v := (σ 9 10 + 1)) X (by first | rfl | omega) (by omega) dX3_takeForOperand_74 ?_
              refine am_puti X 9 fl_X3_53 rfl rfl sh_9 (by decide) dX3_takeForOperand_75 ?_
              refine am_iload_n (x := x) X (by rfl) dX3_takeForOperand_78 ?_
              refine am_bipush X (by decide) dX3_takeForOperand_79 ?_
              refine am_icmp_ne (tgt := 94) X dX3_takeForOperand_81 (by decide) (fun h81 => ?_) (fun h81 => ?_)
              · skip
                refine am_aload_n (x := 9) X (by rfl) dX3_takeForOperand_94 ?_
                refine am_iload_n (x := x) X (by rfl) dX3_takeForOperand_95 ?_
                refine am_bipush X (by decide) dX3_takeForOperand_96 ?_
                refine am_icmp_ne (tgt := 106) X dX3_takeForOperand_98 (by decide) (fun h98 => ?_) (fun h98 => ?_)
                · skip
                  refine am_iload_n (x := x) X (by rfl) dX3_takeForOperand_106 ?_
                  refine am_callVv (ci := 3) X hY lk_X3_91 mf_X3_push (m_X3_push x (am_up σ 9 10 (σ 9 10 + 1)) (by simp only [am_up]; simp; omega)) (by decide) (by decide) (Nat.le_refl _) (Nat.le_refl _) sh_9 rfl rfl rfl (Nat.le_of_ble_eq_true rfl) dX3_takeForOperand_107 (fun sh107 σ107 hp107 => ?_)
                  obtain ⟨rfl, rfl, hq107⟩ := hp107
                  refine am_ic X (by decide) dX3_takeForOperand_110 ?_
                  exact hret _ _ _ _ _ dX3_takeForOperand_111 rfl rfl (⟨rfl, lx_fr_push (lx_fr_up (lx_fr_rf σ) (by decide)), Or.inr ⟨rfl, (c, x :: ops, o + 1, b, g, due, cd), by rw [lx_step, if_pos (by omega), if_neg hdg, if_neg (by omega), if_neg (by omega), if_neg (by omega), if_neg (by omega)], by have h9 := lx_is_push (lx_is_f10 his (σ 9 10 + 1)) x; rw [e10] at h9 ⊢; exact h9⟩⟩) (by first | exact Or.inl rfl | exact Or.inr rfl)
                · skip
                  refine am_bipush X (by decide) dX3_takeForOperand_101 ?_
                  refine am_goto (tgt := 107) X dX3_takeForOperand_103 (by decide) ?_
                  refine am_callVv (ci := 3) X hY lk_X3_91 mf_X3_push (m_X3_push 126 (am_up σ 9 10 (σ 9 10 + 1)) (by simp only [am_up]; simp; omega)) (by decide) (by decide) (Nat.le_refl _) (Nat.le_refl _) sh_9 rfl rfl rfl (Nat.le_of_ble_eq_true rfl) dX3_takeForOperand_107 (fun sh107 σ107 hp107 => ?_)
                  obtain ⟨rfl, rfl, hq107⟩ := hp107
                  refine am_ic X (by decide) dX3_takeForOperand_110 ?_
                  exact hret _ _ _ _ _ dX3_takeForOperand_111 rfl rfl (⟨rfl, lx_fr_push (lx_fr_up (lx_fr_rf σ) (by decide)), Or.inr ⟨rfl, (c, 126 :: ops, o + 1, b, g, due, cd), by rw [lx_step, if_pos (by omega), if_neg hdg, if_neg (by omega), if_neg (by omega), if_pos (by omega), if_neg (by omega)], by have h9 := lx_is_push (lx_is_f10 his (σ 9 10 + 1)) 126; rw [e10] at h9 ⊢; exact h9⟩⟩) (by first | exact Or.inl rfl | exact Or.inr rfl)
              · skip
                refine am_aload_n (x := 9) X (by rfl) dX3_takeForOperand_84 ?_
                refine am_dup X (Nat.ne_of_beq_eq_false rfl) dX3_takeForOperand_85 ?_
                refine am_get (v := σ 9 11) X 9 fl_X3_56 (by decide) sh_9 (by decide) (by simp [am_up]) dX3_takeForOperand_86 ?_
                refine am_ic X (by decide) dX3_takeForOperand_89 ?_
                refine am_add (v := (σ 9 11 + 1)) X (by first | rfl | omega) (by omega) dX3_takeForOperand_90 ?_
                refine am_puti X 9 fl_X3_56 rfl rfl sh_9 (by decide) dX3_takeForOperand_91 ?_
                refine am_aload_n (x := 9) X (by rfl) dX3_takeForOperand_94 ?_
                refine am_iload_n (x := x) X (by rfl) dX3_takeForOperand_95 ?_
                refine am_bipush X (by decide) dX3_takeForOperand_96 ?_
                refine am_icmp_ne (tgt := 106) X dX3_takeForOperand_98 (by decide) (fun h98 => ?_) (fun h98 => ?_)
                · skip
                  refine am_iload_n (x := x) X (by rfl) dX3_takeForOperand_106 ?_
                  refine am_callVv (ci := 3) X hY lk_X3_91 mf_X3_push (m_X3_push x (am_up (am_up σ 9 10 (σ 9 10 + 1)) 9 11 (σ 9 11 + 1)) (by simp only [am_up]; simp; omega)) (by decide) (by decide) (Nat.le_refl _) (Nat.le_refl _) sh_9 rfl rfl rfl (Nat.le_of_ble_eq_true rfl) dX3_takeForOperand_107 (fun sh107 σ107 hp107 => ?_)
                  obtain ⟨rfl, rfl, hq107⟩ := hp107
                  refine am_ic X (by decide) dX3_takeForOperand_110 ?_
                  exact hret _ _ _ _ _ dX3_takeForOperand_111 rfl rfl (⟨rfl, lx_fr_push (lx_fr_up (lx_fr_up (lx_fr_rf σ) (by decide)) (by decide)), Or.inr ⟨rfl, (c, x :: ops, o + 1, b + 1, g, due, cd), by rw [lx_step, if_pos (by omega), if_neg hdg, if_neg (by omega), if_neg (by omega), if_neg (by omega), if_pos (by omega)], by have h9 := lx_is_push (lx_is_f11 (lx_is_f10 his (σ 9 10 + 1)) (σ 9 11 + 1)) x; rw [e10, e11] at h9 ⊢; exact h9⟩⟩) (by first | exact Or.inl rfl | exact Or.inr rfl)
                · skip
                  refine am_bipush X (by decide) dX3_takeForOperand_101 ?_
                  refine am_goto (tgt := 107) X dX3_takeForOperand_103 (by decide) ?_
                  refine am_callVv (ci := 3) X hY lk_X3_91 mf_X3_push (m_X3_push 126 (am_up (am_up σ 9 10 (σ 9 10 + 1)) 9 11 (σ 9 11 + 1)) (by simp only [am_up]; simp; omega)) (by decide) (by decide) (Nat.le_refl _) (Nat.le_refl _) sh_9 rfl rfl rfl (Nat.le_of_ble_eq_true rfl) dX3_takeForOperand_107 (fun sh107 σ107 hp107 => ?_)
                  obtain ⟨rfl, rfl, hq107⟩ := hp107
                  refine am_ic X (by decide) dX3_takeForOperand_110 ?_
                  exact hret _ _ _ _ _ dX3_takeForOperand_111 rfl rfl (⟨rfl, lx_fr_push (lx_fr_up (lx_fr_up (lx_fr_rf σ) (by decide)) (by decide)), Or.inr ⟨rfl, (c, 126 :: ops, o + 1, b + 1, g, due, cd), by rw [lx_step, if_pos (by omega), if_neg hdg, if_neg (by omega), if_neg (by omega), if_pos (by omega), if_pos (by omega)], by have h9 := lx_is_push (lx_is_f11 (lx_is_f10 his (σ 9 10 + 1)) (σ 9 11 + 1)) 126; rw [e10, e11] at h9 ⊢; exact h9⟩⟩) (by first | exact Or.inl rfl | exact Or.inr rfl)
            · skip
              refine am_ic X (by decide) dX3_takeForOperand_66 ?_
              exact hret _ _ _ _ _ dX3_takeForOperand_67 rfl rfl (⟨rfl, lx_fr_rf σ, Or.inl ⟨rfl, by rw [lx_step, if_pos (by omega), if_neg hdg, if_neg (by omega), if_pos (by omega)]⟩⟩) (by first | exact Or.inl rfl | exact Or.inr rfl)
    · skip
      refine am_aload_n (x := 9) X (by rfl) dX3_takeForOperand_27 ?_
      refine am_sipush X (by decide) dX3_takeForOperand_28 ?_
      refine am_iload_n (x := r19) X (by rfl) dX3_takeForOperand_31 ?_
      refine am_add (v := (10000 + r19)) X (by first | rfl | omega) (by omega) dX3_takeForOperand_32 ?_
      refine am_ic X (by decide) dX3_takeForOperand_33 ?_
      refine am_callVv (ci := 3) X hY lk_X3_83 mf_X3_endOperand (m_X3_endOperand (10000 + r19) 0 σ (by omega)) (by decide) (by decide) (Nat.le_refl _) (Nat.le_refl _) sh_9 rfl rfl rfl (Nat.le_of_ble_eq_true rfl) dX3_takeForOperand_34 (fun sh34 σ34 hp34 => ?_)
      obtain ⟨rfl, rfl, hq34⟩ := hp34
      refine am_ic X (by decide) dX3_takeForOperand_37 ?_
      exact hret _ _ _ _ _ dX3_takeForOperand_38 rfl rfl (⟨rfl, lx_fr_up (lx_fr_up (lx_fr_emit (lx_fr_rf σ)) (by decide)) (by decide), Or.inr ⟨rfl, ((10000 + r19) :: c, ops, o, b, 0, 0, cd), by rw [lx_step, if_pos (by omega), if_neg hdg, if_pos (by omega), hq19], lx_is_f13 (lx_is_f12 (lx_is_emit his _) 0) 0⟩⟩) (by first | exact Or.inl rfl | exact Or.inr rfl)
  · skip
    have hdg := am_b1 hq1 (by omega)
    refine am_aload_n (x := 9) X (by rfl) dX3_takeForOperand_7 ?_
    refine am_iload_n (x := x) X (by rfl) dX3_takeForOperand_8 ?_
    refine am_bipush X (by decide) dX3_takeForOperand_9 ?_
    refine am_sub (v := (x - 48)) X (by first | rfl | omega) (by omega) dX3_takeForOperand_11 ?_
    refine am_ic X (by decide) dX3_takeForOperand_12 ?_
    refine am_callVv (ci := 3) X hY lk_X3_83 mf_X3_endOperand (m_X3_endOperand (x - 48) 3 σ (by omega)) (by decide) (by decide) (Nat.le_refl _) (Nat.le_refl _) sh_9 rfl rfl rfl (Nat.le_of_ble_eq_true rfl) dX3_takeForOperand_13 (fun sh13 σ13 hp13 => ?_)
    obtain ⟨rfl, rfl, hq13⟩ := hp13
    refine am_ic X (by decide) dX3_takeForOperand_16 ?_
    exact hret _ _ _ _ _ dX3_takeForOperand_17 rfl rfl (⟨rfl, lx_fr_up (lx_fr_up (lx_fr_emit (lx_fr_rf σ)) (by decide)) (by decide), Or.inr ⟨rfl, ((x - 48) :: c, ops, o, b, 3, 0, cd), by rw [lx_step, if_pos (by omega), if_pos hdg], lx_is_f13 (lx_is_f12 (lx_is_emit his _) 3) 0⟩⟩) (by first | exact Or.inl rfl | exact Or.inr rfl)

set_option maxHeartbeats 4000000 in
set_option maxRecDepth 100000 in
theorem m_X3_takeBehindOperand (x : Int) (c ops : List Int) (o b g due cd : Int) (σ : am_H) (his : lx_is σ (c, ops, o, b, g, due, cd)) (k : Nat) (hok : lx_ok k (c, ops, o, b, g, due, cd)) (hk : k < 120) (hdue : due = 0) : am_Mi yX3_takeBehindOperand cX3_takeBehindOperand 4 (some .boolean) 3 0 0 [vr 9, vi x] SH σ (fun r sh' σ' => SH = sh' ∧ lx_fr σ σ' ∧ ((r = 0 ∧ lx_step (c, ops, o, b, g, due, cd) x = none) ∨ (r = 1 ∧ ∃ S', lx_step (c, ops, o, b, g, due, cd) x = some S' ∧ lx_is σ' S'))) := by
  refine am_Mz_of (by decide +kernel) (Nat.le_of_ble_eq_true rfl) (fun K X hY hI hret => ?_)
  show am_G K 0 [some (vr 9), some (vi x), none, none] [] SH σ
  have e8 : σ 9 8 = (c.length : Int) := his.1.1
  have e9 : σ 9 9 = (ops.length : Int) := his.2.1.1
  have e10 : σ 9 10 = o := his.2.2.1
  have e11 : σ 9 11 = b := his.2.2.2.1
  have e12 : σ 9 12 = g := his.2.2.2.2.1
  have e13 : σ 9 13 = due := his.2.2.2.2.2.1
  have e14 : σ 9 14 = cd := his.2.2.2.2.2.2
  have hok0 := hok
  obtain ⟨⟨k1, k2, k3⟩, k4, k5, k6, k7, k8, k9⟩ := hok
  have kbd := lx_cnt_bd ops
  refine am_iload_n (x := x) X (by rfl) dX3_takeBehindOperand_0 ?_
  refine am_callSi X hY lk_X3_80 mf_X3_isDigit (m_X3_isDigit x _ σ) (by decide) (by decide) (Nat.le_refl _) (Nat.le_refl _) rfl rfl (Nat.le_of_ble_eq_true rfl) dX3_takeBehindOperand_1 (fun r1 sh1 σ1 hr1 hp1 => ?_)
  obtain ⟨rfl, rfl, hq1⟩ := hp1
  refine am_if_eq (tgt := 16) X dX3_takeBehindOperand_4 (by decide) (fun h4 => ?_) (fun h4 => ?_)
  · skip
    have hdg := am_b0 hq1 (by omega)
    refine am_iload_n (x := x) X (by rfl) dX3_takeBehindOperand_16 ?_
    refine am_bipush X (by decide) dX3_takeBehindOperand_17 ?_
    refine am_icmp_ne (tgt := 27) X dX3_takeBehindOperand_19 (by decide) (fun h19 => ?_) (fun h19 => ?_)
    · skip
      refine am_iload_n (x := x) X (by rfl) dX3_takeBehindOperand_27 ?_
      refine am_bipush X (by decide) dX3_takeBehindOperand_28 ?_
      refine am_icmp_eq (tgt := 39) X dX3_takeBehindOperand_30 (by decide) (fun h30 => ?_) (fun h30 => ?_)
      · skip
        refine am_aload_n (x := 9) X (by rfl) dX3_takeBehindOperand_39 ?_
        refine am_iload_n (x := x) X (by rfl) dX3_takeBehindOperand_40 ?_
        refine am_callVi (ci := 3) X hY lk_X3_104 mf_X3_takeExpressionsEnd (m_X3_takeExpressionsEnd x c ops o b g due cd σ his k hok0 hk hdue (by omega)) (by decide) (by decide) (Nat.le_refl _) (Nat.le_refl _) sh_9 rfl rfl rfl (Nat.le_of_ble_eq_true rfl) dX3_takeBehindOperand_41 (fun r41 sh41 σ41 hr41 hp41 => ?_)
        obtain ⟨rfl, hq41⟩ := hp41
        exact hret _ _ _ _ _ dX3_takeBehindOperand_44 rfl rfl (⟨rfl, hq41.1, by rcases hq41.2 with ⟨z1, z2⟩ | ⟨z1, z2, z3⟩; exact Or.inl ⟨z1, by rw [lx_step, if_neg (by omega), if_neg hdg, if_neg (by omega), if_pos (by omega), if_pos z2]⟩; exact Or.inr ⟨z1, _, by rw [lx_step, if_neg (by omega), if_neg hdg, if_neg (by omega), if_pos (by omega), if_neg z2], z3⟩⟩) (by first | exact Or.inl rfl | exact Or.inr rfl | (rcases hq12.2 with ⟨z1, -⟩ | ⟨z1, -⟩ <;> omega) | (rcases hq23.2 with ⟨z1, -⟩ | ⟨z1, -⟩ <;> omega) | (rcases hq41.2 with ⟨z1, -⟩ | ⟨z1, -⟩ <;> omega))
      · skip
        refine am_iload_n (x := x) X (by rfl) dX3_takeBehindOperand_33 ?_
        refine am_bipush X (by decide) dX3_takeBehindOperand_34 ?_
        refine am_icmp_ne (tgt := 45) X dX3_takeBehindOperand_36 (by decide) (fun h36 => ?_) (fun h36 => ?_)
        · skip
          refine am_iload_n (x := x) X (by rfl) dX3_takeBehindOperand_45 ?_
          refine am_callSi X hY lk_X3_107 mf_X3_rankOf (m_X3_rankOf x _ σ) (by decide) (by decide) (Nat.le_refl _) (Nat.le_refl _) rfl rfl (Nat.le_of_ble_eq_true rfl) dX3_takeBehindOperand_46 (fun r46 sh46 σ46 hr46 hp46 => ?_)
          obtain ⟨rfl, rfl, hq46⟩ := hp46
          refine am_istore_n (i := 2) (L' := [some (vr 9), some (vi x), some (vi r46), none]) X rfl (Nat.le_of_ble_eq_true rfl) (by rfl) dX3_takeBehindOperand_49 ?_
          refine am_iload_n (x := r46) X (by rfl) dX3_takeBehindOperand_50 ?_
          refine am_if_eq (tgt := 60) X dX3_takeBehindOperand_51 (by decide) (fun h51 => ?_) (fun h51 => ?_)
          · skip
            refine am_ic X (by decide) dX3_takeBehindOperand_60 ?_
            exact hret _ _ _ _ _ dX3_takeBehindOperand_61 rfl rfl (⟨rfl, lx_fr_rf σ, Or.inl ⟨rfl, by rw [lx_step, if_neg (by omega), if_neg hdg, if_neg (by omega), if_neg (by omega), if_pos (by omega)]⟩⟩) (by first | exact Or.inl rfl | exact Or.inr rfl | (rcases hq12.2 with ⟨z1, -⟩ | ⟨z1, -⟩ <;> omega) | (rcases hq23.2 with ⟨z1, -⟩ | ⟨z1, -⟩ <;> omega) | (rcases hq41.2 with ⟨z1, -⟩ | ⟨z1, -⟩ <;> omega))
          · skip
            refine am_iload_n (x := r46) X (by rfl) dX3_takeBehindOperand_54 ?_
            refine am_bipush X (by decide) dX3_takeBehindOperand_55 ?_
            refine am_icmp_ne (tgt := 62) X dX3_takeBehindOperand_57 (by decide) (fun h57 => ?_) (fun h57 => ?_)
            · skip
              have hrb := lx_rank_bd x
              refine am_iload_n (x := r46) X (by rfl) dX3_takeBehindOperand_62 ?_
              refine am_ic X (by decide) dX3_takeBehindOperand_63 ?_
              refine am_icmp_ne (tgt := 71) X dX3_takeBehindOperand_64 (by decide) (fun h64 => ?_) (fun h64 => ?_)
              · skip
                refine am_ic X (by decide) dX3_takeBehindOperand_71 ?_
                refine am_istore_n (i := 3) (L' := [some (vr 9), some (vi x), some (vi r46), some (vi 0)]) X rfl (Nat.le_of_ble_eq_true rfl) (by rfl) dX3_takeBehindOperand_72 ?_
                refine am_aload_n (x := 9) X (by rfl) dX3_takeBehindOperand_73 ?_
                refine am_iload_n (x := 0) X (by rfl) dX3_takeBehindOperand_74 ?_
                refine am_if_eq (tgt := 84) X dX3_takeBehindOperand_75 (by decide) (fun _ => ?_) (fun h => absurd h (by decide))
                refine am_iload_n (x := r46) X (by rfl) dX3_takeBehindOperand_84 ?_
                refine am_topi (fun rr hrr => ?_)
                have hrr2 : rr = (if lx_rank x = 3 then 4 else lx_rank x) := by
                  rw [hrr]
                  first | (rw [if_pos (by omega)]; omega) | (rw [if_neg (by omega)]; omega)
                have hrr1 : 1 ≤ rr := by omega
                obtain ⟨j1, j2, j3, j4, j5⟩ := lx_set_ok hrr1 ops c o k3
                refine am_callVv (ci := 3) X hY lk_X3_73 mf_X3_settle (m_X3_settle rr c ops o b g due cd (by omega) σ his (by omega) (by omega)) (by decide) (by decide) (Nat.le_refl _) (Nat.le_refl _) sh_9 rfl rfl rfl (Nat.le_of_ble_eq_true rfl) dX3_takeBehindOperand_85 (fun sh85 σ85 hp85 => ?_)
                obtain ⟨rfl, hq85, hf85⟩ := hp85
                have e9a : σ85 9 9 = ((lx_set rr c ops o).2.1.length : Int) := hq85.2.1.1
                refine am_iload_n (x := 0) X (by rfl) dX3_takeBehindOperand_88 ?_
                refine am_if_eq (tgt := 119) X dX3_takeBehindOperand_89 (by decide) (fun _ => ?_) (fun h => absurd h (by decide))
                refine am_aload_n (x := 9) X (by rfl) dX3_takeBehindOperand_119 ?_
                refine am_iload_n (x := x) X (by rfl) dX3_takeBehindOperand_120 ?_
                refine am_callVv (ci := 3) X hY lk_X3_91 mf_X3_push (m_X3_push x σ85 (by omega)) (by decide) (by decide) (Nat.le_refl _) (Nat.le_refl _) sh_9 rfl rfl rfl (Nat.le_of_ble_eq_true rfl) dX3_takeBehindOperand_121 (fun sh121 σ121 hp121 => ?_)
                obtain ⟨rfl, rfl, hq121⟩ := hp121
                refine am_aload_n (x := 9) X (by rfl) dX3_takeBehindOperand_124 ?_
                refine am_ic X (by decide) dX3_takeBehindOperand_125 ?_
                refine am_putz X 9 fl_X3_59 rfl rfl sh_9 (by decide) (by first | exact Or.inl rfl | exact Or.inr rfl | omega) dX3_takeBehindOperand_126 ?_
                refine am_ic X (by decide) dX3_takeBehindOperand_129 ?_
                exact hret _ _ _ _ _ dX3_takeBehindOperand_130 rfl rfl (⟨rfl, lx_fr_up (lx_fr_push hf85) (by decide), Or.inr ⟨rfl, ((lx_set rr c ops o).1, x :: (lx_set rr c ops o).2.1, (lx_set rr c ops o).2.2, b, g, 1, cd), by rw [lx_step, if_neg (by omega), if_neg hdg, if_neg (by omega), if_neg (by omega), if_neg (by omega), ← hrr2]; exact if_neg (fun q => absurd q.1 (by omega)), lx_is_f13 (lx_is_push hq85 _) 1⟩⟩) (by first | exact Or.inl rfl | exact Or.inr rfl | (rcases hq12.2 with ⟨z1, -⟩ | ⟨z1, -⟩ <;> omega) | (rcases hq23.2 with ⟨z1, -⟩ | ⟨z1, -⟩ <;> omega) | (rcases hq41.2 with ⟨z1, -⟩ | ⟨z1, -⟩ <;> omega))
              · skip
                refine am_ic X (by decide) dX3_takeBehindOperand_67 ?_
                refine am_goto (tgt := 72) X dX3_takeBehindOperand_68 (by decide) ?_
                refine am_istore_n (i := 3) (L' := [some (vr 9), some (vi x), some (vi r46), some (vi 1)]) X rfl (Nat.le_of_ble_eq_true rfl) (by rfl) dX3_takeBehindOperand_72 ?_
                refine am_aload_n (x := 9) X (by rfl) dX3_takeBehindOperand_73 ?_
                refine am_iload_n (x := 1) X (by rfl) dX3_takeBehindOperand_74 ?_
                refine am_if_eq (tgt := 84) X dX3_takeBehindOperand_75 (by decide) (fun h => absurd h (by decide)) (fun _ => ?_)
                refine am_iload_n (x := r46) X (by rfl) dX3_takeBehindOperand_78 ?_
                refine am_ic X (by decide) dX3_takeBehindOperand_79 ?_
                refine am_add (v := (r46 + 1)) X (by first | rfl | omega) (by omega) dX3_takeBehindOperand_80 ?_
                refine am_goto (tgt := 85) X dX3_takeBehindOperand_81 (by decide) ?_
                refine am_topi (fun rr hrr => ?_)
                have hrr2 : rr = (if lx_rank x = 3 then 4 else lx_rank x) := by
                  rw [hrr]
                  first | (rw [if_pos (by omega)]; omega) | (rw [if_neg (by omega)]; omega)
                have hrr1 : 1 ≤ rr := by omega
                obtain ⟨j1, j2, j3, j4, j5⟩ := lx_set_ok hrr1 ops c o k3
                refine am_callVv (ci := 3) X hY lk_X3_73 mf_X3_settle (m_X3_settle rr c ops o b g due cd (by omega) σ his (by omega) (by omega)) (by decide) (by decide) (Nat.le_refl _) (Nat.le_refl _) sh_9 rfl rfl rfl (Nat.le_of_ble_eq_true rfl) dX3_takeBehindOperand_85 (fun sh85 σ85 hp85 => ?_)
                obtain ⟨rfl, hq85, hf85⟩ := hp85
                have e9a : σ85 9 9 = ((lx_set rr c ops o).2.1.length : Int) := hq85.2.1.1
                refine am_iload_n (x := 1) X (by rfl) dX3_takeBehindOperand_88 ?_
                refine am_if_eq (tgt := 119) X dX3_takeBehindOperand_89 (by decide) (fun h => absurd h (by decide)) (fun _ => ?_)
                refine am_aload_n (x := 9) X (by rfl) dX3_takeBehindOperand_92 ?_
                refine am_get (v := σ85 9 9) X 9 fl_X3_50 (by decide) sh_9 (by decide) (rfl) dX3_takeBehindOperand_93 ?_
                refine am_if_le (tgt := 119) X dX3_takeBehindOperand_96 (by decide) (fun h96 => ?_) (fun h96 => ?_)
                · skip
                  refine am_aload_n (x := 9) X (by rfl) dX3_takeBehindOperand_119 ?_
                  refine am_iload_n (x := x) X (by rfl) dX3_takeBehindOperand_120 ?_
                  refine am_callVv (ci := 3) X hY lk_X3_91 mf_X3_push (m_X3_push x σ85 (by omega)) (by decide) (by decide) (Nat.le_refl _) (Nat.le_refl _) sh_9 rfl rfl rfl (Nat.le_of_ble_eq_true rfl) dX3_takeBehindOperand_121 (fun sh121 σ121 hp121 => ?_)
                  obtain ⟨rfl, rfl, hq121⟩ := hp121
                  refine am_aload_n (x := 9) X (by rfl) dX3_takeBehindOperand_124 ?_
                  refine am_ic X (by decide) dX3_takeBehindOperand_125 ?_
                  refine am_putz X 9 fl_X3_59 rfl rfl sh_9 (by decide) (by first | exact Or.inl rfl | exact Or.inr rfl | omega) dX3_takeBehindOperand_126 ?_
                  refine am_ic X (by decide) dX3_takeBehindOperand_129 ?_
                  exact hret _ _ _ _ _ dX3_takeBehindOperand_130 rfl rfl (⟨rfl, lx_fr_up (lx_fr_push hf85) (by decide), Or.inr ⟨rfl, ((lx_set rr c ops o).1, x :: (lx_set rr c ops o).2.1, (lx_set rr c ops o).2.2, b, g, 1, cd), by rw [lx_step, if_neg (by omega), if_neg hdg, if_neg (by omega), if_neg (by omega), if_neg (by omega), ← hrr2]; exact if_neg (fun q => by have e0 := List.eq_nil_of_length_eq_zero (show (lx_set rr c ops o).2.1.length = 0 by omega); rw [e0] at q; exact absurd q.2 (by decide)), lx_is_f13 (lx_is_push hq85 _) 1⟩⟩) (by first | exact Or.inl rfl | exact Or.inr rfl | (rcases hq12.2 with ⟨z1, -⟩ | ⟨z1, -⟩ <;> omega) | (rcases hq23.2 with ⟨z1, -⟩ | ⟨z1, -⟩ <;> omega) | (rcases hq41.2 with ⟨z1, -⟩ | ⟨z1, -⟩ <;> omega))
                · skip
                  obtain ⟨opsx, hop⟩ := lx_is_top hq85 (by omega)
                  refine am_aload_n (x := 9) X (by rfl) dX3_takeBehindOperand_99 ?_
                  refine am_getr (c1 := 13) X 9 fl_X3_21 (by decide) sh_9 (by decide) (by rfl) dX3_takeBehindOperand_100 ?_
                  refine am_aload_n (x := 9) X (by rfl) dX3_takeBehindOperand_103 ?_
                  refine am_get (v := σ85 9 9) X 9 fl_X3_50 (by decide) sh_9 (by decide) (rfl) dX3_takeBehindOperand_104 ?_
                  refine am_ic X (by decide) dX3_takeBehindOperand_107 ?_
                  refine am_sub (v := (σ85 9 9 - 1)) X (by first | rfl | omega) (by omega) dX3_takeBehindOperand_108 ?_
                  refine am_ald (v := σ85 13 (((σ85 9 9 - 1)).toNat)) X 13 (((σ85 9 9 - 1)).toNat) sh_13 (by omega) (by omega) (rfl) dX3_takeBehindOperand_109 ?_
                  refine am_callSi X hY lk_X3_107 mf_X3_rankOf (m_X3_rankOf (σ85 13 (((σ85 9 9 - 1)).toNat)) _ σ85) (by decide) (by decide) (Nat.le_refl _) (Nat.le_refl _) rfl rfl (Nat.le_of_ble_eq_true rfl) dX3_takeBehindOperand_110 (fun r110 sh110 σ110 hr110 hp110 => ?_)
                  obtain ⟨rfl, rfl, hq110⟩ := hp110
                  refine am_iload_n (x := r46) X (by rfl) dX3_takeBehindOperand_113 ?_
                  refine am_icmp_ne (tgt := 119) X dX3_takeBehindOperand_114 (by decide) (fun h114 => ?_) (fun h114 => ?_)
                  · skip
                    refine am_aload_n (x := 9) X (by rfl) dX3_takeBehindOperand_119 ?_
                    refine am_iload_n (x := x) X (by rfl) dX3_takeBehindOperand_120 ?_
                    refine am_callVv (ci := 3) X hY lk_X3_91 mf_X3_push (m_X3_push x σ85 (by omega)) (by decide) (by decide) (Nat.le_refl _) (Nat.le_refl _) sh_9 rfl rfl rfl (Nat.le_of_ble_eq_true rfl) dX3_takeBehindOperand_121 (fun sh121 σ121 hp121 => ?_)
                    obtain ⟨rfl, rfl, hq121⟩ := hp121
                    refine am_aload_n (x := 9) X (by rfl) dX3_takeBehindOperand_124 ?_
                    refine am_ic X (by decide) dX3_takeBehindOperand_125 ?_
                    refine am_putz X 9 fl_X3_59 rfl rfl sh_9 (by decide) (by first | exact Or.inl rfl | exact Or.inr rfl | omega) dX3_takeBehindOperand_126 ?_
                    refine am_ic X (by decide) dX3_takeBehindOperand_129 ?_
                    exact hret _ _ _ _ _ dX3_takeBehindOperand_130 rfl rfl (⟨rfl, lx_fr_up (lx_fr_push hf85) (by decide), Or.inr ⟨rfl, ((lx_set rr c ops o).1, x :: (lx_set rr c ops o).2.1, (lx_set rr c ops o).2.2, b, g, 1, cd), by rw [lx_step, if_neg (by omega), if_neg hdg, if_neg (by omega), if_neg (by omega), if_neg (by omega), ← hrr2]; exact if_neg (fun q => by rw [hop] at q; exact absurd q.2 (by show lx_rank (σ85 13 ((σ85 9 9 - 1)).toNat) ≠ 3; omega)), lx_is_f13 (lx_is_push hq85 _) 1⟩⟩) (by first | exact Or.inl rfl | exact Or.inr rfl | (rcases hq12.2 with ⟨z1, -⟩ | ⟨z1, -⟩ <;> omega) | (rcases hq23.2 with ⟨z1, -⟩ | ⟨z1, -⟩ <;> omega) | (rcases hq41.2 with ⟨z1, -⟩ | ⟨z1, -⟩ <;> omega))
                  · skip
                    refine am_ic X (by decide) dX3_takeBehindOperand_117 ?_
                    exact hret _ _ _ _ _ dX3_takeBehindOperand_118 rfl rfl (⟨rfl, hf85, Or.inl ⟨rfl, by rw [lx_step, if_neg (by omega), if_neg hdg, if_neg (by omega), if_neg (by omega), if_neg (by omega), ← hrr2]; exact if_pos ⟨by omega, by rw [hop]; show lx_rank (σ85 13 ((σ85 9 9 - 1)).toNat) = 3; omega⟩⟩⟩) (by first | exact Or.inl rfl | exact Or.inr rfl | (rcases hq12.2 with ⟨z1, -⟩ | ⟨z1, -⟩ <;> omega) | (rcases hq23.2 with ⟨z1, -⟩ | ⟨z1, -⟩ <;> omega) | (rcases hq41.2 with ⟨z1, -⟩ | ⟨z1, -⟩ <;> omega))
            · skip
              refine am_ic X (by decide) dX3_takeBehindOperand_60 ?_
              exact hret _ _ _ _ _ dX3_takeBehindOperand_61 rfl rfl (⟨rfl, lx_fr_rf σ, Or.inl ⟨rfl, by rw [lx_step, if_neg (by omega), if_neg hdg, if_neg (by omega), if_neg (by omega), if_pos (by omega)]⟩⟩) (by first | exact Or.inl rfl | exact Or.inr rfl | (rcases hq12.2 with ⟨z1, -⟩ | ⟨z1, -⟩ <;> omega) | (rcases hq23.2 with ⟨z1, -⟩ | ⟨z1, -⟩ <;> omega) | (rcases hq41.2 with ⟨z1, -⟩ | ⟨z1, -⟩ <;> omega))
        · skip
          refine am_aload_n (x := 9) X (by rfl) dX3_takeBehindOperand_39 ?_
          refine am_iload_n (x := x) X (by rfl) dX3_takeBehindOperand_40 ?_
          refine am_callVi (ci := 3) X hY lk_X3_104 mf_X3_takeExpressionsEnd (m_X3_takeExpressionsEnd x c ops o b g due cd σ his k hok0 hk hdue (by omega)) (by decide) (by decide) (Nat.le_refl _) (Nat.le_refl _) sh_9 rfl rfl rfl (Nat.le_of_ble_eq_true rfl) dX3_takeBehindOperand_41 (fun r41 sh41 σ41 hr41 hp41 => ?_)
          obtain ⟨rfl, hq41⟩ := hp41
          exact hret _ _ _ _ _ dX3_takeBehindOperand_44 rfl rfl (⟨rfl, hq41.1, by rcases hq41.2 with ⟨z1, z2⟩ | ⟨z1, z2, z3⟩; exact Or.inl ⟨z1, by rw [lx_step, if_neg (by omega), if_neg hdg, if_neg (by omega), if_pos (by omega), if_pos z2]⟩; exact Or.inr ⟨z1, _, by rw [lx_step, if_neg (by omega), if_neg hdg, if_neg (by omega), if_pos (by omega), if_neg z2], z3⟩⟩) (by first | exact Or.inl rfl | exact Or.inr rfl | (rcases hq12.2 with ⟨z1, -⟩ | ⟨z1, -⟩ <;> omega) | (rcases hq23.2 with ⟨z1, -⟩ | ⟨z1, -⟩ <;> omega) | (rcases hq41.2 with ⟨z1, -⟩ | ⟨z1, -⟩ <;> omega))
    · skip
      refine am_aload_n (x := 9) X (by rfl) dX3_takeBehindOperand_22 ?_
      refine am_callVi (ci := 3) X hY lk_X3_100 mf_X3_takeBracketsEnd (m_X3_takeBracketsEnd c ops o b g due cd σ his k hok0 hk hdue) (by decide) (by decide) (Nat.le_refl _) (Nat.le_refl _) sh_9 rfl rfl rfl (Nat.le_of_ble_eq_true rfl) dX3_takeBehindOperand_23 (fun r23 sh23 σ23 hr23 hp23 => ?_)
      obtain ⟨rfl, hq23⟩ := hp23
      exact hret _ _ _ _ _ dX3_takeBehindOperand_26 rfl rfl (⟨rfl, hq23.1, by rcases hq23.2 with ⟨z1, z2⟩ | ⟨z1, z2, z3⟩; exact Or.inl ⟨z1, by rw [lx_step, if_neg (by omega), if_neg hdg, if_pos (by omega), if_pos z2]⟩; exact Or.inr ⟨z1, _, by rw [lx_step, if_neg (by omega), if_neg hdg, if_pos (by omega), if_neg z2], z3⟩⟩) (by first | exact Or.inl rfl | exact Or.inr rfl | (rcases hq12.2 with ⟨z1, -⟩ | ⟨z1, -⟩ <;> omega) | (rcases hq23.2 with ⟨z1, -⟩ | ⟨z1, -⟩ <;> omega) | (rcases hq41.2 with ⟨z1, -⟩ | ⟨z1, -⟩ <;> omega))
  · skip
    have hdg := am_b1 hq1 (by omega)
    refine am_aload_n (x := 9) X (by rfl) dX3_takeBehindOperand_7 ?_
    refine am_iload_n (x := x) X (by rfl) dX3_takeBehindOperand_8 ?_
    refine am_bipush X (by decide) dX3_takeBehindOperand_9 ?_
    refine am_sub (v := (x - 48)) X (by first | rfl | omega) (by omega) dX3_takeBehindOperand_11 ?_
    refine am_callVi (ci := 3) X hY lk_X3_97 mf_X3_takeNextDigit (m_X3_takeNextDigit (x - 48) c ops o b g due cd σ his k hok0 hk hdue (by omega)) (by decide) (by decide) (Nat.le_refl _) (Nat.le_refl _) sh_9 rfl rfl rfl (Nat.le_of_ble_eq_true rfl) dX3_takeBehindOperand_12 (fun r12 sh12 σ12 hr12 hp12 => ?_)
    obtain ⟨rfl, hq12⟩ := hp12
    exact hret _ _ _ _ _ dX3_takeBehindOperand_15 rfl rfl (⟨rfl, hq12.1, by rcases hq12.2 with ⟨z1, z2⟩ | ⟨z1, z2, z3⟩; exact Or.inl ⟨z1, by rw [lx_step, if_neg (by omega), if_pos hdg, if_pos z2]⟩; exact Or.inr ⟨z1, _, by rw [lx_step, if_neg (by omega), if_pos hdg, if_neg z2], z3⟩⟩) (by first | exact Or.inl rfl | exact Or.inr rfl | (rcases hq12.2 with ⟨z1, -⟩ | ⟨z1, -⟩ <;> omega) | (rcases hq23.2 with ⟨z1, -⟩ | ⟨z1, -⟩ <;> omega) | (rcases hq41.2 with ⟨z1, -⟩ | ⟨z1, -⟩ <;> omega))
