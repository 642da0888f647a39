set_option maxHeartbeats 4000000 in
set_option maxRecDepth 100000 in
theorem m_X10_hand (a : Int) (σ : am_H) (hc : 0 ≤ σ 63 7 ∧ σ 63 7 ≤ 20) (hd : ∀ n : Nat, (n : Int) < σ 63 7 → 0 ≤ σ 68 (5 * n + 2) ∧ σ 68 (5 * n + 2) ≤ 9) : am_Mi yX10_hand cX10_hand 5 (some .int) 2 0 0 [vr 63, vi a] SH σ (fun r sh' σ' => SH = sh' ∧ ((¬ (0 ≤ a ∧ (0 ≤ a / 100 ∧ a / 100 < σ 63 7) ∧ (0 ≤ a % 100 ∧ a % 100 < σ 63 7)) ∧ r = -1 ∧ σ = σ') ∨ (((0 ≤ a ∧ (0 ≤ a / 100 ∧ a / 100 < σ 63 7) ∧ (0 ≤ a % 100 ∧ a % 100 < σ 63 7)) ∧ ¬ (a / 100 ≠ a % 100 ∧ 0 < σ 68 (5 * (a / 100).toNat + 2) ∧ 0 < σ 68 (5 * (a % 100).toNat + 2) ∧ (σ 68 (5 * (a / 100).toNat + 2) = σ 68 (5 * (a % 100).toNat + 2) ∧ σ 68 (5 * (a / 100).toNat + 3) = σ 68 (5 * (a % 100).toNat + 3) ∧ σ 68 (5 * (a / 100).toNat + 4) = σ 68 (5 * (a % 100).toNat + 4)) ∧ σ 68 (5 * (a / 100).toNat + 1) = σ 68 (5 * (a % 100).toNat) ∧ σ 68 (5 * (a % 100).toNat + 1) ≠ σ 68 (5 * (a / 100).toNat))) ∧ r = -2 ∧ σ = σ') ∨ (((0 ≤ a ∧ (0 ≤ a / 100 ∧ a / 100 < σ 63 7) ∧ (0 ≤ a % 100 ∧ a % 100 < σ 63 7)) ∧ (a / 100 ≠ a % 100 ∧ 0 < σ 68 (5 * (a / 100).toNat + 2) ∧ 0 < σ 68 (5 * (a % 100).toNat + 2) ∧ (σ 68 (5 * (a / 100).toNat + 2) = σ 68 (5 * (a % 100).toNat + 2) ∧ σ 68 (5 * (a / 100).toNat + 3) = σ 68 (5 * (a % 100).toNat + 3) ∧ σ 68 (5 * (a / 100).toNat + 4) = σ 68 (5 * (a % 100).toNat + 4)) ∧ σ 68 (5 * (a / 100).toNat + 1) = σ 68 (5 * (a % 100).toNat) ∧ σ 68 (5 * (a % 100).toNat + 1) ≠ σ 68 (5 * (a / 100).toNat))) ∧ r = 1 ∧ (md_less (am_up σ 68 (5 * (a / 100).toNat + 1) (σ 68 (5 * (a % 100).toNat + 1))) (a % 100).toNat (σ 68 (5 * (a % 100).toNat + 2))) = σ'))) := by
  refine am_Mi_of (by decide +kernel) (Nat.le_of_ble_eq_true rfl) (fun K X hY hI hret => ?_)
  show am_G K 0 [some (vr 63), some (vi a), none, none, none] [] SH σ
  refine am_iload_n (x := a) X (by rfl) dX10_hand_0 ?_
  refine am_if_lt (tgt := 26) X dX10_hand_1 (by decide) (fun h1 => ?_) (fun h1 => ?_)
  · skip
    refine am_ic X (by decide) dX10_hand_26 ?_
    exact hret _ _ _ _ _ dX10_hand_27 rfl rfl (by first | exact ⟨rfl, Or.inl ⟨by omega, by omega, rfl⟩⟩ | exact ⟨rfl, Or.inr (Or.inl ⟨by omega, by omega, rfl⟩)⟩ | exact ⟨rfl, Or.inr (Or.inr (⟨by omega, by omega, rfl⟩))⟩)
  · skip
    refine am_aload_n (x := 63) X (by rfl) dX10_hand_4 ?_
    refine am_iload_n (x := a) X (by rfl) dX10_hand_5 ?_
    refine am_bipush X (by decide) dX10_hand_6 ?_
    refine am_div (v := (a / 100)) X (by omega) (by omega) rfl dX10_hand_8 ?_
    refine am_callVi (ci := 9) X hY lk_X10_146 mf_X10_isDebt (m_X10_isDebt (a / 100) σ hc) (by decide) (by decide) (Nat.le_refl _) (Nat.le_refl _) sh_63 rfl rfl rfl (Nat.le_of_ble_eq_true rfl) dX10_hand_9 (fun r9 sh9 σ9 hr9 hp9 => ?_)
    obtain ⟨rfl, rfl, hq9⟩ := hp9
    refine am_if_eq (tgt := 26) X dX10_hand_12 (by decide) (fun h12 => ?_) (fun h12 => ?_)
    · skip
      refine am_ic X (by decide) dX10_hand_26 ?_
      exact hret _ _ _ _ _ dX10_hand_27 rfl rfl (by first | exact ⟨rfl, Or.inl ⟨by omega, by omega, rfl⟩⟩ | exact ⟨rfl, Or.inr (Or.inl ⟨by omega, by omega, rfl⟩)⟩ | exact ⟨rfl, Or.inr (Or.inr (⟨by omega, by omega, rfl⟩))⟩)
    · skip
      refine am_aload_n (x := 63) X (by rfl) dX10_hand_15 ?_
      refine am_iload_n (x := a) X (by rfl) dX10_hand_16 ?_
      refine am_bipush X (by decide) dX10_hand_17 ?_
      refine am_rem (v := (a % 100)) X (by omega) (by omega) rfl dX10_hand_19 ?_
      refine am_callVi (ci := 9) X hY lk_X10_146 mf_X10_isDebt (m_X10_isDebt (a % 100) σ hc) (by decide) (by decide) (Nat.le_refl _) (Nat.le_refl _) sh_63 rfl rfl rfl (Nat.le_of_ble_eq_true rfl) dX10_hand_20 (fun r20 sh20 σ20 hr20 hp20 => ?_)
      obtain ⟨rfl, rfl, hq20⟩ := hp20
      refine am_if_ne (tgt := 28) X dX10_hand_23 (by decide) (fun h23 => ?_) (fun h23 => ?_)
      · skip
        have hda := hd (a / 100).toNat (by omega)
        have hdb := hd (a % 100).toNat (by omega)
        refine am_iload_n (x := a) X (by rfl) dX10_hand_28 ?_
        refine am_bipush X (by decide) dX10_hand_29 ?_
        refine am_div (v := (a / 100)) X (by omega) (by omega) rfl dX10_hand_31 ?_
        refine am_istore_n (i := 2) (L' := [some (vr 63), some (vi a), some (vi (a / 100)), none, none]) X rfl (Nat.le_of_ble_eq_true rfl) (by rfl) dX10_hand_32 ?_
        refine am_iload_n (x := a) X (by rfl) dX10_hand_33 ?_
        refine am_bipush X (by decide) dX10_hand_34 ?_
        refine am_rem (v := (a % 100)) X (by omega) (by omega) rfl dX10_hand_36 ?_
        refine am_istore_n (i := 3) (L' := [some (vr 63), some (vi a), some (vi (a / 100)), some (vi (a % 100)), none]) X rfl (Nat.le_of_ble_eq_true rfl) (by rfl) dX10_hand_37 ?_
        refine am_aload_n (x := 63) X (by rfl) dX10_hand_38 ?_
        refine am_getr (c1 := 68) X 63 fl_X10_22 (by decide) sh_63 (by decide) (by rfl) dX10_hand_39 ?_
        refine am_ic X (by decide) dX10_hand_42 ?_
        refine am_iload_n (x := (a / 100)) X (by rfl) dX10_hand_43 ?_
        refine am_mul (v := (5 * (a / 100))) X (by first | rfl | omega) (by omega) dX10_hand_44 ?_
        refine am_ic X (by decide) dX10_hand_45 ?_
        refine am_add (v := ((5 * (a / 100)) + 2)) X (by first | rfl | omega) (by omega) dX10_hand_46 ?_
        refine am_ald (v := σ 68 (5 * (a / 100).toNat + 2)) X 68 (5 * (a / 100).toNat + 2) sh_68 (by omega) (by omega) (rfl) dX10_hand_47 ?_
        refine am_aload_n (x := 63) X (by rfl) dX10_hand_48 ?_
        refine am_getr (c1 := 68) X 63 fl_X10_22 (by decide) sh_63 (by decide) (by rfl) dX10_hand_49 ?_
        refine am_ic X (by decide) dX10_hand_52 ?_
        refine am_iload_n (x := (a % 100)) X (by rfl) dX10_hand_53 ?_
        refine am_mul (v := (5 * (a % 100))) X (by first | rfl | omega) (by omega) dX10_hand_54 ?_
        refine am_ic X (by decide) dX10_hand_55 ?_
        refine am_add (v := ((5 * (a % 100)) + 2)) X (by first | rfl | omega) (by omega) dX10_hand_56 ?_
        refine am_ald (v := σ 68 (5 * (a % 100).toNat + 2)) X 68 (5 * (a % 100).toNat + 2) sh_68 (by omega) (by omega) (rfl) dX10_hand_57 ?_
        refine am_icmp_ne (tgt := 111) X dX10_hand_58 (by decide) (fun h58 => ?_) (fun h58 => ?_)
        · skip
          refine am_ic X (by decide) dX10_hand_111 ?_
          refine am_istore (i := 4) (L' := [some (vr 63), some (vi a), some (vi (a / 100)), some (vi (a % 100)), some (vi 0)]) X (Nat.le_of_ble_eq_true rfl) (by rfl) dX10_hand_112 ?_
          refine am_iload_n (x := (a / 100)) X (by rfl) dX10_hand_114 ?_
          refine am_iload_n (x := (a % 100)) X (by rfl) dX10_hand_115 ?_
          refine am_icmp_eq (tgt := 182) X dX10_hand_116 (by decide) (fun h116 => ?_) (fun h116 => ?_)
          · skip
            refine am_bipush X (by decide) dX10_hand_182 ?_
            exact hret _ _ _ _ _ dX10_hand_184 rfl rfl (by first | exact ⟨rfl, Or.inl ⟨by omega, by omega, rfl⟩⟩ | exact ⟨rfl, Or.inr (Or.inl ⟨by omega, by omega, rfl⟩)⟩ | exact ⟨rfl, Or.inr (Or.inr (⟨by omega, by omega, rfl⟩))⟩)
          · skip
            refine am_aload_n (x := 63) X (by rfl) dX10_hand_119 ?_
            refine am_iload_n (x := (a / 100)) X (by rfl) dX10_hand_120 ?_
            refine am_callVi (ci := 9) X hY lk_X10_240 mf_X10_isOpen (m_X10_isOpen (a / 100) (((a / 100)).toNat) (by omega) (by omega) σ) (by decide) (by decide) (Nat.le_refl _) (Nat.le_refl _) sh_63 rfl rfl rfl (Nat.le_of_ble_eq_true rfl) dX10_hand_121 (fun r121 sh121 σ121 hr121 hp121 => ?_)
            obtain ⟨rfl, rfl, hq121⟩ := hp121
            refine am_if_eq (tgt := 182) X dX10_hand_124 (by decide) (fun h124 => ?_) (fun h124 => ?_)
            · skip
              refine am_bipush X (by decide) dX10_hand_182 ?_
              exact hret _ _ _ _ _ dX10_hand_184 rfl rfl (by first | exact ⟨rfl, Or.inl ⟨by omega, by omega, rfl⟩⟩ | exact ⟨rfl, Or.inr (Or.inl ⟨by omega, by omega, rfl⟩)⟩ | exact ⟨rfl, Or.inr (Or.inr (⟨by omega, by omega, rfl⟩))⟩)
            · skip
              refine am_aload_n (x := 63) X (by rfl) dX10_hand_127 ?_
              refine am_iload_n (x := (a % 100)) X (by rfl) dX10_hand_128 ?_
              refine am_callVi (ci := 9) X hY lk_X10_240 mf_X10_isOpen (m_X10_isOpen (a % 100) (((a % 100)).toNat) (by omega) (by omega) σ) (by decide) (by decide) (Nat.le_refl _) (Nat.le_refl _) sh_63 rfl rfl rfl (Nat.le_of_ble_eq_true rfl) dX10_hand_129 (fun r129 sh129 σ129 hr129 hp129 => ?_)
              obtain ⟨rfl, rfl, hq129⟩ := hp129
              refine am_if_eq (tgt := 182) X dX10_hand_132 (by decide) (fun h132 => ?_) (fun h132 => ?_)
              · skip
                refine am_bipush X (by decide) dX10_hand_182 ?_
                exact hret _ _ _ _ _ dX10_hand_184 rfl rfl (by first | exact ⟨rfl, Or.inl ⟨by omega, by omega, rfl⟩⟩ | exact ⟨rfl, Or.inr (Or.inl ⟨by omega, by omega, rfl⟩)⟩ | exact ⟨rfl, Or.inr (Or.inr (⟨by omega, by omega, rfl⟩))⟩)
              · skip
                refine am_iload (x := 0) X (by rfl) dX10_hand_135 ?_
                refine am_if_eq (tgt := 182) X dX10_hand_137 (by decide) (fun h137 => ?_) (fun h137 => ?_)
                · skip
                  refine am_bipush X (by decide) dX10_hand_182 ?_
                  exact hret _ _ _ _ _ dX10_hand_184 rfl rfl (by first | exact ⟨rfl, Or.inl ⟨by omega, by omega, rfl⟩⟩ | exact ⟨rfl, Or.inr (Or.inl ⟨by omega, by omega, rfl⟩)⟩ | exact ⟨rfl, Or.inr (Or.inr (⟨by omega, by omega, rfl⟩))⟩)
                · skip
                  refine am_aload_n (x := 63) X (by rfl) dX10_hand_140 ?_
                  refine am_getr (c1 := 68) X 63 fl_X10_22 (by decide) sh_63 (by decide) (by rfl) dX10_hand_141 ?_
                  refine am_ic X (by decide) dX10_hand_144 ?_
                  refine am_iload_n (x := (a / 100)) X (by rfl) dX10_hand_145 ?_
                  refine am_mul (v := (5 * (a / 100))) X (by first | rfl | omega) (by omega) dX10_hand_146 ?_
                  refine am_ic X (by decide) dX10_hand_147 ?_
                  refine am_add (v := ((5 * (a / 100)) + 1)) X (by first | rfl | omega) (by omega) dX10_hand_148 ?_
                  refine am_ald (v := σ 68 (5 * (a / 100).toNat + 1)) X 68 (5 * (a / 100).toNat + 1) sh_68 (by omega) (by omega) (rfl) dX10_hand_149 ?_
                  refine am_aload_n (x := 63) X (by rfl) dX10_hand_150 ?_
                  refine am_getr (c1 := 68) X 63 fl_X10_22 (by decide) sh_63 (by decide) (by rfl) dX10_hand_151 ?_
                  refine am_ic X (by decide) dX10_hand_154 ?_
                  refine am_iload_n (x := (a % 100)) X (by rfl) dX10_hand_155 ?_
                  refine am_mul (v := (5 * (a % 100))) X (by first | rfl | omega) (by omega) dX10_hand_156 ?_
                  refine am_ald (v := σ 68 (5 * (a % 100).toNat)) X 68 (5 * (a % 100).toNat) sh_68 (by omega) (by omega) (rfl) dX10_hand_157 ?_
                  refine am_icmp_ne (tgt := 182) X dX10_hand_158 (by decide) (fun h158 => ?_) (fun h158 => ?_)
                  · skip
                    refine am_bipush X (by decide) dX10_hand_182 ?_
                    exact hret _ _ _ _ _ dX10_hand_184 rfl rfl (by first | exact ⟨rfl, Or.inl ⟨by omega, by omega, rfl⟩⟩ | exact ⟨rfl, Or.inr (Or.inl ⟨by omega, by omega, rfl⟩)⟩ | exact ⟨rfl, Or.inr (Or.inr (⟨by omega, by omega, rfl⟩))⟩)
                  · skip
                    refine am_aload_n (x := 63) X (by rfl) dX10_hand_161 ?_
                    refine am_getr (c1 := 68) X 63 fl_X10_22 (by decide) sh_63 (by decide) (by rfl) dX10_hand_162 ?_
                    refine am_ic X (by decide) dX10_hand_165 ?_
                    refine am_iload_n (x := (a % 100)) X (by rfl) dX10_hand_166 ?_
                    refine am_mul (v := (5 * (a % 100))) X (by first | rfl | omega) (by omega) dX10_hand_167 ?_
                    refine am_ic X (by decide) dX10_hand_168 ?_
                    refine am_add (v := ((5 * (a % 100)) + 1)) X (by first | rfl | omega) (by omega) dX10_hand_169 ?_
                    refine am_ald (v := σ 68 (5 * (a % 100).toNat + 1)) X 68 (5 * (a % 100).toNat + 1) sh_68 (by omega) (by omega) (rfl) dX10_hand_170 ?_
                    refine am_aload_n (x := 63) X (by rfl) dX10_hand_171 ?_
                    refine am_getr (c1 := 68) X 63 fl_X10_22 (by decide) sh_63 (by decide) (by rfl) dX10_hand_172 ?_
                    refine am_ic X (by decide) dX10_hand_175 ?_
                    refine am_iload_n (x := (a / 100)) X (by rfl) dX10_hand_176 ?_
                    refine am_mul (v := (5 * (a / 100))) X (by first | rfl | omega) (by omega) dX10_hand_177 ?_
                    refine am_ald (v := σ 68 (5 * (a / 100).toNat)) X 68 (5 * (a / 100).toNat) sh_68 (by omega) (by omega) (rfl) dX10_hand_178 ?_
                    refine am_icmp_ne (tgt := 185) X dX10_hand_179 (by decide) (fun h179 => ?_) (fun h179 => ?_)
                    · skip
                      refine am_aload_n (x := 63) X (by rfl) dX10_hand_185 ?_
                      refine am_getr (c1 := 68) X 63 fl_X10_22 (by decide) sh_63 (by decide) (by rfl) dX10_hand_186 ?_
                      refine am_ic X (by decide) dX10_hand_189 ?_
                      refine am_iload_n (x := (a / 100)) X (by rfl) dX10_hand_190 ?_
                      refine am_mul (v := (5 * (a / 100))) X (by first | rfl | omega) (by omega) dX10_hand_191 ?_
                      refine am_ic X (by decide) dX10_hand_192 ?_
                      refine am_add (v := ((5 * (a / 100)) + 1)) X (by first | rfl | omega) (by omega) dX10_hand_193 ?_
                      refine am_aload_n (x := 63) X (by rfl) dX10_hand_194 ?_
                      refine am_getr (c1 := 68) X 63 fl_X10_22 (by decide) sh_63 (by decide) (by rfl) dX10_hand_195 ?_
                      refine am_ic X (by decide) dX10_hand_198 ?_
                      refine am_iload_n (x := (a % 100)) X (by rfl) dX10_hand_199 ?_
                      refine am_mul (v := (5 * (a % 100))) X (by first | rfl | omega) (by omega) dX10_hand_200 ?_
                      refine am_ic X (by decide) dX10_hand_201 ?_
                      refine am_add (v := ((5 * (a % 100)) + 1)) X (by first | rfl | omega) (by omega) dX10_hand_202 ?_
                      refine am_ald (v := σ 68 (5 * (a % 100).toNat + 1)) X 68 (5 * (a % 100).toNat + 1) sh_68 (by omega) (by omega) (rfl) dX10_hand_203 ?_
                      refine am_ast X 68 (5 * (a / 100).toNat + 1) sh_68 (by omega) (by omega) dX10_hand_204 ?_
                      refine am_aload_n (x := 63) X (by rfl) dX10_hand_205 ?_
                      refine am_iload_n (x := (a % 100)) X (by rfl) dX10_hand_206 ?_
                      refine am_aload_n (x := 63) X (by rfl) dX10_hand_207 ?_
                      refine am_getr (c1 := 68) X 63 fl_X10_22 (by decide) sh_63 (by decide) (by rfl) dX10_hand_208 ?_
                      refine am_ic X (by decide) dX10_hand_211 ?_
                      refine am_iload_n (x := (a % 100)) X (by rfl) dX10_hand_212 ?_
                      refine am_mul (v := (5 * (a % 100))) X (by first | rfl | omega) (by omega) dX10_hand_213 ?_
                      refine am_ic X (by decide) dX10_hand_214 ?_
                      refine am_add (v := ((5 * (a % 100)) + 2)) X (by first | rfl | omega) (by omega) dX10_hand_215 ?_
                      refine am_ald (v := (σ 68 (5 * (a % 100).toNat + 2))) X 68 (5 * (a % 100).toNat + 2) sh_68 (by omega) (by omega) (am_up_k (by omega)) dX10_hand_216 ?_
                      refine am_callVv (ci := 9) X hY lk_X10_249 mf_X10_loses (m_X10_loses (a % 100) (a % 100).toNat (by omega) (by omega) (σ 68 (5 * (a % 100).toNat + 2)) (am_up σ 68 (5 * (a / 100).toNat + 1) (σ 68 (5 * (a % 100).toNat + 1))) (by rw [am_up_k (by omega)]; omega)) (by decide) (by decide) (Nat.le_refl _) (Nat.le_refl _) sh_63 rfl rfl rfl (Nat.le_of_ble_eq_true rfl) dX10_hand_217 (fun sh217 σ217 hp217 => ?_)
                      obtain ⟨rfl, rfl, hq217⟩ := hp217
                      refine am_ic X (by decide) dX10_hand_220 ?_
                      exact hret _ _ _ _ _ dX10_hand_221 rfl rfl (by first | exact ⟨rfl, Or.inl ⟨by omega, by omega, rfl⟩⟩ | exact ⟨rfl, Or.inr (Or.inl ⟨by omega, by omega, rfl⟩)⟩ | exact ⟨rfl, Or.inr (Or.inr (⟨by omega, by omega, rfl⟩))⟩)
                    · skip
                      refine am_bipush X (by decide) dX10_hand_182 ?_
                      exact hret _ _ _ _ _ dX10_hand_184 rfl rfl (by first | exact ⟨rfl, Or.inl ⟨by omega, by omega, rfl⟩⟩ | exact ⟨rfl, Or.inr (Or.inl ⟨by omega, by omega, rfl⟩)⟩ | exact ⟨rfl, Or.inr (Or.inr (⟨by omega, by omega, rfl⟩))⟩)
        · skip
          refine am_aload_n (x := 63) X (by rfl) dX10_hand_61 ?_
          refine am_getr (c1 := 68) X 63 fl_X10_22 (by decide) sh_63 (by decide) (by rfl) dX10_hand_62 ?_
          refine am_ic X (by decide) dX10_hand_65 ?_
          refine am_iload_n (x := (a / 100)) X (by rfl) dX10_hand_66 ?_
          refine am_mul (v := (5 * (a / 100))) X (by first | rfl | omega) (by omega) dX10_hand_67 ?_
          refine am_ic X (by decide) dX10_hand_68 ?_
          refine am_add (v := ((5 * (a / 100)) + 3)) X (by first | rfl | omega) (by omega) dX10_hand_69 ?_
          refine am_ald (v := σ 68 (5 * (a / 100).toNat + 3)) X 68 (5 * (a / 100).toNat + 3) sh_68 (by omega) (by omega) (rfl) dX10_hand_70 ?_
          refine am_aload_n (x := 63) X (by rfl) dX10_hand_71 ?_
          refine am_getr (c1 := 68) X 63 fl_X10_22 (by decide) sh_63 (by decide) (by rfl) dX10_hand_72 ?_
          refine am_ic X (by decide) dX10_hand_75 ?_
          refine am_iload_n (x := (a % 100)) X (by rfl) dX10_hand_76 ?_
          refine am_mul (v := (5 * (a % 100))) X (by first | rfl | omega) (by omega) dX10_hand_77 ?_
          refine am_ic X (by decide) dX10_hand_78 ?_
          refine am_add (v := ((5 * (a % 100)) + 3)) X (by first | rfl | omega) (by omega) dX10_hand_79 ?_
          refine am_ald (v := σ 68 (5 * (a % 100).toNat + 3)) X 68 (5 * (a % 100).toNat + 3) sh_68 (by omega) (by omega) (rfl) dX10_hand_80 ?_
          refine am_icmp_ne (tgt := 111) X dX10_hand_81 (by decide) (fun h81 => ?_) (fun h81 => ?_)
          · skip
            refine am_ic X (by decide) dX10_hand_111 ?_
            refine am_istore (i := 4) (L' := [some (vr 63), some (vi a), some (vi (a / 100)), some (vi (a % 100)), some (vi 0)]) X (Nat.le_of_ble_eq_true rfl) (by rfl) dX10_hand_112 ?_
            refine am_iload_n (x := (a / 100)) X (by rfl) dX10_hand_114 ?_
            refine am_iload_n (x := (a % 100)) X (by rfl) dX10_hand_115 ?_
            refine am_icmp_eq (tgt := 182) X dX10_hand_116 (by decide) (fun h116 => ?_) (fun h116 => ?_)
            · skip
              refine am_bipush X (by decide) dX10_hand_182 ?_
              exact hret _ _ _ _ _ dX10_hand_184 rfl rfl (by first | exact ⟨rfl, Or.inl ⟨by omega, by omega, rfl⟩⟩ | exact ⟨rfl, Or.inr (Or.inl ⟨by omega, by omega, rfl⟩)⟩ | exact ⟨rfl, Or.inr (Or.inr (⟨by omega, by omega, rfl⟩))⟩)
            · skip
              refine am_aload_n (x := 63) X (by rfl) dX10_hand_119 ?_
              refine am_iload_n (x := (a / 100)) X (by rfl) dX10_hand_120 ?_
              refine am_callVi (ci := 9) X hY lk_X10_240 mf_X10_isOpen (m_X10_isOpen (a / 100) (((a / 100)).toNat) (by omega) (by omega) σ) (by decide) (by decide) (Nat.le_refl _) (Nat.le_refl _) sh_63 rfl rfl rfl (Nat.le_of_ble_eq_true rfl) dX10_hand_121 (fun r121 sh121 σ121 hr121 hp121 => ?_)
              obtain ⟨rfl, rfl, hq121⟩ := hp121
              refine am_if_eq (tgt := 182) X dX10_hand_124 (by decide) (fun h124 => ?_) (fun h124 => ?_)
              · skip
                refine am_bipush X (by decide) dX10_hand_182 ?_
                exact hret _ _ _ _ _ dX10_hand_184 rfl rfl (by first | exact ⟨rfl, Or.inl ⟨by omega, by omega, rfl⟩⟩ | exact ⟨rfl, Or.inr (Or.inl ⟨by omega, by omega, rfl⟩)⟩ | exact ⟨rfl, Or.inr (Or.inr (⟨by omega, by omega, rfl⟩))⟩)
              · skip
                refine am_aload_n (x := 63) X (by rfl) dX10_hand_127 ?_
                refine am_iload_n (x := (a % 100)) X (by rfl) dX10_hand_128 ?_
                refine am_callVi (ci := 9) X hY lk_X10_240 mf_X10_isOpen (m_X10_isOpen (a % 100) (((a % 100)).toNat) (by omega) (by omega) σ) (by decide) (by decide) (Nat.le_refl _) (Nat.le_refl _) sh_63 rfl rfl rfl (Nat.le_of_ble_eq_true rfl) dX10_hand_129 (fun r129 sh129 σ129 hr129 hp129 => ?_)
                obtain ⟨rfl, rfl, hq129⟩ := hp129
                refine am_if_eq (tgt := 182) X dX10_hand_132 (by decide) (fun h132 => ?_) (fun h132 => ?_)
                · skip
                  refine am_bipush X (by decide) dX10_hand_182 ?_
                  exact hret _ _ _ _ _ dX10_hand_184 rfl rfl (by first | exact ⟨rfl, Or.inl ⟨by omega, by omega, rfl⟩⟩ | exact ⟨rfl, Or.inr (Or.inl ⟨by omega, by omega, rfl⟩)⟩ | exact ⟨rfl, Or.inr (Or.inr (⟨by omega, by omega, rfl⟩))⟩)
                · skip
                  refine am_iload (x := 0) X (by rfl) dX10_hand_135 ?_
                  refine am_if_eq (tgt := 182) X dX10_hand_137 (by decide) (fun h137 => ?_) (fun h137 => ?_)
                  · skip
                    refine am_bipush X (by decide) dX10_hand_182 ?_
                    exact hret _ _ _ _ _ dX10_hand_184 rfl rfl (by first | exact ⟨rfl, Or.inl ⟨by omega, by omega, rfl⟩⟩ | exact ⟨rfl, Or.inr (Or.inl ⟨by omega, by omega, rfl⟩)⟩ | exact ⟨rfl, Or.inr (Or.inr (⟨by omega, by omega, rfl⟩))⟩)
                  · skip
                    refine am_aload_n (x := 63) X (by rfl) dX10_hand_140 ?_
                    refine am_getr (c1 := 68) X 63 fl_X10_22 (by decide) sh_63 (by decide) (by rfl) dX10_hand_141 ?_
                    refine am_ic X (by decide) dX10_hand_144 ?_
                    refine am_iload_n (x := (a / 100)) X (by rfl) dX10_hand_145 ?_
                    refine am_mul (v := (5 * (a / 100))) X (by first | rfl | omega) (by omega) dX10_hand_146 ?_
                    refine am_ic X (by decide) dX10_hand_147 ?_
                    refine am_add (v := ((5 * (a / 100)) + 1)) X (by first | rfl | omega) (by omega) dX10_hand_148 ?_
                    refine am_ald (v := σ 68 (5 * (a / 100).toNat + 1)) X 68 (5 * (a / 100).toNat + 1) sh_68 (by omega) (by omega) (rfl) dX10_hand_149 ?_
                    refine am_aload_n (x := 63) X (by rfl) dX10_hand_150 ?_
                    refine am_getr (c1 := 68) X 63 fl_X10_22 (by decide) sh_63 (by decide) (by rfl) dX10_hand_151 ?_
                    refine am_ic X (by decide) dX10_hand_154 ?_
                    refine am_iload_n (x := (a % 100)) X (by rfl) dX10_hand_155 ?_
                    refine am_mul (v := (5 * (a % 100))) X (by first | rfl | omega) (by omega) dX10_hand_156 ?_
                    refine am_ald (v := σ 68 (5 * (a % 100).toNat)) X 68 (5 * (a % 100).toNat) sh_68 (by omega) (by omega) (rfl) dX10_hand_157 ?_
                    refine am_icmp_ne (tgt := 182) X dX10_hand_158 (by decide) (fun h158 => ?_) (fun h158 => ?_)
                    · skip
                      refine am_bipush X (by decide) dX10_hand_182 ?_
                      exact hret _ _ _ _ _ dX10_hand_184 rfl rfl (by first | exact ⟨rfl, Or.inl ⟨by omega, by omega, rfl⟩⟩ | exact ⟨rfl, Or.inr (Or.inl ⟨by omega, by omega, rfl⟩)⟩ | exact ⟨rfl, Or.inr (Or.inr (⟨by omega, by omega, rfl⟩))⟩)
                    · skip
                      refine am_aload_n (x := 63) X (by rfl) dX10_hand_161 ?_
                      refine am_getr (c1 := 68) X 63 fl_X10_22 (by decide) sh_63 (by decide) (by rfl) dX10_hand_162 ?_
                      refine am_ic X (by decide) dX10_hand_165 ?_
                      refine am_iload_n (x := (a % 100)) X (by rfl) dX10_hand_166 ?_
                      refine am_mul (v := (5 * (a % 100))) X (by first | rfl | omega) (by omega) dX10_hand_167 ?_
                      refine am_ic X (by decide) dX10_hand_168 ?_
                      refine am_add (v := ((5 * (a % 100)) + 1)) X (by first | rfl | omega) (by omega) dX10_hand_169 ?_
                      refine am_ald (v := σ 68 (5 * (a % 100).toNat + 1)) X 68 (5 * (a % 100).toNat + 1) sh_68 (by omega) (by omega) (rfl) dX10_hand_170 ?_
                      refine am_aload_n (x := 63) X (by rfl) dX10_hand_171 ?_
                      refine am_getr (c1 := 68) X 63 fl_X10_22 (by decide) sh_63 (by decide) (by rfl) dX10_hand_172 ?_
                      refine am_ic X (by decide) dX10_hand_175 ?_
                      refine am_iload_n (x := (a / 100)) X (by rfl) dX10_hand_176 ?_
                      refine am_mul (v := (5 * (a / 100))) X (by first | rfl | omega) (by omega) dX10_hand_177 ?_
                      refine am_ald (v := σ 68 (5 * (a / 100).toNat)) X 68 (5 * (a / 100).toNat) sh_68 (by omega) (by omega) (rfl) dX10_hand_178 ?_
                      refine am_icmp_ne (tgt := 185) X dX10_hand_179 (by decide) (fun h179 => ?_) (fun h179 => ?_)
                      · skip
                        refine am_aload_n (x := 63) X (by rfl) dX10_hand_185 ?_
                        refine am_getr (c1 := 68) X 63 fl_X10_22 (by decide) sh_63 (by decide) (by rfl) dX10_hand_186 ?_
                        refine am_ic X (by decide) dX10_hand_189 ?_
                        refine am_iload_n (x := (a / 100)) X (by rfl) dX10_hand_190 ?_
                        refine am_mul (v := (5 * (a / 100))) X (by first | rfl | omega) (by omega) dX10_hand_191 ?_
                        refine am_ic X (by decide) dX10_hand_192 ?_
                        refine am_add (v := ((5 * (a / 100)) + 1)) X (by first | rfl | omega) (by omega) dX10_hand_193 ?_
                        refine am_aload_n (x := 63) X (by rfl) dX10_hand_194 ?_
                        refine am_getr (c1 := 68) X 63 fl_X10_22 (by decide) sh_63 (by decide) (by rfl) dX10_hand_195 ?_
                        refine am_ic X (by decide) dX10_hand_198 ?_
                        refine am_iload_n (x := (a % 100)) X (by rfl) dX10_hand_199 ?_
                        refine am_mul (v := (5 * (a % 100))) X (by first | rfl | omega) (by omega) dX10_hand_200 ?_
                        refine am_ic X (by decide) dX10_hand_201 ?_
                        refine am_add (v := ((5 * (a % 100)) + 1)) X (by first | rfl | omega) (by omega) dX10_hand_202 ?_
                        refine am_ald (v := σ 68 (5 * (a % 100).toNat + 1)) X 68 (5 * (a % 100).toNat + 1) sh_68 (by omega) (by omega) (rfl) dX10_hand_203 ?_
                        refine am_ast X 68 (5 * (a / 100).toNat + 1) sh_68 (by omega) (by omega) dX10_hand_204 ?_
                        refine am_aload_n (x := 63) X (by rfl) dX10_hand_205 ?_
                        refine am_iload_n (x := (a % 100)) X (by rfl) dX10_hand_206 ?_
                        refine am_aload_n (x := 63) X (by rfl) dX10_hand_207 ?_
                        refine am_getr (c1 := 68) X 63 fl_X10_22 (by decide) sh_63 (by decide) (by rfl) dX10_hand_208 ?_
                        refine am_ic X (by decide) dX10_hand_211 ?_
                        refine am_iload_n (x := (a % 100)) X (by rfl) dX10_hand_212 ?_
                        refine am_mul (v := (5 * (a % 100))) X (by first | rfl | omega) (by omega) dX10_hand_213 ?_
                        refine am_ic X (by decide) dX10_hand_214 ?_
                        refine am_add (v := ((5 * (a % 100)) + 2)) X (by first | rfl | omega) (by omega) dX10_hand_215 ?_
                        refine am_ald (v := (σ 68 (5 * (a % 100).toNat + 2))) X 68 (5 * (a % 100).toNat + 2) sh_68 (by omega) (by omega) (am_up_k (by omega)) dX10_hand_216 ?_
                        refine am_callVv (ci := 9) X hY lk_X10_249 mf_X10_loses (m_X10_loses (a % 100) (a % 100).toNat (by omega) (by omega) (σ 68 (5 * (a % 100).toNat + 2)) (am_up σ 68 (5 * (a / 100).toNat + 1) (σ 68 (5 * (a % 100).toNat + 1))) (by rw [am_up_k (by omega)]; omega)) (by decide) (by decide) (Nat.le_refl _) (Nat.le_refl _) sh_63 rfl rfl rfl (Nat.le_of_ble_eq_true rfl) dX10_hand_217 (fun sh217 σ217 hp217 => ?_)
                        obtain ⟨rfl, rfl, hq217⟩ := hp217
                        refine am_ic X (by decide) dX10_hand_220 ?_
                        exact hret _ _ _ _ _ dX10_hand_221 rfl rfl (by first | exact ⟨rfl, Or.inl ⟨by omega, by omega, rfl⟩⟩ | exact ⟨rfl, Or.inr (Or.inl ⟨by omega, by omega, rfl⟩)⟩ | exact ⟨rfl, Or.inr (Or.inr (⟨by omega, by omega, rfl⟩))⟩)
                      · skip
                        refine am_bipush X (by decide) dX10_hand_182 ?_
                        exact hret _ _ _ _ _ dX10_hand_184 rfl rfl (by first | exact ⟨rfl, Or.inl ⟨by omega, by omega, rfl⟩⟩ | exact ⟨rfl, Or.inr (Or.inl ⟨by omega, by omega, rfl⟩)⟩ | exact ⟨rfl, Or.inr (Or.inr (⟨by omega, by omega, rfl⟩))⟩)
          · skip
            refine am_aload_n (x := 63) X (by rfl) dX10_hand_84 ?_
            refine am_getr (c1 := 68) X 63 fl_X10_22 (by decide) sh_63 (by decide) (by rfl) dX10_hand_85 ?_
            refine am_ic X (by decide) dX10_hand_88 ?_
            refine am_iload_n (x := (a / 100)) X (by rfl) dX10_hand_89 ?_
            refine am_mul (v := (5 * (a / 100))) X (by first | rfl | omega) (by omega) dX10_hand_90 ?_
            refine am_ic X (by decide) dX10_hand_91 ?_
            refine am_add (v := ((5 * (a / 100)) + 4)) X (by first | rfl | omega) (by omega) dX10_hand_92 ?_
            refine am_ald (v := σ 68 (5 * (a / 100).toNat + 4)) X 68 (5 * (a / 100).toNat + 4) sh_68 (by omega) (by omega) (rfl) dX10_hand_93 ?_
            refine am_aload_n (x := 63) X (by rfl) dX10_hand_94 ?_
            refine am_getr (c1 := 68) X 63 fl_X10_22 (by decide) sh_63 (by decide) (by rfl) dX10_hand_95 ?_
            refine am_ic X (by decide) dX10_hand_98 ?_
            refine am_iload_n (x := (a % 100)) X (by rfl) dX10_hand_99 ?_
            refine am_mul (v := (5 * (a % 100))) X (by first | rfl | omega) (by omega) dX10_hand_100 ?_
            refine am_ic X (by decide) dX10_hand_101 ?_
            refine am_add (v := ((5 * (a % 100)) + 4)) X (by first | rfl | omega) (by omega) dX10_hand_102 ?_
            refine am_ald (v := σ 68 (5 * (a % 100).toNat + 4)) X 68 (5 * (a % 100).toNat + 4) sh_68 (by omega) (by omega) (rfl) dX10_hand_103 ?_
            refine am_icmp_ne (tgt := 111) X dX10_hand_104 (by decide) (fun h104 => ?_) (fun h104 => ?_)
            · skip
              refine am_ic X (by decide) dX10_hand_111 ?_
              refine am_istore (i := 4) (L' := [some (vr 63), some (vi a), some (vi (a / 100)), some (vi (a % 100)), some (vi 0)]) X (Nat.le_of_ble_eq_true rfl) (by rfl) dX10_hand_112 ?_
              refine am_iload_n (x := (a / 100)) X (by rfl) dX10_hand_114 ?_
              refine am_iload_n (x := (a % 100)) X (by rfl) dX10_hand_115 ?_
              refine am_icmp_eq (tgt := 182) X dX10_hand_116 (by decide) (fun h116 => ?_) (fun h116 => ?_)
              · skip
                refine am_bipush X (by decide) dX10_hand_182 ?_
                exact hret _ _ _ _ _ dX10_hand_184 rfl rfl (by first | exact ⟨rfl, Or.inl ⟨by omega, by omega, rfl⟩⟩ | exact ⟨rfl, Or.inr (Or.inl ⟨by omega, by omega, rfl⟩)⟩ | exact ⟨rfl, Or.inr (Or.inr (⟨by omega, by omega, rfl⟩))⟩)
              · skip
                refine am_aload_n (x := 63) X (by rfl) dX10_hand_119 ?_
                refine am_iload_n (x := (a / 100)) X (by rfl) dX10_hand_120 ?_
                refine am_callVi (ci := 9) X hY lk_X10_240 mf_X10_isOpen (m_X10_isOpen (a / 100) (((a / 100)).toNat) (by omega) (by omega) σ) (by decide) (by decide) (Nat.le_refl _) (Nat.le_refl _) sh_63 rfl rfl rfl (Nat.le_of_ble_eq_true rfl) dX10_hand_121 (fun r121 sh121 σ121 hr121 hp121 => ?_)
                obtain ⟨rfl, rfl, hq121⟩ := hp121
                refine am_if_eq (tgt := 182) X dX10_hand_124 (by decide) (fun h124 => ?_) (fun h124 => ?_)
                · skip
                  refine am_bipush X (by decide) dX10_hand_182 ?_
                  exact hret _ _ _ _ _ dX10_hand_184 rfl rfl (by first | exact ⟨rfl, Or.inl ⟨by omega, by omega, rfl⟩⟩ | exact ⟨rfl, Or.inr (Or.inl ⟨by omega, by omega, rfl⟩)⟩ | exact ⟨rfl, Or.inr (Or.inr (⟨by omega, by omega, rfl⟩))⟩)
                · skip
                  refine am_aload_n (x := 63) X (by rfl) dX10_hand_127 ?_
                  refine am_iload_n (x := (a % 100)) X (by rfl) dX10_hand_128 ?_
                  refine am_callVi (ci := 9) X hY lk_X10_240 mf_X10_isOpen (m_X10_isOpen (a % 100) (((a % 100)).toNat) (by omega) (by omega) σ) (by decide) (by decide) (Nat.le_refl _) (Nat.le_refl _) sh_63 rfl rfl rfl (Nat.le_of_ble_eq_true rfl) dX10_hand_129 (fun r129 sh129 σ129 hr129 hp129 => ?_)
                  obtain ⟨rfl, rfl, hq129⟩ := hp129
                  refine am_if_eq (tgt := 182) X dX10_hand_132 (by decide) (fun h132 => ?_) (fun h132 => ?_)
                  · skip
                    refine am_bipush X (by decide) dX10_hand_182 ?_
                    exact hret _ _ _ _ _ dX10_hand_184 rfl rfl (by first | exact ⟨rfl, Or.inl ⟨by omega, by omega, rfl⟩⟩ | exact ⟨rfl, Or.inr (Or.inl ⟨by omega, by omega, rfl⟩)⟩ | exact ⟨rfl, Or.inr (Or.inr (⟨by omega, by omega, rfl⟩))⟩)
                  · skip
                    refine am_iload (x := 0) X (by rfl) dX10_hand_135 ?_
                    refine am_if_eq (tgt := 182) X dX10_hand_137 (by decide) (fun h137 => ?_) (fun h137 => ?_)
                    · skip
                      refine am_bipush X (by decide) dX10_hand_182 ?_
                      exact hret _ _ _ _ _ dX10_hand_184 rfl rfl (by first | exact ⟨rfl, Or.inl ⟨by omega, by omega, rfl⟩⟩ | exact ⟨rfl, Or.inr (Or.inl ⟨by omega, by omega, rfl⟩)⟩ | exact ⟨rfl, Or.inr (Or.inr (⟨by omega, by omega, rfl⟩))⟩)
                    · skip
                      refine am_aload_n (x := 63) X (by rfl) dX10_hand_140 ?_
                      refine am_getr (c1 := 68) X 63 fl_X10_22 (by decide) sh_63 (by decide) (by rfl) dX10_hand_141 ?_
                      refine am_ic X (by decide) dX10_hand_144 ?_
                      refine am_iload_n (x := (a / 100)) X (by rfl) dX10_hand_145 ?_
                      refine am_mul (v := (5 * (a / 100))) X (by first | rfl | omega) (by omega) dX10_hand_146 ?_
                      refine am_ic X (by decide) dX10_hand_147 ?_
                      refine am_add (v := ((5 * (a / 100)) + 1)) X (by first | rfl | omega) (by omega) dX10_hand_148 ?_
                      refine am_ald (v := σ 68 (5 * (a / 100).toNat + 1)) X 68 (5 * (a / 100).toNat + 1) sh_68 (by omega) (by omega) (rfl) dX10_hand_149 ?_
                      refine am_aload_n (x := 63) X (by rfl) dX10_hand_150 ?_
                      refine am_getr (c1 := 68) X 63 fl_X10_22 (by decide) sh_63 (by decide) (by rfl) dX10_hand_151 ?_
                      refine am_ic X (by decide) dX10_hand_154 ?_
                      refine am_iload_n (x := (a % 100)) X (by rfl) dX10_hand_155 ?_
                      refine am_mul (v := (5 * (a % 100))) X (by first | rfl | omega) (by omega) dX10_hand_156 ?_
                      refine am_ald (v := σ 68 (5 * (a % 100).toNat)) X 68 (5 * (a % 100).toNat) sh_68 (by omega) (by omega) (rfl) dX10_hand_157 ?_
                      refine am_icmp_ne (tgt := 182) X dX10_hand_158 (by decide) (fun h158 => ?_) (fun h158 => ?_)
                      · skip
                        refine am_bipush X (by decide) dX10_hand_182 ?_
                        exact hret _ _ _ _ _ dX10_hand_184 rfl rfl (by first | exact ⟨rfl, Or.inl ⟨by omega, by omega, rfl⟩⟩ | exact ⟨rfl, Or.inr (Or.inl ⟨by omega, by omega, rfl⟩)⟩ | exact ⟨rfl, Or.inr (Or.inr (⟨by omega, by omega, rfl⟩))⟩)
                      · skip
                        refine am_aload_n (x := 63) X (by rfl) dX10_hand_161 ?_
                        refine am_getr (c1 := 68) X 63 fl_X10_22 (by decide) sh_63 (by decide) (by rfl) dX10_hand_162 ?_
                        refine am_ic X (by decide) dX10_hand_165 ?_
                        refine am_iload_n (x := (a % 100)) X (by rfl) dX10_hand_166 ?_
                        refine am_mul (v := (5 * (a % 100))) X (by first | rfl | omega) (by omega) dX10_hand_167 ?_
                        refine am_ic X (by decide) dX10_hand_168 ?_
                        refine am_add (v := ((5 * (a % 100)) + 1)) X (by first | rfl | omega) (by omega) dX10_hand_169 ?_
                        refine am_ald (v := σ 68 (5 * (a % 100).toNat + 1)) X 68 (5 * (a % 100).toNat + 1) sh_68 (by omega) (by omega) (rfl) dX10_hand_170 ?_
                        refine am_aload_n (x := 63) X (by rfl) dX10_hand_171 ?_
                        refine am_getr (c1 := 68) X 63 fl_X10_22 (by decide) sh_63 (by decide) (by rfl) dX10_hand_172 ?_
                        refine am_ic X (by decide) dX10_hand_175 ?_
                        refine am_iload_n (x := (a / 100)) X (by rfl) dX10_hand_176 ?_
                        refine am_mul (v := (5 * (a / 100))) X (by first | rfl | omega) (by omega) dX10_hand_177 ?_
                        refine am_ald (v := σ 68 (5 * (a / 100).toNat)) X 68 (5 * (a / 100).toNat) sh_68 (by omega) (by omega) (rfl) dX10_hand_178 ?_
                        refine am_icmp_ne (tgt := 185) X dX10_hand_179 (by decide) (fun h179 => ?_) (fun h179 => ?_)
                        · skip
                          refine am_aload_n (x := 63) X (by rfl) dX10_hand_185 ?_
                          refine am_getr (c1 := 68) X 63 fl_X10_22 (by decide) sh_63 (by decide) (by rfl) dX10_hand_186 ?_
                          refine am_ic X (by decide) dX10_hand_189 ?_
                          refine am_iload_n (x := (a / 100)) X (by rfl) dX10_hand_190 ?_
                          refine am_mul (v := (5 * (a / 100))) X (by first | rfl | omega) (by omega) dX10_hand_191 ?_
                          refine am_ic X (by decide) dX10_hand_192 ?_
                          refine am_add (v := ((5 * (a / 100)) + 1)) X (by first | rfl | omega) (by omega) dX10_hand_193 ?_
                          refine am_aload_n (x := 63) X (by rfl) dX10_hand_194 ?_
                          refine am_getr (c1 := 68) X 63 fl_X10_22 (by decide) sh_63 (by decide) (by rfl) dX10_hand_195 ?_
                          refine am_ic X (by decide) dX10_hand_198 ?_
                          refine am_iload_n (x := (a % 100)) X (by rfl) dX10_hand_199 ?_
                          refine am_mul (v := (5 * (a % 100))) X (by first | rfl | omega) (by omega) dX10_hand_200 ?_
                          refine am_ic X (by decide) dX10_hand_201 ?_
                          refine am_add (v := ((5 * (a % 100)) + 1)) X (by first | rfl | omega) (by omega) dX10_hand_202 ?_
                          refine am_ald (v := σ 68 (5 * (a % 100).toNat + 1)) X 68 (5 * (a % 100).toNat + 1) sh_68 (by omega) (by omega) (rfl) dX10_hand_203 ?_
                          refine am_ast X 68 (5 * (a / 100).toNat + 1) sh_68 (by omega) (by omega) dX10_hand_204 ?_
                          refine am_aload_n (x := 63) X (by rfl) dX10_hand_205 ?_
                          refine am_iload_n (x := (a % 100)) X (by rfl) dX10_hand_206 ?_
                          refine am_aload_n (x := 63) X (by rfl) dX10_hand_207 ?_
                          refine am_getr (c1 := 68) X 63 fl_X10_22 (by decide) sh_63 (by decide) (by rfl) dX10_hand_208 ?_
                          refine am_ic X (by decide) dX10_hand_211 ?_
                          refine am_iload_n (x := (a % 100)) X (by rfl) dX10_hand_212 ?_
                          refine am_mul (v := (5 * (a % 100))) X (by first | rfl | omega) (by omega) dX10_hand_213 ?_
                          refine am_ic X (by decide) dX10_hand_214 ?_
                          refine am_add (v := ((5 * (a % 100)) + 2)) X (by first | rfl | omega) (by omega) dX10_hand_215 ?_
                          refine am_ald (v := (σ 68 (5 * (a % 100).toNat + 2))) X 68 (5 * (a % 100).toNat + 2) sh_68 (by omega) (by omega) (am_up_k (by omega)) dX10_hand_216 ?_
                          refine am_callVv (ci := 9) X hY lk_X10_249 mf_X10_loses (m_X10_loses (a % 100) (a % 100).toNat (by omega) (by omega) (σ 68 (5 * (a % 100).toNat + 2)) (am_up σ 68 (5 * (a / 100).toNat + 1) (σ 68 (5 * (a % 100).toNat + 1))) (by rw [am_up_k (by omega)]; omega)) (by decide) (by decide) (Nat.le_refl _) (Nat.le_refl _) sh_63 rfl rfl rfl (Nat.le_of_ble_eq_true rfl) dX10_hand_217 (fun sh217 σ217 hp217 => ?_)
                          obtain ⟨rfl, rfl, hq217⟩ := hp217
                          refine am_ic X (by decide) dX10_hand_220 ?_
                          exact hret _ _ _ _ _ dX10_hand_221 rfl rfl (by first | exact ⟨rfl, Or.inl ⟨by omega, by omega, rfl⟩⟩ | exact ⟨rfl, Or.inr (Or.inl ⟨by omega, by omega, rfl⟩)⟩ | exact ⟨rfl, Or.inr (Or.inr (⟨by omega, by omega, rfl⟩))⟩)
                        · skip
                          refine am_bipush X (by decide) dX10_hand_182 ?_
                          exact hret _ _ _ _ _ dX10_hand_184 rfl rfl (by first | exact ⟨rfl, Or.inl ⟨by omega, by omega, rfl⟩⟩ | exact ⟨rfl, Or.inr (Or.inl ⟨by omega, by omega, rfl⟩)⟩ | exact ⟨rfl, Or.inr (Or.inr (⟨by omega, by omega, rfl⟩))⟩)
            · skip
              refine am_ic X (by decide) dX10_hand_107 ?_
              refine am_goto (tgt := 112) X dX10_hand_108 (by decide) ?_
              refine am_istore (i := 4) (L' := [some (vr 63), some (vi a), some (vi (a / 100)), some (vi (a % 100)), some (vi 1)]) X (Nat.le_of_ble_eq_true rfl) (by rfl) dX10_hand_112 ?_
              refine am_iload_n (x := (a / 100)) X (by rfl) dX10_hand_114 ?_
              refine am_iload_n (x := (a % 100)) X (by rfl) dX10_hand_115 ?_
              refine am_icmp_eq (tgt := 182) X dX10_hand_116 (by decide) (fun h116 => ?_) (fun h116 => ?_)
              · skip
                refine am_bipush X (by decide) dX10_hand_182 ?_
                exact hret _ _ _ _ _ dX10_hand_184 rfl rfl (by first | exact ⟨rfl, Or.inl ⟨by omega, by omega, rfl⟩⟩ | exact ⟨rfl, Or.inr (Or.inl ⟨by omega, by omega, rfl⟩)⟩ | exact ⟨rfl, Or.inr (Or.inr (⟨by omega, by omega, rfl⟩))⟩)
              · skip
                refine am_aload_n (x := 63) X (by rfl) dX10_hand_119 ?_
                refine am_iload_n (x := (a / 100)) X (by rfl) dX10_hand_120 ?_
                refine am_callVi (ci := 9) X hY lk_X10_240 mf_X10_isOpen (m_X10_isOpen (a / 100) (((a / 100)).toNat) (by omega) (by omega) σ) (by decide) (by decide) (Nat.le_refl _) (Nat.le_refl _) sh_63 rfl rfl rfl (Nat.le_of_ble_eq_true rfl) dX10_hand_121 (fun r121 sh121 σ121 hr121 hp121 => ?_)
                obtain ⟨rfl, rfl, hq121⟩ := hp121
                refine am_if_eq (tgt := 182) X dX10_hand_124 (by decide) (fun h124 => ?_) (fun h124 => ?_)
                · skip
                  refine am_bipush X (by decide) dX10_hand_182 ?_
                  exact hret _ _ _ _ _ dX10_hand_184 rfl rfl (by first | exact ⟨rfl, Or.inl ⟨by omega, by omega, rfl⟩⟩ | exact ⟨rfl, Or.inr (Or.inl ⟨by omega, by omega, rfl⟩)⟩ | exact ⟨rfl, Or.inr (Or.inr (⟨by omega, by omega, rfl⟩))⟩)
                · skip
                  refine am_aload_n (x := 63) X (by rfl) dX10_hand_127 ?_
                  refine am_iload_n (x := (a % 100)) X (by rfl) dX10_hand_128 ?_
                  refine am_callVi (ci := 9) X hY lk_X10_240 mf_X10_isOpen (m_X10_isOpen (a % 100) (((a % 100)).toNat) (by omega) (by omega) σ) (by decide) (by decide) (Nat.le_refl _) (Nat.le_refl _) sh_63 rfl rfl rfl (Nat.le_of_ble_eq_true rfl) dX10_hand_129 (fun r129 sh129 σ129 hr129 hp129 => ?_)
                  obtain ⟨rfl, rfl, hq129⟩ := hp129
                  refine am_if_eq (tgt := 182) X dX10_hand_132 (by decide) (fun h132 => ?_) (fun h132 => ?_)
                  · skip
                    refine am_bipush X (by decide) dX10_hand_182 ?_
                    exact hret _ _ _ _ _ dX10_hand_184 rfl rfl (by first | exact ⟨rfl, Or.inl ⟨by omega, by omega, rfl⟩⟩ | exact ⟨rfl, Or.inr (Or.inl ⟨by omega, by omega, rfl⟩)⟩ | exact ⟨rfl, Or.inr (Or.inr (⟨by omega, by omega, rfl⟩))⟩)
                  · skip
                    refine am_iload (x := 1) X (by rfl) dX10_hand_135 ?_
                    refine am_if_eq (tgt := 182) X dX10_hand_137 (by decide) (fun h137 => ?_) (fun h137 => ?_)
                    · skip
                      refine am_bipush X (by decide) dX10_hand_182 ?_
                      exact hret _ _ _ _ _ dX10_hand_184 rfl rfl (by first | exact ⟨rfl, Or.inl ⟨by omega, by omega, rfl⟩⟩ | exact ⟨rfl, Or.inr (Or.inl ⟨by omega, by omega, rfl⟩)⟩ | exact ⟨rfl, Or.inr (Or.inr (⟨by omega, by omega, rfl⟩))⟩)
                    · skip
                      refine am_aload_n (x := 63) X (by rfl) dX10_hand_140 ?_
                      refine am_getr (c1 := 68) X 63 fl_X10_22 (by decide) sh_63 (by decide) (by rfl) dX10_hand_141 ?_
                      refine am_ic X (by decide) dX10_hand_144 ?_
                      refine am_iload_n (x := (a / 100)) X (by rfl) dX10_hand_145 ?_
                      refine am_mul (v := (5 * (a / 100))) X (by first | rfl | omega) (by omega) dX10_hand_146 ?_
                      refine am_ic X (by decide) dX10_hand_147 ?_
                      refine am_add (v := ((5 * (a / 100)) + 1)) X (by first | rfl | omega) (by omega) dX10_hand_148 ?_
                      refine am_ald (v := σ 68 (5 * (a / 100).toNat + 1)) X 68 (5 * (a / 100).toNat + 1) sh_68 (by omega) (by omega) (rfl) dX10_hand_149 ?_
                      refine am_aload_n (x := 63) X (by rfl) dX10_hand_150 ?_
                      refine am_getr (c1 := 68) X 63 fl_X10_22 (by decide) sh_63 (by decide) (by rfl) dX10_hand_151 ?_
                      refine am_ic X (by decide) dX10_hand_154 ?_
                      refine am_iload_n (x := (a % 100)) X (by rfl) dX10_hand_155 ?_
                      refine am_mul (v := (5 * (a % 100))) X (by first | rfl | omega) (by omega) dX10_hand_156 ?_
                      refine am_ald (v := σ 68 (5 * (a % 100).toNat)) X 68 (5 * (a % 100).toNat) sh_68 (by omega) (by omega) (rfl) dX10_hand_157 ?_
                      refine am_icmp_ne (tgt := 182) X dX10_hand_158 (by decide) (fun h158 => ?_) (fun h158 => ?_)
                      · skip
                        refine am_bipush X (by decide) dX10_hand_182 ?_
                        exact hret _ _ _ _ _ dX10_hand_184 rfl rfl (by first | exact ⟨rfl, Or.inl ⟨by omega, by omega, rfl⟩⟩ | exact ⟨rfl, Or.inr (Or.inl ⟨by omega, by omega, rfl⟩)⟩ | exact ⟨rfl, Or.inr (Or.inr (⟨by omega, by omega, rfl⟩))⟩)
                      · skip
                        refine am_aload_n (x := 63) X (by rfl) dX10_hand_161 ?_
                        refine am_getr (c1 := 68) X 63 fl_X10_22 (by decide) sh_63 (by decide) (by rfl) dX10_hand_162 ?_
                        refine am_ic X (by decide) dX10_hand_165 ?_
                        refine am_iload_n (x := (a % 100)) X (by rfl) dX10_hand_166 ?_
                        refine am_mul (v := (5 * (a % 100))) X (by first | rfl | omega) (by omega) dX10_hand_167 ?_
                        refine am_ic X (by decide) dX10_hand_168 ?_
                        refine am_add (v := ((5 * (a % 100)) + 1)) X (by first | rfl | omega) (by omega) dX10_hand_169 ?_
                        refine am_ald (v := σ 68 (5 * (a % 100).toNat + 1)) X 68 (5 * (a % 100).toNat + 1) sh_68 (by omega) (by omega) (rfl) dX10_hand_170 ?_
                        refine am_aload_n (x := 63) X (by rfl) dX10_hand_171 ?_
                        refine am_getr (c1 := 68) X 63 fl_X10_22 (by decide) sh_63 (by decide) (by rfl) dX10_hand_172 ?_
                        refine am_ic X (by decide) dX10_hand_175 ?_
                        refine am_iload_n (x := (a / 100)) X (by rfl) dX10_hand_176 ?_
                        refine am_mul (v := (5 * (a / 100))) X (by first | rfl | omega) (by omega) dX10_hand_177 ?_
                        refine am_ald (v := σ 68 (5 * (a / 100).toNat)) X 68 (5 * (a / 100).toNat) sh_68 (by omega) (by omega) (rfl) dX10_hand_178 ?_
                        refine am_icmp_ne (tgt := 185) X dX10_hand_179 (by decide) (fun h179 => ?_) (fun h179 => ?_)
                        · skip
                          refine am_aload_n (x := 63) X (by rfl) dX10_hand_185 ?_
                          refine am_getr (c1 := 68) X 63 fl_X10_22 (by decide) sh_63 (by decide) (by rfl) dX10_hand_186 ?_
                          refine am_ic X (by decide) dX10_hand_189 ?_
                          refine am_iload_n (x := (a / 100)) X (by rfl) dX10_hand_190 ?_
                          refine am_mul (v := (5 * (a / 100))) X (by first | rfl | omega) (by omega) dX10_hand_191 ?_
                          refine am_ic X (by decide) dX10_hand_192 ?_
                          refine am_add (v := ((5 * (a / 100)) + 1)) X (by first | rfl | omega) (by omega) dX10_hand_193 ?_
                          refine am_aload_n (x := 63) X (by rfl) dX10_hand_194 ?_
                          refine am_getr (c1 := 68) X 63 fl_X10_22 (by decide) sh_63 (by decide) (by rfl) dX10_hand_195 ?_
                          refine am_ic X (by decide) dX10_hand_198 ?_
                          refine am_iload_n (x := (a % 100)) X (by rfl) dX10_hand_199 ?_
                          refine am_mul (v := (5 * (a % 100))) X (by first | rfl | omega) (by omega) dX10_hand_200 ?_
                          refine am_ic X (by decide) dX10_hand_201 ?_
                          refine am_add (v := ((5 * (a % 100)) + 1)) X (by first | rfl | omega) (by omega) dX10_hand_202 ?_
                          refine am_ald (v := σ 68 (5 * (a % 100).toNat + 1)) X 68 (5 * (a % 100).toNat + 1) sh_68 (by omega) (by omega) (rfl) dX10_hand_203 ?_
                          refine am_ast X 68 (5 * (a / 100).toNat + 1) sh_68 (by omega) (by omega) dX10_hand_204 ?_
                          refine am_aload_n (x := 63) X (by rfl) dX10_hand_205 ?_
                          refine am_iload_n (x := (a % 100)) X (by rfl) dX10_hand_206 ?_
                          refine am_aload_n (x := 63) X (by rfl) dX10_hand_207 ?_
                          refine am_getr (c1 := 68) X 63 fl_X10_22 (by decide) sh_63 (by decide) (by rfl) dX10_hand_208 ?_
                          refine am_ic X (by decide) dX10_hand_211 ?_
                          refine am_iload_n (x := (a % 100)) X (by rfl) dX10_hand_212 ?_
                          refine am_mul (v := (5 * (a % 100))) X (by first | rfl | omega) (by omega) dX10_hand_213 ?_
                          refine am_ic X (by decide) dX10_hand_214 ?_
                          refine am_add (v := ((5 * (a % 100)) + 2)) X (by first | rfl | omega) (by omega) dX10_hand_215 ?_
                          refine am_ald (v := (σ 68 (5 * (a % 100).toNat + 2))) X 68 (5 * (a % 100).toNat + 2) sh_68 (by omega) (by omega) (am_up_k (by omega)) dX10_hand_216 ?_
                          refine am_callVv (ci := 9) X hY lk_X10_249 mf_X10_loses (m_X10_loses (a % 100) (a % 100).toNat (by omega) (by omega) (σ 68 (5 * (a % 100).toNat + 2)) (am_up σ 68 (5 * (a / 100).toNat + 1) (σ 68 (5 * (a % 100).toNat + 1))) (by rw [am_up_k (by omega)]; omega)) (by decide) (by decide) (Nat.le_refl _) (Nat.le_refl _) sh_63 rfl rfl rfl (Nat.le_of_ble_eq_true rfl) dX10_hand_217 (fun sh217 σ217 hp217 => ?_)
                          obtain ⟨rfl, rfl, hq217⟩ := hp217
                          refine am_ic X (by decide) dX10_hand_220 ?_
                          exact hret _ _ _ _ _ dX10_hand_221 rfl rfl (by first | exact ⟨rfl, Or.inl ⟨by omega, by omega, rfl⟩⟩ | exact ⟨rfl, Or.inr (Or.inl ⟨by omega, by omega, rfl⟩)⟩ | exact ⟨rfl, Or.inr (Or.inr (⟨by omega, by omega, rfl⟩))⟩)
                        · skip
                          refine am_bipush X (by decide) dX10_hand_182 ?_
                          exact hret _ _ _ _ _ dX10_hand_184 rfl rfl (by first | exact ⟨rfl, Or.inl ⟨by omega, by omega, rfl⟩⟩ | exact ⟨rfl, Or.inr (Or.inl ⟨by omega, by omega, rfl⟩)⟩ | exact ⟨rfl, Or.inr (Or.inr (⟨by omega, by omega, rfl⟩))⟩)
      · skip
        refine am_ic X (by decide) dX10_hand_26 ?_
        exact hret _ _ _ _ _ dX10_hand_27 rfl rfl (by first | exact ⟨rfl, Or.inl ⟨by omega, by omega, rfl⟩⟩ | exact ⟨rfl, Or.inr (Or.inl ⟨by omega, by omega, rfl⟩)⟩ | exact ⟨rfl, Or.inr (Or.inr (⟨by omega, by omega, rfl⟩))⟩)

set_option maxHeartbeats 4000000 in
set_option maxRecDepth 100000 in
theorem m_X10_taken (a b : Int) (σ : am_H) (hs : MshV σ) (hk : ∀ j : Nat, (j : Int) < σ 63 39 → 0 ≤ σ 84 j ∧ σ 84 j ≤ 7) (hb : 0 ≤ σ 63 39 ∧ σ 63 39 ≤ 50) (hsb : ∀ d : Nat, d < 6 → σ 86 d < 50 → σ 86 d < σ 63 39) : am_Mi yX10_taken cX10_taken 4 (some .int) 2 0 0 [vr 63, vi a, vi b] SH σ (fun r sh' σ' => SH = sh' ∧ ((¬ ((0 ≤ a ∧ a ≤ 5) ∧ 0 ≤ b ∧ b ≤ 7) ∧ r = -1 ∧ σ = σ') ∨ ((((0 ≤ a ∧ a ≤ 5) ∧ 0 ≤ b ∧ b ≤ 7) ∧ σ 86 a.toNat < 0) ∧ r = -11 ∧ σ = σ') ∨ ((((0 ≤ a ∧ a ≤ 5) ∧ 0 ≤ b ∧ b ≤ 7) ∧ 50 ≤ σ 86 a.toNat) ∧ r = -12 ∧ σ = σ') ∨ ((((0 ≤ a ∧ a ≤ 5) ∧ 0 ≤ b ∧ b ≤ 7) ∧ 0 ≤ σ 86 a.toNat ∧ σ 86 a.toNat < 50) ∧ bd_un (σ 84 (σ 86 a.toNat).toNat) b ∧ r = (σ 84 (σ 86 a.toNat).toNat) ∧ σ = σ') ∨ ((((0 ≤ a ∧ a ≤ 5) ∧ 0 ≤ b ∧ b ≤ 7) ∧ 0 ≤ σ 86 a.toNat ∧ σ 86 a.toNat < 50) ∧ ¬ bd_un (σ 84 (σ 86 a.toNat).toNat) b ∧ r = -12 ∧ σ = σ'))) := by
  refine am_Mi_of (by decide +kernel) (Nat.le_of_ble_eq_true rfl) (fun K X hY hI hret => ?_)
  show am_G K 0 [some (vr 63), some (vi a), some (vi b), none] [] SH σ
  refine am_iload_n (x := a) X (by rfl) dX10_taken_0 ?_
  refine am_callSi X hY lk_X10_128 mf_X10_isShelf (m_X10_isShelf a _ σ) (by decide) (by decide) (Nat.le_refl _) (Nat.le_refl _) rfl rfl (Nat.le_of_ble_eq_true rfl) dX10_taken_1 (fun r1 sh1 σ1 hr1 hp1 => ?_)
  obtain ⟨rfl, rfl, hq1⟩ := hp1
  refine am_if_eq (tgt := 19) X dX10_taken_4 (by decide) (fun h4 => ?_) (fun h4 => ?_)
  · skip
    refine am_ic X (by decide) dX10_taken_19 ?_
    exact hret _ _ _ _ _ dX10_taken_20 rfl rfl (by first | exact ⟨rfl, Or.inl ⟨by omega, by omega, rfl⟩⟩ | exact ⟨rfl, Or.inr (Or.inl ⟨by omega, by omega, rfl⟩)⟩ | exact ⟨rfl, Or.inr (Or.inr (Or.inl ⟨by omega, by omega, rfl⟩))⟩)
  · skip
    refine am_iload_n (x := b) X (by rfl) dX10_taken_7 ?_
    refine am_i2l X dX10_taken_8 ?_
    refine am_lc (v := 0) X (by rfl) dX10_taken_9 ?_
    refine am_ldc2 X (n := 7) (by unfold R64; decide) cn_X10_312 dX10_taken_10 ?_
    refine am_callSi X hY lk_X10_103 mf_X10_within (m_X10_within b 0 7 _ σ) (by decide) (by decide) (Nat.le_refl _) (Nat.le_refl _) rfl rfl (Nat.le_of_ble_eq_true rfl) dX10_taken_13 (fun r13 sh13 σ13 hr13 hp13 => ?_)
    obtain ⟨rfl, rfl, hq13⟩ := hp13
    refine am_if_ne (tgt := 21) X dX10_taken_16 (by decide) (fun h16 => ?_) (fun h16 => ?_)
    · skip
      refine am_aload_n (x := 63) X (by rfl) dX10_taken_21 ?_
      refine am_getr (c1 := 86) X 63 fl_X10_77 (by decide) sh_63 (by decide) (by rfl) dX10_taken_22 ?_
      refine am_iload_n (x := a) X (by rfl) dX10_taken_25 ?_
      refine am_ald (v := σ 86 ((a).toNat)) X 86 ((a).toNat) sh_86 (by omega) (by omega) (rfl) dX10_taken_26 ?_
      refine am_if_ge (tgt := 33) X dX10_taken_27 (by decide) (fun h27 => ?_) (fun h27 => ?_)
      · skip
        refine am_aload_n (x := 63) X (by rfl) dX10_taken_33 ?_
        refine am_getr (c1 := 86) X 63 fl_X10_77 (by decide) sh_63 (by decide) (by rfl) dX10_taken_34 ?_
        refine am_iload_n (x := a) X (by rfl) dX10_taken_37 ?_
        refine am_ald (v := σ 86 ((a).toNat)) X 86 ((a).toNat) sh_86 (by omega) (by omega) (rfl) dX10_taken_38 ?_
        refine am_bipush X (by decide) dX10_taken_39 ?_
        refine am_icmp_lt (tgt := 47) X dX10_taken_41 (by decide) (fun h41 => ?_) (fun h41 => ?_)
        · skip
          have hsb0 := hsb a.toNat (by omega) (by omega)
          have hkb := hk (σ 86 a.toNat).toNat (by omega)
          refine am_aload_n (x := 63) X (by rfl) dX10_taken_47 ?_
          refine am_aload_n (x := 63) X (by rfl) dX10_taken_48 ?_
          refine am_getr (c1 := 86) X 63 fl_X10_77 (by decide) sh_63 (by decide) (by rfl) dX10_taken_49 ?_
          refine am_iload_n (x := a) X (by rfl) dX10_taken_52 ?_
          refine am_ald (v := σ 86 ((a).toNat)) X 86 ((a).toNat) sh_86 (by omega) (by omega) (rfl) dX10_taken_53 ?_
          refine am_callVi (ci := 9) X hY lk_X10_355 mf_X10_kindOf (m_X10_kindOf (σ 86 a.toNat) (σ 86 a.toNat).toNat (by omega) (by omega) σ) (by decide) (by decide) (Nat.le_refl _) (Nat.le_refl _) sh_63 rfl rfl rfl (Nat.le_of_ble_eq_true rfl) dX10_taken_54 (fun r54 sh54 σ54 hr54 hp54 => ?_)
          obtain ⟨rfl, rfl, hq54⟩ := hp54
          refine am_istore_n (i := 3) (L' := [some (vr 63), some (vi a), some (vi b), some (vi r54)]) X rfl (Nat.le_of_ble_eq_true rfl) (by rfl) dX10_taken_57 ?_
          have hL58 : ∀ (m58 : Nat) (v : Int) (hv : 0 ≤ v ∧ v ≤ 7) (hun : bd_un (σ 84 (σ 86 a.toNat).toNat) b ↔ bd_un v b) (hm58 : v.toNat = m58), am_G K 58 [some (vr 63), some (vi a), some (vi b), some (vi v)] [] SH σ := by
            intro m58
            induction m58 using Nat.strongRecOn with
            | ind m58 ih58 =>
            intro v hv hun hm58
            refine am_iload_n (x := v) X (by rfl) dX10_taken_58 ?_
            refine am_iload_n (x := b) X (by rfl) dX10_taken_59 ?_
            refine am_icmp_eq (tgt := 75) X dX10_taken_60 (by decide) (fun h60 => ?_) (fun h60 => ?_)
            · skip
              refine am_iload_n (x := v) X (by rfl) dX10_taken_75 ?_
              refine am_iload_n (x := b) X (by rfl) dX10_taken_76 ?_
              refine am_icmp_ne (tgt := 93) X dX10_taken_77 (by decide) (fun h77 => ?_) (fun h77 => ?_)
              · skip
                refine am_bipush X (by decide) dX10_taken_93 ?_
                exact hret _ _ _ _ _ dX10_taken_95 rfl rfl (by exact ⟨rfl, Or.inr (Or.inr (Or.inr (Or.inr ⟨by omega, fun q => bd_un_no (by omega) h77 (hun.mp q), rfl, rfl⟩)))⟩)
              · skip
                refine am_aload_n (x := 63) X (by rfl) dX10_taken_80 ?_
                refine am_aload_n (x := 63) X (by rfl) dX10_taken_81 ?_
                refine am_getr (c1 := 86) X 63 fl_X10_77 (by decide) sh_63 (by decide) (by rfl) dX10_taken_82 ?_
                refine am_iload_n (x := a) X (by rfl) dX10_taken_85 ?_
                refine am_ald (v := σ 86 ((a).toNat)) X 86 ((a).toNat) sh_86 (by omega) (by omega) (rfl) dX10_taken_86 ?_
                refine am_callVi (ci := 9) X hY lk_X10_355 mf_X10_kindOf (m_X10_kindOf (σ 86 a.toNat) (σ 86 a.toNat).toNat (by omega) (by omega) σ) (by decide) (by decide) (Nat.le_refl _) (Nat.le_refl _) sh_63 rfl rfl rfl (Nat.le_of_ble_eq_true rfl) dX10_taken_87 (fun r87 sh87 σ87 hr87 hp87 => ?_)
                obtain ⟨rfl, rfl, hq87⟩ := hp87
                refine am_goto (tgt := 95) X dX10_taken_90 (by decide) ?_
                exact hret _ _ _ _ _ dX10_taken_95 rfl rfl (by exact ⟨rfl, Or.inr (Or.inr (Or.inr (Or.inl ⟨by omega, hun.mpr (bd_un_eq (by omega) h77), by omega, rfl⟩)))⟩)
            · skip
              refine am_iload_n (x := v) X (by rfl) dX10_taken_63 ?_
              refine am_if_le (tgt := 75) X dX10_taken_64 (by decide) (fun h64 => ?_) (fun h64 => ?_)
              · skip
                refine am_iload_n (x := v) X (by rfl) dX10_taken_75 ?_
                refine am_iload_n (x := b) X (by rfl) dX10_taken_76 ?_
                refine am_icmp_ne (tgt := 93) X dX10_taken_77 (by decide) (fun h77 => ?_) (fun h77 => ?_)
                · skip
                  refine am_bipush X (by decide) dX10_taken_93 ?_
                  exact hret _ _ _ _ _ dX10_taken_95 rfl rfl (by exact ⟨rfl, Or.inr (Or.inr (Or.inr (Or.inr ⟨by omega, fun q => bd_un_no (by omega) h77 (hun.mp q), rfl, rfl⟩)))⟩)
                · skip
                  refine am_aload_n (x := 63) X (by rfl) dX10_taken_80 ?_
                  refine am_aload_n (x := 63) X (by rfl) dX10_taken_81 ?_
                  refine am_getr (c1 := 86) X 63 fl_X10_77 (by decide) sh_63 (by decide) (by rfl) dX10_taken_82 ?_
                  refine am_iload_n (x := a) X (by rfl) dX10_taken_85 ?_
                  refine am_ald (v := σ 86 ((a).toNat)) X 86 ((a).toNat) sh_86 (by omega) (by omega) (rfl) dX10_taken_86 ?_
                  refine am_callVi (ci := 9) X hY lk_X10_355 mf_X10_kindOf (m_X10_kindOf (σ 86 a.toNat) (σ 86 a.toNat).toNat (by omega) (by omega) σ) (by decide) (by decide) (Nat.le_refl _) (Nat.le_refl _) sh_63 rfl rfl rfl (Nat.le_of_ble_eq_true rfl) dX10_taken_87 (fun r87 sh87 σ87 hr87 hp87 => ?_)
                  obtain ⟨rfl, rfl, hq87⟩ := hp87
                  refine am_goto (tgt := 95) X dX10_taken_90 (by decide) ?_
                  exact hret _ _ _ _ _ dX10_taken_95 rfl rfl (by exact ⟨rfl, Or.inr (Or.inr (Or.inr (Or.inl ⟨by omega, hun.mpr (bd_un_eq (by omega) h77), by omega, rfl⟩)))⟩)
              · skip
                refine am_iload_n (x := v) X (by rfl) dX10_taken_67 ?_
                refine am_callSi X hY lk_X10_358 mf_X10_above (m_X10_above v _ σ) (by decide) (by decide) (Nat.le_refl _) (Nat.le_refl _) rfl rfl (Nat.le_of_ble_eq_true rfl) dX10_taken_68 (fun r68 sh68 σ68 hr68 hp68 => ?_)
                obtain ⟨rfl, rfl, hq68⟩ := hp68
                have hab := md_above_bd (a := v) (by omega)
                have hus := bd_un_st (a := v) (b := b) (by omega) h60
                refine am_istore_n (i := 3) (L' := [some (vr 63), some (vi a), some (vi b), some (vi r68)]) X rfl (Nat.le_of_ble_eq_true rfl) (by rfl) dX10_taken_71 ?_
                refine am_goto (tgt := 58) X dX10_taken_72 (by decide) ?_
                exact ih58 _ (by omega) _ (by omega) (by rw [hq68]; exact hun.trans hus) rfl
          exact hL58 _ _ (by omega) (by rw [hq54]) rfl
        · skip
          refine am_bipush X (by decide) dX10_taken_44 ?_
          exact hret _ _ _ _ _ dX10_taken_46 rfl rfl (by first | exact ⟨rfl, Or.inl ⟨by omega, by omega, rfl⟩⟩ | exact ⟨rfl, Or.inr (Or.inl ⟨by omega, by omega, rfl⟩)⟩ | exact ⟨rfl, Or.inr (Or.inr (Or.inl ⟨by omega, by omega, rfl⟩))⟩)
      · skip
        refine am_bipush X (by decide) dX10_taken_30 ?_
        exact hret _ _ _ _ _ dX10_taken_32 rfl rfl (by first | exact ⟨rfl, Or.inl ⟨by omega, by omega, rfl⟩⟩ | exact ⟨rfl, Or.inr (Or.inl ⟨by omega, by omega, rfl⟩)⟩ | exact ⟨rfl, Or.inr (Or.inr (Or.inl ⟨by omega, by omega, rfl⟩))⟩)
    · skip
      refine am_ic X (by decide) dX10_taken_19 ?_
      exact hret _ _ _ _ _ dX10_taken_20 rfl rfl (by first | exact ⟨rfl, Or.inl ⟨by omega, by omega, rfl⟩⟩ | exact ⟨rfl, Or.inr (Or.inl ⟨by omega, by omega, rfl⟩)⟩ | exact ⟨rfl, Or.inr (Or.inr (Or.inl ⟨by omega, by omega, rfl⟩))⟩)

set_option maxHeartbeats 4000000 in
set_option maxRecDepth 100000 in
theorem m_X10_shift (a i b j n : Int) (σ : am_H) (hs : MshV σ) : am_Mi yX10_shift cX10_shift 7 (some .int) 2 0 0 [vr 63, vi a, vi i, vi b, vi j, vi n] SH σ (fun r sh' σ' => SH = sh' ∧ ((¬ ((0 ≤ a ∧ a ≤ 5) ∧ 0 ≤ b ∧ b ≤ 5) ∧ r = -1 ∧ σ = σ') ∨ ((((0 ≤ a ∧ a ≤ 5) ∧ 0 ≤ b ∧ b ≤ 5) ∧ (σ 86 a.toNat < 0 ∨ σ 86 b.toNat < 0)) ∧ r = -11 ∧ σ = σ') ∨ ((((0 ≤ a ∧ a ≤ 5) ∧ 0 ≤ b ∧ b ≤ 5) ∧ ¬ (σ 86 a.toNat < 0 ∨ σ 86 b.toNat < 0) ∧ ¬ (50 ≤ σ 86 a.toNat ∧ σ 86 a.toNat = σ 86 b.toNat)) ∧ r = -12 ∧ σ = σ') ∨ ((((0 ≤ a ∧ a ≤ 5) ∧ 0 ≤ b ∧ b ≤ 5) ∧ ¬ (σ 86 a.toNat < 0 ∨ σ 86 b.toNat < 0) ∧ (50 ≤ σ 86 a.toNat ∧ σ 86 a.toNat = σ 86 b.toNat) ∧ ¬ (0 ≤ n ∧ 0 ≤ i ∧ 0 ≤ j ∧ i ≤ σ 87 a.toNat - n ∧ j ≤ σ 87 b.toNat - n)) ∧ r = -13 ∧ σ = σ') ∨ ((((0 ≤ a ∧ a ≤ 5) ∧ 0 ≤ b ∧ b ≤ 5) ∧ ¬ (σ 86 a.toNat < 0 ∨ σ 86 b.toNat < 0) ∧ (50 ≤ σ 86 a.toNat ∧ σ 86 a.toNat = σ 86 b.toNat) ∧ (0 ≤ n ∧ 0 ≤ i ∧ 0 ≤ j ∧ i ≤ σ 87 a.toNat - n ∧ j ≤ σ 87 b.toNat - n)) ∧ r = n ∧ (md_c2 (md_c1 σ (60 * a + i).toNat n.toNat) (60 * b + j).toNat n.toNat) = σ'))) := by
  refine am_Mi_of (by decide +kernel) (Nat.le_of_ble_eq_true rfl) (fun K X hY hI hret => ?_)
  show am_G K 0 [some (vr 63), some (vi a), some (vi i), some (vi b), some (vi j), some (vi n), none] [] SH σ
  refine am_use (fun _ _ _ hlo => ?_)
  have hn32 := okv_iR (hlo 5 (vi n) rfl)
  unfold R32 at hn32
  refine am_iload_n (x := a) X (by rfl) dX10_shift_0 ?_
  refine am_callSi X hY lk_X10_128 mf_X10_isShelf (m_X10_isShelf a _ σ) (by decide) (by decide) (Nat.le_refl _) (Nat.le_refl _) rfl rfl (Nat.le_of_ble_eq_true rfl) dX10_shift_1 (fun r1 sh1 σ1 hr1 hp1 => ?_)
  obtain ⟨rfl, rfl, hq1⟩ := hp1
  refine am_if_eq (tgt := 14) X dX10_shift_4 (by decide) (fun h4 => ?_) (fun h4 => ?_)
  · skip
    refine am_ic X (by decide) dX10_shift_14 ?_
    exact hret _ _ _ _ _ dX10_shift_15 rfl rfl (by first | exact ⟨rfl, Or.inl ⟨by omega, by omega, rfl⟩⟩ | exact ⟨rfl, Or.inr (Or.inl ⟨by omega, by omega, rfl⟩)⟩ | exact ⟨rfl, Or.inr (Or.inr (Or.inl ⟨by omega, by omega, rfl⟩))⟩ | exact ⟨rfl, Or.inr (Or.inr (Or.inr (Or.inl ⟨by omega, by omega, rfl⟩)))⟩ | exact ⟨rfl, Or.inr (Or.inr (Or.inr (Or.inr (⟨by omega, by omega, rfl⟩))))⟩ | (rw [show n.toNat = k by omega] at *; exact ⟨rfl, Or.inr (Or.inr (Or.inr (Or.inr ⟨by omega, rfl, rfl⟩)))⟩))
  · skip
    refine am_iload_n (x := b) X (by rfl) dX10_shift_7 ?_
    refine am_callSi X hY lk_X10_128 mf_X10_isShelf (m_X10_isShelf b _ σ) (by decide) (by decide) (Nat.le_refl _) (Nat.le_refl _) rfl rfl (Nat.le_of_ble_eq_true rfl) dX10_shift_8 (fun r8 sh8 σ8 hr8 hp8 => ?_)
    obtain ⟨rfl, rfl, hq8⟩ := hp8
    refine am_if_ne (tgt := 16) X dX10_shift_11 (by decide) (fun h11 => ?_) (fun h11 => ?_)
    · skip
      refine am_aload_n (x := 63) X (by rfl) dX10_shift_16 ?_
      refine am_getr (c1 := 86) X 63 fl_X10_77 (by decide) sh_63 (by decide) (by rfl) dX10_shift_17 ?_
      refine am_iload_n (x := a) X (by rfl) dX10_shift_20 ?_
      refine am_ald (v := σ 86 ((a).toNat)) X 86 ((a).toNat) sh_86 (by omega) (by omega) (rfl) dX10_shift_21 ?_
      refine am_if_lt (tgt := 34) X dX10_shift_22 (by decide) (fun h22 => ?_) (fun h22 => ?_)
      · skip
        refine am_bipush X (by decide) dX10_shift_34 ?_
        exact hret _ _ _ _ _ dX10_shift_36 rfl rfl (by first | exact ⟨rfl, Or.inl ⟨by omega, by omega, rfl⟩⟩ | exact ⟨rfl, Or.inr (Or.inl ⟨by omega, by omega, rfl⟩)⟩ | exact ⟨rfl, Or.inr (Or.inr (Or.inl ⟨by omega, by omega, rfl⟩))⟩ | exact ⟨rfl, Or.inr (Or.inr (Or.inr (Or.inl ⟨by omega, by omega, rfl⟩)))⟩ | exact ⟨rfl, Or.inr (Or.inr (Or.inr (Or.inr (⟨by omega, by omega, rfl⟩))))⟩ | (rw [show n.toNat = k by omega] at *; exact ⟨rfl, Or.inr (Or.inr (Or.inr (Or.inr ⟨by omega, rfl, rfl⟩)))⟩))
      · skip
        refine am_aload_n (x := 63) X (by rfl) dX10_shift_25 ?_
        refine am_getr (c1 := 86) X 63 fl_X10_77 (by decide) sh_63 (by decide) (by rfl) dX10_shift_26 ?_
        refine am_iload_n (x := b) X (by rfl) dX10_shift_29 ?_
        refine am_ald (v := σ 86 ((b).toNat)) X 86 ((b).toNat) sh_86 (by omega) (by omega) (rfl) dX10_shift_30 ?_
        refine am_if_ge (tgt := 37) X dX10_shift_31 (by decide) (fun h31 => ?_) (fun h31 => ?_)
        · skip
          have hsa := hs a.toNat (by omega)
          have hsb := hs b.toNat (by omega)
          refine am_aload_n (x := 63) X (by rfl) dX10_shift_37 ?_
          refine am_getr (c1 := 86) X 63 fl_X10_77 (by decide) sh_63 (by decide) (by rfl) dX10_shift_38 ?_
          refine am_iload_n (x := a) X (by rfl) dX10_shift_41 ?_
          refine am_ald (v := σ 86 ((a).toNat)) X 86 ((a).toNat) sh_86 (by omega) (by omega) (rfl) dX10_shift_42 ?_
          refine am_bipush X (by decide) dX10_shift_43 ?_
          refine am_icmp_lt (tgt := 63) X dX10_shift_45 (by decide) (fun h45 => ?_) (fun h45 => ?_)
          · skip
            refine am_bipush X (by decide) dX10_shift_63 ?_
            exact hret _ _ _ _ _ dX10_shift_65 rfl rfl (by first | exact ⟨rfl, Or.inl ⟨by omega, by omega, rfl⟩⟩ | exact ⟨rfl, Or.inr (Or.inl ⟨by omega, by omega, rfl⟩)⟩ | exact ⟨rfl, Or.inr (Or.inr (Or.inl ⟨by omega, by omega, rfl⟩))⟩ | exact ⟨rfl, Or.inr (Or.inr (Or.inr (Or.inl ⟨by omega, by omega, rfl⟩)))⟩ | exact ⟨rfl, Or.inr (Or.inr (Or.inr (Or.inr (⟨by omega, by omega, rfl⟩))))⟩ | (rw [show n.toNat = k by omega] at *; exact ⟨rfl, Or.inr (Or.inr (Or.inr (Or.inr ⟨by omega, rfl, rfl⟩)))⟩))
          · skip
            refine am_aload_n (x := 63) X (by rfl) dX10_shift_48 ?_
            refine am_getr (c1 := 86) X 63 fl_X10_77 (by decide) sh_63 (by decide) (by rfl) dX10_shift_49 ?_
            refine am_iload_n (x := a) X (by rfl) dX10_shift_52 ?_
            refine am_ald (v := σ 86 ((a).toNat)) X 86 ((a).toNat) sh_86 (by omega) (by omega) (rfl) dX10_shift_53 ?_
            refine am_aload_n (x := 63) X (by rfl) dX10_shift_54 ?_
            refine am_getr (c1 := 86) X 63 fl_X10_77 (by decide) sh_63 (by decide) (by rfl) dX10_shift_55 ?_
            refine am_iload_n (x := b) X (by rfl) dX10_shift_58 ?_
            refine am_ald (v := σ 86 ((b).toNat)) X 86 ((b).toNat) sh_86 (by omega) (by omega) (rfl) dX10_shift_59 ?_
            refine am_icmp_eq (tgt := 66) X dX10_shift_60 (by decide) (fun h60 => ?_) (fun h60 => ?_)
            · skip
              refine am_iload (x := n) X (by rfl) dX10_shift_66 ?_
              refine am_if_lt (tgt := 107) X dX10_shift_68 (by decide) (fun h68 => ?_) (fun h68 => ?_)
              · skip
                refine am_bipush X (by decide) dX10_shift_107 ?_
                exact hret _ _ _ _ _ dX10_shift_109 rfl rfl (by first | exact ⟨rfl, Or.inl ⟨by omega, by omega, rfl⟩⟩ | exact ⟨rfl, Or.inr (Or.inl ⟨by omega, by omega, rfl⟩)⟩ | exact ⟨rfl, Or.inr (Or.inr (Or.inl ⟨by omega, by omega, rfl⟩))⟩ | exact ⟨rfl, Or.inr (Or.inr (Or.inr (Or.inl ⟨by omega, by omega, rfl⟩)))⟩ | exact ⟨rfl, Or.inr (Or.inr (Or.inr (Or.inr (⟨by omega, by omega, rfl⟩))))⟩ | (rw [show n.toNat = k by omega] at *; exact ⟨rfl, Or.inr (Or.inr (Or.inr (Or.inr ⟨by omega, rfl, rfl⟩)))⟩))
              · skip
                refine am_iload_n (x := i) X (by rfl) dX10_shift_71 ?_
                refine am_if_lt (tgt := 107) X dX10_shift_72 (by decide) (fun h72 => ?_) (fun h72 => ?_)
                · skip
                  refine am_bipush X (by decide) dX10_shift_107 ?_
                  exact hret _ _ _ _ _ dX10_shift_109 rfl rfl (by first | exact ⟨rfl, Or.inl ⟨by omega, by omega, rfl⟩⟩ | exact ⟨rfl, Or.inr (Or.inl ⟨by omega, by omega, rfl⟩)⟩ | exact ⟨rfl, Or.inr (Or.inr (Or.inl ⟨by omega, by omega, rfl⟩))⟩ | exact ⟨rfl, Or.inr (Or.inr (Or.inr (Or.inl ⟨by omega, by omega, rfl⟩)))⟩ | exact ⟨rfl, Or.inr (Or.inr (Or.inr (Or.inr (⟨by omega, by omega, rfl⟩))))⟩ | (rw [show n.toNat = k by omega] at *; exact ⟨rfl, Or.inr (Or.inr (Or.inr (Or.inr ⟨by omega, rfl, rfl⟩)))⟩))
                · skip
                  refine am_iload (x := j) X (by rfl) dX10_shift_75 ?_
                  refine am_if_lt (tgt := 107) X dX10_shift_77 (by decide) (fun h77 => ?_) (fun h77 => ?_)
                  · skip
                    refine am_bipush X (by decide) dX10_shift_107 ?_
                    exact hret _ _ _ _ _ dX10_shift_109 rfl rfl (by first | exact ⟨rfl, Or.inl ⟨by omega, by omega, rfl⟩⟩ | exact ⟨rfl, Or.inr (Or.inl ⟨by omega, by omega, rfl⟩)⟩ | exact ⟨rfl, Or.inr (Or.inr (Or.inl ⟨by omega, by omega, rfl⟩))⟩ | exact ⟨rfl, Or.inr (Or.inr (Or.inr (Or.inl ⟨by omega, by omega, rfl⟩)))⟩ | exact ⟨rfl, Or.inr (Or.inr (Or.inr (Or.inr (⟨by omega, by omega, rfl⟩))))⟩ | (rw [show n.toNat = k by omega] at *; exact ⟨rfl, Or.inr (Or.inr (Or.inr (Or.inr ⟨by omega, rfl, rfl⟩)))⟩))
                  · skip
                    refine am_iload_n (x := i) X (by rfl) dX10_shift_80 ?_
                    refine am_aload_n (x := 63) X (by rfl) dX10_shift_81 ?_
                    refine am_getr (c1 := 87) X 63 fl_X10_80 (by decide) sh_63 (by decide) (by rfl) dX10_shift_82 ?_
                    refine am_iload_n (x := a) X (by rfl) dX10_shift_85 ?_
                    refine am_ald (v := σ 87 ((a).toNat)) X 87 ((a).toNat) sh_87 (by omega) (by omega) (rfl) dX10_shift_86 ?_
                    refine am_iload (x := n) X (by rfl) dX10_shift_87 ?_
                    refine am_sub (v := (σ 87 ((a).toNat) - n)) X (by first | rfl | omega) (by omega) dX10_shift_89 ?_
                    refine am_icmp_gt (tgt := 107) X dX10_shift_90 (by decide) (fun h90 => ?_) (fun h90 => ?_)
                    · skip
                      refine am_bipush X (by decide) dX10_shift_107 ?_
                      exact hret _ _ _ _ _ dX10_shift_109 rfl rfl (by first | exact ⟨rfl, Or.inl ⟨by omega, by omega, rfl⟩⟩ | exact ⟨rfl, Or.inr (Or.inl ⟨by omega, by omega, rfl⟩)⟩ | exact ⟨rfl, Or.inr (Or.inr (Or.inl ⟨by omega, by omega, rfl⟩))⟩ | exact ⟨rfl, Or.inr (Or.inr (Or.inr (Or.inl ⟨by omega, by omega, rfl⟩)))⟩ | exact ⟨rfl, Or.inr (Or.inr (Or.inr (Or.inr (⟨by omega, by omega, rfl⟩))))⟩ | (rw [show n.toNat = k by omega] at *; exact ⟨rfl, Or.inr (Or.inr (Or.inr (Or.inr ⟨by omega, rfl, rfl⟩)))⟩))
                    · skip
                      refine am_iload (x := j) X (by rfl) dX10_shift_93 ?_
                      refine am_aload_n (x := 63) X (by rfl) dX10_shift_95 ?_
                      refine am_getr (c1 := 87) X 63 fl_X10_80 (by decide) sh_63 (by decide) (by rfl) dX10_shift_96 ?_
                      refine am_iload_n (x := b) X (by rfl) dX10_shift_99 ?_
                      refine am_ald (v := σ 87 ((b).toNat)) X 87 ((b).toNat) sh_87 (by omega) (by omega) (rfl) dX10_shift_100 ?_
                      refine am_iload (x := n) X (by rfl) dX10_shift_101 ?_
                      refine am_sub (v := (σ 87 ((b).toNat) - n)) X (by first | rfl | omega) (by omega) dX10_shift_103 ?_
                      refine am_icmp_le (tgt := 110) X dX10_shift_104 (by decide) (fun h104 => ?_) (fun h104 => ?_)
                      · skip
                        refine am_ic X (by decide) dX10_shift_110 ?_
                        refine am_istore (i := 6) (L' := [some (vr 63), some (vi a), some (vi i), some (vi b), some (vi j), some (vi n), some (vi 0)]) X (Nat.le_of_ble_eq_true rfl) (by rfl) dX10_shift_111 ?_
                        have hL113 : ∀ (m113 : Nat) (k : Nat) (hk : (k : Int) ≤ n) (hm113 : n.toNat - k = m113), am_G K 113 [some (vr 63), some (vi a), some (vi i), some (vi b), some (vi j), some (vi n), some (vi (k : Int))] [] SH (md_c1 σ (60 * a + i).toNat k) := by
                          intro m113
                          induction m113 using Nat.strongRecOn with
                          | ind m113 ih113 =>
                          intro k hk hm113
                          refine am_iload (x := (k : Int)) X (by rfl) dX10_shift_113 ?_
                          refine am_iload (x := n) X (by rfl) dX10_shift_115 ?_
                          refine am_icmp_ge (tgt := 147) X dX10_shift_117 (by decide) (fun h117 => ?_) (fun h117 => ?_)
                          · skip
                            refine am_ic X (by decide) dX10_shift_147 ?_
                            refine am_istore (i := 6) (L' := [some (vr 63), some (vi a), some (vi i), some (vi b), some (vi j), some (vi n), some (vi 0)]) X (Nat.le_of_ble_eq_true rfl) (by rfl) dX10_shift_148 ?_
                            have hL150 : ∀ (m150 : Nat) (k : Nat) (hk : (k : Int) ≤ n) (hm150 : n.toNat - k = m150), am_G K 150 [some (vr 63), some (vi a), some (vi i), some (vi b), some (vi j), some (vi n), some (vi (k : Int))] [] SH (md_c2 (md_c1 σ (60 * a + i).toNat n.toNat) (60 * b + j).toNat k) := by
                              intro m150
                              induction m150 using Nat.strongRecOn with
                              | ind m150 ih150 =>
                              intro k hk hm150
                              refine am_iload (x := (k : Int)) X (by rfl) dX10_shift_150 ?_
                              refine am_iload (x := n) X (by rfl) dX10_shift_152 ?_
                              refine am_icmp_ge (tgt := 185) X dX10_shift_154 (by decide) (fun h154 => ?_) (fun h154 => ?_)
                              · skip
                                refine am_iload (x := n) X (by rfl) dX10_shift_185 ?_
                                exact hret _ _ _ _ _ dX10_shift_187 rfl rfl (by first | exact ⟨rfl, Or.inl ⟨by omega, by omega, rfl⟩⟩ | exact ⟨rfl, Or.inr (Or.inl ⟨by omega, by omega, rfl⟩)⟩ | exact ⟨rfl, Or.inr (Or.inr (Or.inl ⟨by omega, by omega, rfl⟩))⟩ | exact ⟨rfl, Or.inr (Or.inr (Or.inr (Or.inl ⟨by omega, by omega, rfl⟩)))⟩ | exact ⟨rfl, Or.inr (Or.inr (Or.inr (Or.inr (⟨by omega, by omega, rfl⟩))))⟩ | (rw [show n.toNat = k by omega] at *; exact ⟨rfl, Or.inr (Or.inr (Or.inr (Or.inr ⟨by omega, rfl, rfl⟩)))⟩))
                              · skip
                                refine am_aload_n (x := 63) X (by rfl) dX10_shift_157 ?_
                                refine am_getr (c1 := 88) X 63 fl_X10_83 (by decide) sh_63 (by decide) (by rfl) dX10_shift_158 ?_
                                refine am_bipush X (by decide) dX10_shift_161 ?_
                                refine am_iload_n (x := b) X (by rfl) dX10_shift_163 ?_
                                refine am_mul (v := (60 * b)) X (by first | rfl | omega) (by omega) dX10_shift_164 ?_
                                refine am_iload (x := j) X (by rfl) dX10_shift_165 ?_
                                refine am_add (v := ((60 * b) + j)) X (by first | rfl | omega) (by omega) dX10_shift_167 ?_
                                refine am_iload (x := (k : Int)) X (by rfl) dX10_shift_168 ?_
                                refine am_add (v := (((60 * b) + j) + (k : Int))) X (by first | rfl | omega) (by omega) dX10_shift_170 ?_
                                refine am_aload_n (x := 63) X (by rfl) dX10_shift_171 ?_
                                refine am_getr (c1 := 89) X 63 fl_X10_87 (by decide) sh_63 (by decide) (by rfl) dX10_shift_172 ?_
                                refine am_iload (x := (k : Int)) X (by rfl) dX10_shift_175 ?_
                                refine am_lalj (v := ((md_c1 σ (60 * a + i).toNat n.toNat) 89 k)) X 89 k sh_89 (by omega) (by omega) (md_c2_at (by decide)) dX10_shift_177 ?_
                                refine am_lasj X 88 ((60 * b + j).toNat + k) sh_88 (by omega) (by omega) dX10_shift_178 ?_
                                refine am_inc (x := (k : Int)) (v := ((k : Int) + 1)) (L' := [some (vr 63), some (vi a), some (vi i), some (vi b), some (vi j), some (vi n), some (vi ((k : Int) + 1))]) X (by rfl) (by omega) (by omega) (by rfl) dX10_shift_179 ?_
                                refine am_goto (tgt := 150) X dX10_shift_182 (by decide) ?_
                                refine am_sg (md_c2 (md_c1 σ (60 * a + i).toNat n.toNat) (60 * b + j).toNat (k + 1)) (md_c2_s) ?_
                                exact ih150 _ (by omega) (k + 1) (by omega) rfl
                            refine am_sg (md_c2 (md_c1 σ (60 * a + i).toNat n.toNat) (60 * b + j).toNat 0) (by rw [md_c2_0, show n.toNat = k by omega]) ?_
                            exact hL150 _ 0 (by omega) rfl
                          · skip
                            refine am_aload_n (x := 63) X (by rfl) dX10_shift_120 ?_
                            refine am_getr (c1 := 89) X 63 fl_X10_87 (by decide) sh_63 (by decide) (by rfl) dX10_shift_121 ?_
                            refine am_iload (x := (k : Int)) X (by rfl) dX10_shift_124 ?_
                            refine am_aload_n (x := 63) X (by rfl) dX10_shift_126 ?_
                            refine am_getr (c1 := 88) X 63 fl_X10_83 (by decide) sh_63 (by decide) (by rfl) dX10_shift_127 ?_
                            refine am_bipush X (by decide) dX10_shift_130 ?_
                            refine am_iload_n (x := a) X (by rfl) dX10_shift_132 ?_
                            refine am_mul (v := (60 * a)) X (by first | rfl | omega) (by omega) dX10_shift_133 ?_
                            refine am_iload_n (x := i) X (by rfl) dX10_shift_134 ?_
                            refine am_add (v := ((60 * a) + i)) X (by first | rfl | omega) (by omega) dX10_shift_135 ?_
                            refine am_iload (x := (k : Int)) X (by rfl) dX10_shift_136 ?_
                            refine am_add (v := (((60 * a) + i) + (k : Int))) X (by first | rfl | omega) (by omega) dX10_shift_138 ?_
                            refine am_lalj (v := (σ 88 ((60 * a + i).toNat + k))) X 88 ((60 * a + i).toNat + k) sh_88 (by omega) (by omega) (md_c1_at (by decide)) dX10_shift_139 ?_
                            refine am_lasj X 89 k sh_89 (by omega) (by omega) dX10_shift_140 ?_
                            refine am_inc (x := (k : Int)) (v := ((k : Int) + 1)) (L' := [some (vr 63), some (vi a), some (vi i), some (vi b), some (vi j), some (vi n), some (vi ((k : Int) + 1))]) X (by rfl) (by omega) (by omega) (by rfl) dX10_shift_141 ?_
                            refine am_goto (tgt := 113) X dX10_shift_144 (by decide) ?_
                            refine am_sg (md_c1 σ (60 * a + i).toNat (k + 1)) (md_c1_s) ?_
                            exact ih113 _ (by omega) (k + 1) (by omega) rfl
                        refine am_sg (md_c1 σ (60 * a + i).toNat 0) ((md_c1_0 _ _).symm) ?_
                        exact hL113 _ 0 (by omega) rfl
                      · skip
                        refine am_bipush X (by decide) dX10_shift_107 ?_
                        exact hret _ _ _ _ _ dX10_shift_109 rfl rfl (by first | exact ⟨rfl, Or.inl ⟨by omega, by omega, rfl⟩⟩ | exact ⟨rfl, Or.inr (Or.inl ⟨by omega, by omega, rfl⟩)⟩ | exact ⟨rfl, Or.inr (Or.inr (Or.inl ⟨by omega, by omega, rfl⟩))⟩ | exact ⟨rfl, Or.inr (Or.inr (Or.inr (Or.inl ⟨by omega, by omega, rfl⟩)))⟩ | exact ⟨rfl, Or.inr (Or.inr (Or.inr (Or.inr (⟨by omega, by omega, rfl⟩))))⟩ | (rw [show n.toNat = k by omega] at *; exact ⟨rfl, Or.inr (Or.inr (Or.inr (Or.inr ⟨by omega, rfl, rfl⟩)))⟩))
            · skip
              refine am_bipush X (by decide) dX10_shift_63 ?_
              exact hret _ _ _ _ _ dX10_shift_65 rfl rfl (by first | exact ⟨rfl, Or.inl ⟨by omega, by omega, rfl⟩⟩ | exact ⟨rfl, Or.inr (Or.inl ⟨by omega, by omega, rfl⟩)⟩ | exact ⟨rfl, Or.inr (Or.inr (Or.inl ⟨by omega, by omega, rfl⟩))⟩ | exact ⟨rfl, Or.inr (Or.inr (Or.inr (Or.inl ⟨by omega, by omega, rfl⟩)))⟩ | exact ⟨rfl, Or.inr (Or.inr (Or.inr (Or.inr (⟨by omega, by omega, rfl⟩))))⟩ | (rw [show n.toNat = k by omega] at *; exact ⟨rfl, Or.inr (Or.inr (Or.inr (Or.inr ⟨by omega, rfl, rfl⟩)))⟩))
        · skip
          refine am_bipush X (by decide) dX10_shift_34 ?_
          exact hret _ _ _ _ _ dX10_shift_36 rfl rfl (by first | exact ⟨rfl, Or.inl ⟨by omega, by omega, rfl⟩⟩ | exact ⟨rfl, Or.inr (Or.inl ⟨by omega, by omega, rfl⟩)⟩ | exact ⟨rfl, Or.inr (Or.inr (Or.inl ⟨by omega, by omega, rfl⟩))⟩ | exact ⟨rfl, Or.inr (Or.inr (Or.inr (Or.inl ⟨by omega, by omega, rfl⟩)))⟩ | exact ⟨rfl, Or.inr (Or.inr (Or.inr (Or.inr (⟨by omega, by omega, rfl⟩))))⟩ | (rw [show n.toNat = k by omega] at *; exact ⟨rfl, Or.inr (Or.inr (Or.inr (Or.inr ⟨by omega, rfl, rfl⟩)))⟩))
    · skip
      refine am_ic X (by decide) dX10_shift_14 ?_
      exact hret _ _ _ _ _ dX10_shift_15 rfl rfl (by first | exact ⟨rfl, Or.inl ⟨by omega, by omega, rfl⟩⟩ | exact ⟨rfl, Or.inr (Or.inl ⟨by omega, by omega, rfl⟩)⟩ | exact ⟨rfl, Or.inr (Or.inr (Or.inl ⟨by omega, by omega, rfl⟩))⟩ | exact ⟨rfl, Or.inr (Or.inr (Or.inr (Or.inl ⟨by omega, by omega, rfl⟩)))⟩ | exact ⟨rfl, Or.inr (Or.inr (Or.inr (Or.inr (⟨by omega, by omega, rfl⟩))))⟩ | (rw [show n.toNat = k by omega] at *; exact ⟨rfl, Or.inr (Or.inr (Or.inr (Or.inr ⟨by omega, rfl, rfl⟩)))⟩))
