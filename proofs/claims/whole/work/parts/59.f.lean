set_option maxHeartbeats 4000000 in
set_option maxRecDepth 100000 in
theorem m_X10_one (σ : am_H) (T : Nat → Int) (n : Nat) (htx : lx_txt σ T n) (k : Nat) (i : Nat) (o : Int) (hk : o = 6 - (k : Int)) (ho : 0 ≤ o) (hi : i ≤ n) (H : ∀ k' : Nat, k = k' + 1 → lx_C1 σ T n k' ∧ lx_C6 σ T n k') : am_Mi yX10_one cX10_one 5 (some .int) (6 * k + 2) 0 0 [vr 63] SH (pu σ (i : Int) (-1) o) (lx_post σ T n 6 o i) := by
  refine am_Mi_of (by decide +kernel) (Nat.le_of_ble_eq_true rfl) (fun K X hY hI hret => ?_)
  show am_G K 0 [some (vr 63), none, none, none, none] [] SH (pu σ (i : Int) (-1) o)
  have hn120 := htx.1
  refine am_aload_n (x := 63) X (by rfl) dX10_one_0 ?_
  refine am_get (v := -1) X 63 fl_X10_184 (by decide) sh_63 (by decide) (pu_17) dX10_one_1 ?_
  refine am_if_lt (tgt := 9) X dX10_one_4 (by decide) (fun _ => ?_) (fun h => absurd h (by decide))
  refine am_aload_n (x := 63) X (by rfl) dX10_one_9 ?_
  refine am_callVi (ci := 9) X hY lk_X10_187 mf_X10_byteAt (m_X10_byteAt i (-1) o σ T n htx (by omega)) (by omega) (by decide) (Nat.le_refl _) (Nat.le_refl _) sh_63 rfl rfl rfl (Nat.le_of_ble_eq_true rfl) dX10_one_10 (fun r10 sh10 σ10 hr10 hp10 => ?_)
  obtain ⟨rfl, rfl, hq10⟩ := hp10
  refine am_istore_n (i := 1) (L' := [some (vr 63), some (vi r10), none, none, none]) X rfl (Nat.le_of_ble_eq_true rfl) (by rfl) dX10_one_13 ?_
  have hL32 : ∀  (hx : r10 = 33 ∨ r10 = 45 ∨ r10 = 40), am_G K 32 [some (vr 63), some (vi r10), none, none, none] [] SH (pu σ (i : Int) (-1) o) := by
    intro  hx
    refine am_aload_n (x := 63) X (by rfl) dX10_one_32 ?_
    have hin := lx_at_in (T := T) (n := n) (i := i) (by omega)
    refine am_get (v := o) X 63 fl_X10_208 (by decide) sh_63 (by decide) (pu_18) dX10_one_33 ?_
    refine am_bipush X (by decide) dX10_one_36 ?_
    refine am_icmp_ne (tgt := 46) X dX10_one_38 (by decide) (fun h38 => ?_) (fun h38 => ?_)
    · skip
      obtain ⟨k', hk'⟩ : ∃ k', k = k' + 1 := ⟨k - 1, by omega⟩
      obtain ⟨hH1, hH6⟩ := H k' hk'
      refine am_aload_n (x := 63) X (by rfl) dX10_one_46 ?_
      refine am_dup X (Nat.ne_of_beq_eq_false rfl) dX10_one_47 ?_
      refine am_get (v := o) X 63 fl_X10_208 (by decide) sh_63 (by decide) (pu_18) dX10_one_48 ?_
      refine am_ic X (by decide) dX10_one_51 ?_
      refine am_add (v := (o + 1)) X (by first | rfl | omega) (by omega) dX10_one_52 ?_
      refine am_puti X 63 fl_X10_208 rfl rfl sh_63 (by decide) dX10_one_53 ?_
      refine am_sg (pu σ (i : Int) (-1) (o + 1)) (pu_s18) ?_
      refine am_aload_n (x := 63) X (by rfl) dX10_one_56 ?_
      refine am_dup X (Nat.ne_of_beq_eq_false rfl) dX10_one_57 ?_
      refine am_get (v := (i : Int)) X 63 fl_X10_175 (by decide) sh_63 (by decide) (pu_15) dX10_one_58 ?_
      refine am_ic X (by decide) dX10_one_61 ?_
      refine am_add (v := ((i : Int) + 1)) X (by first | rfl | omega) (by omega) dX10_one_62 ?_
      refine am_puti X 63 fl_X10_175 rfl rfl sh_63 (by decide) dX10_one_63 ?_
      refine am_sg (pu σ ((i + 1 : Nat) : Int) (-1) (o + 1)) (pu_i15) ?_
      refine am_iload_n (x := r10) X (by rfl) dX10_one_66 ?_
      refine am_bipush X (by decide) dX10_one_67 ?_
      refine am_icmp_ne (tgt := 79) X dX10_one_69 (by decide) (fun h69 => ?_) (fun h69 => ?_)
      · skip
        refine am_aload_n (x := 63) X (by rfl) dX10_one_79 ?_
        refine am_callVi (ci := 9) X hY lk_X10_205 mf_X10_one (hH6 (i + 1) (o + 1) (by omega) (by omega) (by omega)) (by omega) (by decide) (Nat.le_refl _) (Nat.le_refl _) sh_63 rfl rfl rfl (Nat.le_of_ble_eq_true rfl) dX10_one_80 (fun r80 sh80 σ80 hr80 hp80 => ?_)
        obtain ⟨rfl, j80, f80, o80, rfl, hq80⟩ := hp80
        have hw80 := lx_PO_f hq80
        refine am_istore_n (i := 2) (L' := [some (vr 63), some (vi r10), some (vi r80), none, none]) X rfl (Nat.le_of_ble_eq_true rfl) (by rfl) dX10_one_83 ?_
        refine am_iload_n (x := r10) X (by rfl) dX10_one_84 ?_
        refine am_bipush X (by decide) dX10_one_85 ?_
        refine am_icmp_ne (tgt := 104) X dX10_one_87 (by decide) (fun h87 => ?_) (fun h87 => ?_)
        · skip
          refine am_aload_n (x := 63) X (by rfl) dX10_one_104 ?_
          refine am_dup X (Nat.ne_of_beq_eq_false rfl) dX10_one_105 ?_
          refine am_get (v := o80) X 63 fl_X10_208 (by decide) sh_63 (by decide) (pu_18) dX10_one_106 ?_
          refine am_ic X (by decide) dX10_one_109 ?_
          refine am_sub (v := (o80 - 1)) X (by first | rfl | omega) (by omega) dX10_one_110 ?_
          refine am_puti X 63 fl_X10_208 rfl rfl sh_63 (by decide) dX10_one_111 ?_
          refine am_sg (pu σ (j80 : Int) f80 (o80 - 1)) (pu_s18) ?_
          refine am_iload_n (x := r10) X (by rfl) dX10_one_114 ?_
          refine am_bipush X (by decide) dX10_one_115 ?_
          refine am_icmp_ne (tgt := 124) X dX10_one_117 (by decide) (fun h117 => ?_) (fun h117 => ?_)
          · skip
            refine am_iload_n (x := r10) X (by rfl) dX10_one_124 ?_
            refine am_bipush X (by decide) dX10_one_125 ?_
            refine am_icmp_ne (tgt := 135) X dX10_one_127 (by decide) (fun h127 => ?_) (fun h127 => ?_)
            · skip
              refine am_iload_n (x := r80) X (by rfl) dX10_one_135 ?_
              refine am_if_ne (tgt := 143) X dX10_one_136 (by decide) (fun h136 => ?_) (fun h136 => ?_)
              · skip
                refine am_ic X (by decide) dX10_one_143 ?_
                exact hret _ _ _ _ _ dX10_one_144 rfl rfl (⟨rfl, j80, f80, _, rfl, lx_PO_sign hin.1 (x := r10) (by omega) (by omega) (by omega) hq80 (by rw [if_neg (by omega)]; unfold lx_op1; rw [if_pos (by omega), if_neg (by omega)])⟩)
              · skip
                refine am_ic X (by decide) dX10_one_139 ?_
                refine am_goto (tgt := 144) X dX10_one_140 (by decide) ?_
                exact hret _ _ _ _ _ dX10_one_144 rfl rfl (⟨rfl, j80, f80, _, rfl, lx_PO_sign hin.1 (x := r10) (by omega) (by omega) (by omega) hq80 (by rw [if_neg (by omega)]; unfold lx_op1; rw [if_pos (by omega), if_pos (by omega)])⟩)
            · skip
              refine am_iload_n (x := r80) X (by rfl) dX10_one_130 ?_
              refine am_ineg X dX10_one_131 ?_
              refine am_goto (tgt := 144) X dX10_one_132 (by decide) ?_
              exact hret _ _ _ _ _ dX10_one_144 rfl rfl (⟨rfl, j80, f80, _, rfl, lx_PO_sign hin.1 (x := r10) (by omega) (by omega) (by omega) hq80 (by rw [if_pos (by omega)]; unfold lx_op1; rw [if_neg (by decide)])⟩)
          · skip
            (exfalso; omega)
        · skip
          (exfalso; omega)
      · skip
        refine am_aload_n (x := 63) X (by rfl) dX10_one_72 ?_
        refine am_callVi (ci := 9) X hY lk_X10_214 mf_X10_either (hH1 (i + 1) (o + 1) (by omega) (by omega) (by omega)) (by omega) (by decide) (Nat.le_refl _) (Nat.le_refl _) sh_63 rfl rfl rfl (Nat.le_of_ble_eq_true rfl) dX10_one_73 (fun r73 sh73 σ73 hr73 hp73 => ?_)
        obtain ⟨rfl, j73, f73, o73, rfl, hq73⟩ := hp73
        have hw73 := lx_PO_f hq73
        refine am_goto (tgt := 83) X dX10_one_76 (by decide) ?_
        refine am_istore_n (i := 2) (L' := [some (vr 63), some (vi r10), some (vi r73), none, none]) X rfl (Nat.le_of_ble_eq_true rfl) (by rfl) dX10_one_83 ?_
        refine am_iload_n (x := r10) X (by rfl) dX10_one_84 ?_
        refine am_bipush X (by decide) dX10_one_85 ?_
        refine am_icmp_ne (tgt := 104) X dX10_one_87 (by decide) (fun h87 => ?_) (fun h87 => ?_)
        · skip
          (exfalso; omega)
        · skip
          refine am_aload_n (x := 63) X (by rfl) dX10_one_90 ?_
          refine am_bipush X (by decide) dX10_one_91 ?_
          refine am_callVi (ci := 9) X hY lk_X10_194 mf_X10_takes (m_X10_takes 41 (by decide) j73 f73 o73 σ T n htx (by omega)) (by omega) (by decide) (Nat.le_refl _) (Nat.le_refl _) sh_63 rfl rfl rfl (Nat.le_of_ble_eq_true rfl) dX10_one_93 (fun r93 sh93 σ93 hr93 hp93 => ?_)
          obtain ⟨rfl, j93, rfl, hq93⟩ := hp93
          refine am_if_ne (tgt := 104) X dX10_one_96 (by decide) (fun h96 => ?_) (fun h96 => ?_)
          · skip
            refine am_aload_n (x := 63) X (by rfl) dX10_one_104 ?_
            refine am_dup X (Nat.ne_of_beq_eq_false rfl) dX10_one_105 ?_
            refine am_get (v := o73) X 63 fl_X10_208 (by decide) sh_63 (by decide) (pu_18) dX10_one_106 ?_
            refine am_ic X (by decide) dX10_one_109 ?_
            refine am_sub (v := (o73 - 1)) X (by first | rfl | omega) (by omega) dX10_one_110 ?_
            refine am_puti X 63 fl_X10_208 rfl rfl sh_63 (by decide) dX10_one_111 ?_
            refine am_sg (pu σ (j93 : Int) f73 (o73 - 1)) (pu_s18) ?_
            refine am_iload_n (x := r10) X (by rfl) dX10_one_114 ?_
            refine am_bipush X (by decide) dX10_one_115 ?_
            refine am_icmp_ne (tgt := 124) X dX10_one_117 (by decide) (fun h117 => ?_) (fun h117 => ?_)
            · skip
              (exfalso; omega)
            · skip
              refine am_iload_n (x := r73) X (by rfl) dX10_one_120 ?_
              refine am_goto (tgt := 144) X dX10_one_121 (by decide) ?_
              exact hret _ _ _ _ _ dX10_one_144 rfl rfl (by rcases hq93 with ⟨-, z1, z2, z3, z4⟩ | ⟨z, -⟩; subst z1; exact ⟨rfl, _, _, _, rfl, lx_PO_brk hin.1 (by omega) (by omega) hq73 z2 z3 z4⟩; exact absurd z (by omega))
          · skip
            refine am_aload_n (x := 63) X (by rfl) dX10_one_99 ?_
            refine am_callVi (ci := 9) X hY lk_X10_211 mf_X10_wrong (m_X10_wrong j93 f73 o73 σ (by omega) (by omega)) (by omega) (by decide) (Nat.le_refl _) (Nat.le_refl _) sh_63 rfl rfl rfl (Nat.le_of_ble_eq_true rfl) dX10_one_100 (fun r100 sh100 σ100 hr100 hp100 => ?_)
            obtain ⟨rfl, rfl, hq100⟩ := hp100
            exact hret _ _ _ _ _ dX10_one_103 rfl rfl (by rcases hq93 with ⟨z, -⟩ | ⟨-, z1, z2⟩; exact absurd z (by omega); subst z1; exact ⟨rfl, _, _, _, rfl, lx_PO_brk2 hin.1 (by omega) (by omega) hq73 z2⟩)
    · skip
      refine am_aload_n (x := 63) X (by rfl) dX10_one_41 ?_
      refine am_callVi (ci := 9) X hY lk_X10_211 mf_X10_wrong (m_X10_wrong i (-1) o σ (by omega) (by omega)) (by omega) (by decide) (Nat.le_refl _) (Nat.le_refl _) sh_63 rfl rfl rfl (Nat.le_of_ble_eq_true rfl) dX10_one_42 (fun r42 sh42 σ42 hr42 hp42 => ?_)
      obtain ⟨rfl, rfl, hq42⟩ := hp42
      exact hret _ _ _ _ _ dX10_one_45 rfl rfl (by rw [if_pos (by decide)]; exact ⟨rfl, i, _, o, rfl, lx_PO_no hi (by omega) (fun hh => ⟨by omega, by rw [show T i = r10 by omega]; exact lx_name_no (by omega), by omega⟩)⟩)
  refine am_iload_n (x := r10) X (by rfl) dX10_one_14 ?_
  refine am_bipush X (by decide) dX10_one_15 ?_
  refine am_icmp_eq (tgt := 32) X dX10_one_17 (by decide) (fun h17 => ?_) (fun h17 => ?_)
  · skip
    exact hL32  (by omega)
  · skip
    refine am_iload_n (x := r10) X (by rfl) dX10_one_20 ?_
    refine am_bipush X (by decide) dX10_one_21 ?_
    refine am_icmp_eq (tgt := 32) X dX10_one_23 (by decide) (fun h23 => ?_) (fun h23 => ?_)
    · skip
      exact hL32  (by omega)
    · skip
      refine am_iload_n (x := r10) X (by rfl) dX10_one_26 ?_
      refine am_bipush X (by decide) dX10_one_27 ?_
      refine am_icmp_ne (tgt := 145) X dX10_one_29 (by decide) (fun h29 => ?_) (fun h29 => ?_)
      · skip
        have hin0 : i < n → r10 = T i := fun h => by rw [hq10, lx_at_eq h]
        refine am_iload_n (x := r10) X (by rfl) dX10_one_145 ?_
        refine am_callSi X hY lk_X10_217 mf_X10_nameOf (m_X10_nameOf r10 _ (pu σ (i : Int) (-1) o)) (by omega) (by decide) (Nat.le_refl _) (Nat.le_refl _) rfl rfl (Nat.le_of_ble_eq_true rfl) dX10_one_146 (fun r146 sh146 σ146 hr146 hp146 => ?_)
        obtain ⟨rfl, rfl, hq146⟩ := hp146
        refine am_istore_n (i := 2) (L' := [some (vr 63), some (vi r10), some (vi r146), none, none]) X rfl (Nat.le_of_ble_eq_true rfl) (by rfl) dX10_one_149 ?_
        refine am_iload_n (x := r146) X (by rfl) dX10_one_150 ?_
        refine am_if_lt (tgt := 171) X dX10_one_151 (by decide) (fun h151 => ?_) (fun h151 => ?_)
        · skip
          refine am_ic X (by decide) dX10_one_171 ?_
          refine am_istore_n (i := 3) (L' := [some (vr 63), some (vi r10), some (vi r146), some (vi 0), none]) X rfl (Nat.le_of_ble_eq_true rfl) (by rfl) dX10_one_172 ?_
          refine am_ic X (by decide) dX10_one_173 ?_
          refine am_istore (i := 4) (L' := [some (vr 63), some (vi r10), some (vi r146), some (vi 0), some (vi 0)]) X (Nat.le_of_ble_eq_true rfl) (by rfl) dX10_one_174 ?_
          have hL176 : ∀ (m176 : Nat) (m : Nat) (v : Int) (hI : lx_Num T n i m v) (hm176 : 4 - m = m176), am_G K 176 [some (vr 63), some (vi r10), some (vi r146), some (vi v), some (vi (m : Int))] [] SH (pu σ ((i + m : Nat) : Int) (-1) o) := by
            intro m176
            induction m176 using Nat.strongRecOn with
            | ind m176 ih176 =>
            intro m v hI hm176
            obtain ⟨hv1, hv2, hv3, -⟩ := id hI
            refine am_iload (x := (m : Int)) X (by rfl) dX10_one_176 ?_
            refine am_ic X (by decide) dX10_one_178 ?_
            refine am_icmp_ge (tgt := 229) X dX10_one_179 (by decide) (fun h179 => ?_) (fun h179 => ?_)
            · skip
              refine am_iload (x := (m : Int)) X (by rfl) dX10_one_229 ?_
              refine am_if_ne (tgt := 241) X dX10_one_231 (by decide) (fun h231 => ?_) (fun h231 => ?_)
              · skip
                refine am_iload_n (x := v) X (by rfl) dX10_one_241 ?_
                exact hret _ _ _ _ _ dX10_one_242 rfl rfl (⟨rfl, i + m, _, _, rfl, lx_PO_num (by omega) hI (by omega) (Or.inl (by have := hI.2.1; omega))⟩)
              · skip
                refine am_aload_n (x := 63) X (by rfl) dX10_one_234 ?_
                refine am_callVi (ci := 9) X hY lk_X10_211 mf_X10_wrong (m_X10_wrong (i + m) (-1) o σ (by omega) (by omega)) (by omega) (by decide) (Nat.le_refl _) (Nat.le_refl _) sh_63 rfl rfl rfl (Nat.le_of_ble_eq_true rfl) dX10_one_235 (fun r235 sh235 σ235 hr235 hp235 => ?_)
                obtain ⟨rfl, rfl, hq235⟩ := hp235
                refine am_goto (tgt := 242) X dX10_one_238 (by decide) ?_
                exact hret _ _ _ _ _ dX10_one_242 rfl rfl (by exfalso; omega)
            · skip
              refine am_aload_n (x := 63) X (by rfl) dX10_one_182 ?_
              refine am_callVi (ci := 9) X hY lk_X10_187 mf_X10_byteAt (m_X10_byteAt (i + m) (-1) o σ T n htx (by omega)) (by omega) (by decide) (Nat.le_refl _) (Nat.le_refl _) sh_63 rfl rfl rfl (Nat.le_of_ble_eq_true rfl) dX10_one_183 (fun r183 sh183 σ183 hr183 hp183 => ?_)
              obtain ⟨rfl, rfl, hq183⟩ := hp183
              refine am_bipush X (by decide) dX10_one_186 ?_
              refine am_icmp_lt (tgt := 229) X dX10_one_188 (by decide) (fun h188 => ?_) (fun h188 => ?_)
              · skip
                refine am_iload (x := (m : Int)) X (by rfl) dX10_one_229 ?_
                refine am_if_ne (tgt := 241) X dX10_one_231 (by decide) (fun h231 => ?_) (fun h231 => ?_)
                · skip
                  refine am_iload_n (x := v) X (by rfl) dX10_one_241 ?_
                  exact hret _ _ _ _ _ dX10_one_242 rfl rfl (⟨rfl, i + m, _, _, rfl, lx_PO_num (by omega) hI (by omega) (Or.inr (fun hh => by have := hq183.trans (lx_at_eq hh); omega))⟩)
                · skip
                  refine am_aload_n (x := 63) X (by rfl) dX10_one_234 ?_
                  refine am_callVi (ci := 9) X hY lk_X10_211 mf_X10_wrong (m_X10_wrong (i + m) (-1) o σ (by omega) (by omega)) (by omega) (by decide) (Nat.le_refl _) (Nat.le_refl _) sh_63 rfl rfl rfl (Nat.le_of_ble_eq_true rfl) dX10_one_235 (fun r235 sh235 σ235 hr235 hp235 => ?_)
                  obtain ⟨rfl, rfl, hq235⟩ := hp235
                  refine am_goto (tgt := 242) X dX10_one_238 (by decide) ?_
                  exact hret _ _ _ _ _ dX10_one_242 rfl rfl (by have hm0 : m = 0 := (by omega); subst hm0; rw [if_pos (by decide)]; exact ⟨rfl, i, _, o, rfl, lx_PO_no hi (by omega) (fun hh => ⟨by have := hq183.trans (lx_at_eq (T := T) (n := n) (i := i) hh); omega, by rw [← hin0 hh, ← hq146]; omega, Or.inl (by have := hin0 hh; omega)⟩)⟩)
              · skip
                refine am_aload_n (x := 63) X (by rfl) dX10_one_191 ?_
                refine am_callVi (ci := 9) X hY lk_X10_187 mf_X10_byteAt (m_X10_byteAt (i + m) (-1) o σ T n htx (by omega)) (by omega) (by decide) (Nat.le_refl _) (Nat.le_refl _) sh_63 rfl rfl rfl (Nat.le_of_ble_eq_true rfl) dX10_one_192 (fun r192 sh192 σ192 hr192 hp192 => ?_)
                obtain ⟨rfl, rfl, hq192⟩ := hp192
                refine am_bipush X (by decide) dX10_one_195 ?_
                refine am_icmp_gt (tgt := 229) X dX10_one_197 (by decide) (fun h197 => ?_) (fun h197 => ?_)
                · skip
                  refine am_iload (x := (m : Int)) X (by rfl) dX10_one_229 ?_
                  refine am_if_ne (tgt := 241) X dX10_one_231 (by decide) (fun h231 => ?_) (fun h231 => ?_)
                  · skip
                    refine am_iload_n (x := v) X (by rfl) dX10_one_241 ?_
                    exact hret _ _ _ _ _ dX10_one_242 rfl rfl (⟨rfl, i + m, _, _, rfl, lx_PO_num (by omega) hI (by omega) (Or.inr (fun hh => by have := hq192.trans (lx_at_eq hh); omega))⟩)
                  · skip
                    refine am_aload_n (x := 63) X (by rfl) dX10_one_234 ?_
                    refine am_callVi (ci := 9) X hY lk_X10_211 mf_X10_wrong (m_X10_wrong (i + m) (-1) o σ (by omega) (by omega)) (by omega) (by decide) (Nat.le_refl _) (Nat.le_refl _) sh_63 rfl rfl rfl (Nat.le_of_ble_eq_true rfl) dX10_one_235 (fun r235 sh235 σ235 hr235 hp235 => ?_)
                    obtain ⟨rfl, rfl, hq235⟩ := hp235
                    refine am_goto (tgt := 242) X dX10_one_238 (by decide) ?_
                    exact hret _ _ _ _ _ dX10_one_242 rfl rfl (by have hm0 : m = 0 := (by omega); subst hm0; rw [if_pos (by decide)]; exact ⟨rfl, i, _, o, rfl, lx_PO_no hi (by omega) (fun hh => ⟨by have := hq192.trans (lx_at_eq (T := T) (n := n) (i := i) hh); omega, by rw [← hin0 hh, ← hq146]; omega, Or.inl (by have := hin0 hh; omega)⟩)⟩)
                · skip
                  have hin2 := lx_at_in (T := T) (n := n) (i := i + m) (by omega)
                  refine am_bipush X (by decide) dX10_one_200 ?_
                  refine am_iload_n (x := v) X (by rfl) dX10_one_202 ?_
                  refine am_mul (v := (10 * v)) X (by first | rfl | omega) (by omega) dX10_one_203 ?_
                  refine am_aload_n (x := 63) X (by rfl) dX10_one_204 ?_
                  refine am_callVi (ci := 9) X hY lk_X10_187 mf_X10_byteAt (m_X10_byteAt (i + m) (-1) o σ T n htx (by omega)) (by omega) (by decide) (Nat.le_refl _) (Nat.le_refl _) sh_63 rfl rfl rfl (Nat.le_of_ble_eq_true rfl) dX10_one_205 (fun r205 sh205 σ205 hr205 hp205 => ?_)
                  obtain ⟨rfl, rfl, hq205⟩ := hp205
                  refine am_add (v := ((10 * v) + r205)) X (by first | rfl | omega) (by omega) dX10_one_208 ?_
                  refine am_bipush X (by decide) dX10_one_209 ?_
                  refine am_sub (v := (((10 * v) + r205) - 48)) X (by first | rfl | omega) (by omega) dX10_one_211 ?_
                  refine am_istore_n (i := 3) (L' := [some (vr 63), some (vi r10), some (vi r146), some (vi (((10 * v) + r205) - 48)), some (vi (m : Int))]) X rfl (Nat.le_of_ble_eq_true rfl) (by rfl) dX10_one_212 ?_
                  refine am_inc (x := (m : Int)) (v := ((m : Int) + 1)) (L' := [some (vr 63), some (vi r10), some (vi r146), some (vi (((10 * v) + r205) - 48)), some (vi ((m : Int) + 1))]) X (by rfl) (by omega) (by omega) (by rfl) dX10_one_213 ?_
                  refine am_aload_n (x := 63) X (by rfl) dX10_one_216 ?_
                  refine am_dup X (Nat.ne_of_beq_eq_false rfl) dX10_one_217 ?_
                  refine am_get (v := ((i + m : Nat) : Int)) X 63 fl_X10_175 (by decide) sh_63 (by decide) (pu_15) dX10_one_218 ?_
                  refine am_ic X (by decide) dX10_one_221 ?_
                  refine am_add (v := (((i + m : Nat) : Int) + 1)) X (by first | rfl | omega) (by omega) dX10_one_222 ?_
                  refine am_puti X 63 fl_X10_175 rfl rfl sh_63 (by decide) dX10_one_223 ?_
                  refine am_sg (pu σ (((i + m : Nat) + 1 : Nat) : Int) (-1) o) (pu_i15) ?_
                  refine am_goto (tgt := 176) X dX10_one_226 (by decide) ?_
                  exact ih176 _ (by omega) (m + 1) (((10 * v) + r205) - 48) (by have h9 := lx_Num_s hI (by omega) hin2.1 (by omega); rw [show T (i + m) = r205 by omega] at h9; exact h9) rfl
          exact hL176 _ 0 0 (lx_Num_0 hi) rfl
        · skip
          have hnb := lx_name_bd r10
          have hin3 := lx_at_in (T := T) (n := n) (i := i) (by intro q; rw [← hq10] at q; rw [q] at hq146; rw [show lx_name 0 = -1 from rfl] at hq146; omega)
          refine am_aload_n (x := 63) X (by rfl) dX10_one_154 ?_
          refine am_dup X (Nat.ne_of_beq_eq_false rfl) dX10_one_155 ?_
          refine am_get (v := (i : Int)) X 63 fl_X10_175 (by decide) sh_63 (by decide) (pu_15) dX10_one_156 ?_
          refine am_ic X (by decide) dX10_one_159 ?_
          refine am_add (v := ((i : Int) + 1)) X (by first | rfl | omega) (by omega) dX10_one_160 ?_
          refine am_puti X 63 fl_X10_175 rfl rfl sh_63 (by decide) dX10_one_161 ?_
          refine am_sg (pu σ ((i + 1 : Nat) : Int) (-1) o) (pu_i15) ?_
          refine am_aload_n (x := 63) X (by rfl) dX10_one_164 ?_
          refine am_getr (c1 := 71) X 63 fl_X10_31 (by decide) sh_63 (by decide) (by rfl) dX10_one_165 ?_
          refine am_iload_n (x := r146) X (by rfl) dX10_one_168 ?_
          refine am_ald (v := (σ 71 r146.toNat)) X 71 r146.toNat sh_71 (by omega) (by omega) (pu_at (Or.inl (by decide))) dX10_one_169 ?_
          exact hret _ _ _ _ _ dX10_one_170 rfl rfl (⟨rfl, i + 1, _, _, rfl, lx_PO_nam (k := r146) hin3.1 (by omega) (by rw [← hin3.2, ← hq10]; exact hq146.symm) (by omega) rfl⟩)
      · skip
        exact hL32  (by omega)

theorem lx_all (σ : am_H) (T : Nat → Int) (n : Nat) (htx : lx_txt σ T n) : ∀ k : Nat, k ≤ 6 → lx_C1 σ T n k ∧ lx_C6 σ T n k := by
  intro k
  induction k with
  | zero =>
    intro _
    have h6 : lx_C6 σ T n 0 := fun i o hk ho hi => m_X10_one σ T n htx 0 i o hk ho hi (fun k' q => absurd q (by omega))
    have h5 : lx_C5 σ T n 0 := fun i o hk ho hi => m_X10_product σ T n htx 0 i o hk ho hi h6
    have h4 : lx_C4 σ T n 0 := fun i o hk ho hi => m_X10_sums σ T n htx 0 i o hk ho hi h5
    have h3 : lx_C3 σ T n 0 := fun i o hk ho hi => m_X10_compared σ T n htx 0 i o hk ho hi h4
    have h2 : lx_C2 σ T n 0 := fun i o hk ho hi => m_X10_both σ T n htx 0 i o hk ho hi h3
    exact ⟨fun i o hk ho hi => m_X10_either σ T n htx 0 i o hk ho hi h2, h6⟩
  | succ k ih =>
    intro hk6
    have h6 : lx_C6 σ T n (k + 1) := fun i o hk ho hi => m_X10_one σ T n htx (k + 1) i o hk ho hi (fun k' q => by
      have e : k = k' := by omega
      subst e
      exact ih (by omega))
    have h5 : lx_C5 σ T n (k + 1) := fun i o hk ho hi => m_X10_product σ T n htx (k + 1) i o hk ho hi h6
    have h4 : lx_C4 σ T n (k + 1) := fun i o hk ho hi => m_X10_sums σ T n htx (k + 1) i o hk ho hi h5
    have h3 : lx_C3 σ T n (k + 1) := fun i o hk ho hi => m_X10_compared σ T n htx (k + 1) i o hk ho hi h4
    have h2 : lx_C2 σ T n (k + 1) := fun i o hk ho hi => m_X10_both σ T n htx (k + 1) i o hk ho hi h3
    exact ⟨fun i o hk ho hi => m_X10_either σ T n htx (k + 1) i o hk ho hi h2, h6⟩
