set_option maxHeartbeats 4000000 in
set_option maxRecDepth 100000 in
theorem m_X10_debts (a i n : Int) (hi : -2147483648 ≤ i ∧ i < 2147483648) (σ : am_H) (hp : 0 ≤ σ 63 6 ∧ σ 63 6 ≤ 8) (hc : 0 ≤ σ 63 7 ∧ σ 63 7 ≤ 20) (hs : MshV σ) : am_Mi yX10_debts cX10_debts 7 (some .int) 2 0 0 [vr 63, vi a, vi i, vi n] SH σ (fun r sh' σ' => SH = sh' ∧ ((¬ ((0 ≤ a ∧ a ≤ 5) ∧ 1 ≤ n ∧ n ≤ 15) ∧ r = -1 ∧ σ = σ') ∨ ((((0 ≤ a ∧ a ≤ 5) ∧ 1 ≤ n ∧ n ≤ 15) ∧ 0 ≤ σ 86 a.toNat ∧ σ 86 a.toNat ≠ 50) ∧ r = -12 ∧ σ = σ') ∨ ((((0 ≤ a ∧ a ≤ 5) ∧ 1 ≤ n ∧ n ≤ 15) ∧ (σ 86 a.toNat < 0 ∨ σ 86 a.toNat = 50)) ∧ True ∧ ∃ m : Nat, r = (m : Int) ∧ (m : Int) ≤ n ∧ md_dbt (60 * a.toNat + i.toNat) m σ = σ' ∧ (∀ k : Nat, k < m → md_comes (md_dbt (60 * a.toNat + i.toNat) k σ) a.toNat (i + 4 * (k : Int))) ∧ ((m : Int) = n ∨ ¬ md_comes (md_dbt (60 * a.toNat + i.toNat) m σ) a.toNat (i + 4 * (m : Int)))))) := by
  refine am_Mi_of (by decide +kernel) (Nat.le_of_ble_eq_true rfl) (fun K X hY hI hret => ?_)
  show am_G K 0 [some (vr 63), some (vi a), some (vi i), some (vi n), none, none, none] [] SH σ
  refine am_iload_n (x := a) X (by rfl) dX10_debts_0 ?_
  refine am_callSi X hY lk_X10_128 mf_X10_isShelf (m_X10_isShelf a _ σ) (by decide) (by decide) (Nat.le_refl _) (Nat.le_refl _) rfl rfl (Nat.le_of_ble_eq_true rfl) dX10_debts_1 (fun r1 sh1 σ1 hr1 hp1 => ?_)
  obtain ⟨rfl, rfl, hq1⟩ := hp1
  refine am_if_eq (tgt := 19) X dX10_debts_4 (by decide) (fun h4 => ?_) (fun h4 => ?_)
  · skip
    refine am_ic X (by decide) dX10_debts_19 ?_
    exact hret _ _ _ _ _ dX10_debts_20 rfl rfl (by first | exact ⟨rfl, Or.inl ⟨by omega, by omega, rfl⟩⟩ | exact ⟨rfl, Or.inr (Or.inl ⟨by omega, by omega, rfl⟩)⟩)
  · skip
    refine am_iload_n (x := n) X (by rfl) dX10_debts_7 ?_
    refine am_i2l X dX10_debts_8 ?_
    refine am_lc (v := 1) X (by rfl) dX10_debts_9 ?_
    refine am_ldc2 X (n := 15) (by unfold R64; decide) cn_X10_131 dX10_debts_10 ?_
    refine am_callSi X hY lk_X10_103 mf_X10_within (m_X10_within n 1 15 _ σ) (by decide) (by decide) (Nat.le_refl _) (Nat.le_refl _) rfl rfl (Nat.le_of_ble_eq_true rfl) dX10_debts_13 (fun r13 sh13 σ13 hr13 hp13 => ?_)
    obtain ⟨rfl, rfl, hq13⟩ := hp13
    refine am_if_ne (tgt := 21) X dX10_debts_16 (by decide) (fun h16 => ?_) (fun h16 => ?_)
    · skip
      have hsa := hs a.toNat (by omega)
      refine am_aload_n (x := 63) X (by rfl) dX10_debts_21 ?_
      have hL44 : ∀  (he : σ 86 a.toNat < 0 ∨ σ 86 a.toNat = 50), am_G K 44 [some (vr 63), some (vi a), some (vi i), some (vi n), none, none, none] [] SH σ := by
        intro  he
        refine am_ic X (by decide) dX10_debts_44 ?_
        refine am_istore (i := 4) (L' := [some (vr 63), some (vi a), some (vi i), some (vi n), some (vi 0), none, none]) X (Nat.le_of_ble_eq_true rfl) (by rfl) dX10_debts_45 ?_
        have hL67 : ∀ (g0 : Int) (hg0 : g0 = 0 ∧ (σ 86 a.toNat ≠ 50 ∨ i < 0) ∨ g0 = 1 ∧ σ 86 a.toNat = 50 ∧ 0 ≤ i), am_G K 67 [some (vr 63), some (vi a), some (vi i), some (vi n), some (vi 0), none, none] [vi g0] SH σ := by
          intro g0 hg0
          refine am_istore (i := 5) (L' := [some (vr 63), some (vi a), some (vi i), some (vi n), some (vi 0), some (vi g0), none]) X (Nat.le_of_ble_eq_true rfl) (by rfl) dX10_debts_67 ?_
          have hL69 : ∀ (m69 : Nat) (k : Nat) (g : Int) (hk : (k : Int) ≤ n) (hg : g = 0 ∨ g = 1 ∧ σ 86 a.toNat = 50 ∧ 0 ≤ i) (hck : σ 63 7 + (k : Int) ≤ 20) (hall : ∀ j : Nat, j < k → md_comes (md_dbt (60 * a.toNat + i.toNat) j σ) a.toNat (i + 4 * (j : Int))) (hend : g = 0 → ¬ md_comes (md_dbt (60 * a.toNat + i.toNat) k σ) a.toNat (i + 4 * (k : Int))) (hm69 : (n.toNat - k) * 2 + g.toNat = m69), am_G K 69 [some (vr 63), some (vi a), some (vi i), some (vi n), some (vi (k : Int)), some (vi g), none] [] SH (md_dbt (60 * a.toNat + i.toNat) k σ) := by
            intro m69
            induction m69 using Nat.strongRecOn with
            | ind m69 ih69 =>
            intro k g hk hg hck hall hend hm69
            have e6 : (md_dbt (60 * a.toNat + i.toNat) k σ) 63 6 = σ 63 6 := md_dbt_at (by decide) (by decide)
            refine am_iload (x := g) X (by rfl) dX10_debts_69 ?_
            refine am_if_eq (tgt := 232) X dX10_debts_71 (by decide) (fun h71 => ?_) (fun h71 => ?_)
            · skip
              refine am_iload (x := (k : Int)) X (by rfl) dX10_debts_232 ?_
              exact hret _ _ _ _ _ dX10_debts_234 rfl rfl (by exact ⟨rfl, Or.inr (Or.inr ⟨by omega, trivial, k, rfl, by omega, rfl, hall, by first | exact Or.inl (by omega) | exact Or.inr (hend (by omega))⟩)⟩)
            · skip
              refine am_iload (x := (k : Int)) X (by rfl) dX10_debts_74 ?_
              refine am_iload_n (x := n) X (by rfl) dX10_debts_76 ?_
              refine am_icmp_ge (tgt := 232) X dX10_debts_77 (by decide) (fun h77 => ?_) (fun h77 => ?_)
              · skip
                refine am_iload (x := (k : Int)) X (by rfl) dX10_debts_232 ?_
                exact hret _ _ _ _ _ dX10_debts_234 rfl rfl (by exact ⟨rfl, Or.inr (Or.inr ⟨by omega, trivial, k, rfl, by omega, rfl, hall, by first | exact Or.inl (by omega) | exact Or.inr (hend (by omega))⟩)⟩)
              · skip
                refine am_iload_n (x := i) X (by rfl) dX10_debts_80 ?_
                refine am_aload_n (x := 63) X (by rfl) dX10_debts_81 ?_
                refine am_getr (c1 := 87) X 63 fl_X10_80 (by decide) sh_63 (by decide) (by rfl) dX10_debts_82 ?_
                refine am_iload_n (x := a) X (by rfl) dX10_debts_85 ?_
                refine am_ald (v := (σ 87 ((a).toNat))) X 87 ((a).toNat) sh_87 (by omega) (by omega) (md_dbt_at (by decide) (by omega)) dX10_debts_86 ?_
                refine am_ic X (by decide) dX10_debts_87 ?_
                refine am_sub (v := ((σ 87 ((a).toNat)) - 4)) X (by first | rfl | omega) (by omega) dX10_debts_88 ?_
                refine am_ic X (by decide) dX10_debts_89 ?_
                refine am_iload (x := (k : Int)) X (by rfl) dX10_debts_90 ?_
                refine am_mul (v := (4 * (k : Int))) X (by first | rfl | omega) (by omega) dX10_debts_92 ?_
                refine am_sub (v := (((σ 87 ((a).toNat)) - 4) - (4 * (k : Int)))) X (by first | rfl | omega) (by omega) dX10_debts_93 ?_
                refine am_icmp_gt (tgt := 110) X dX10_debts_94 (by decide) (fun h94 => ?_) (fun h94 => ?_)
                · skip
                  refine am_ic X (by decide) dX10_debts_110 ?_
                  refine am_istore (i := 5) (L' := [some (vr 63), some (vi a), some (vi i), some (vi n), some (vi (k : Int)), some (vi 0), none]) X (Nat.le_of_ble_eq_true rfl) (by rfl) dX10_debts_111 ?_
                  refine am_bipush X (by decide) dX10_debts_113 ?_
                  refine am_iload_n (x := a) X (by rfl) dX10_debts_115 ?_
                  refine am_mul (v := (60 * a)) X (by first | rfl | omega) (by omega) dX10_debts_116 ?_
                  refine am_iload_n (x := i) X (by rfl) dX10_debts_117 ?_
                  refine am_iadd X dX10_debts_118 ?_
                  refine am_ic X (by decide) dX10_debts_119 ?_
                  refine am_iload (x := (k : Int)) X (by rfl) dX10_debts_120 ?_
                  refine am_mul (v := (4 * (k : Int))) X (by first | rfl | omega) (by omega) dX10_debts_122 ?_
                  refine am_iadd X dX10_debts_123 ?_
                  refine am_istore (i := 6) (L' := [some (vr 63), some (vi a), some (vi i), some (vi n), some (vi (k : Int)), some (vi 0), some (vi (w32 ((w32 ((60 * a) + i)) + (4 * (k : Int)))))]) X (Nat.le_of_ble_eq_true rfl) (by rfl) dX10_debts_124 ?_
                  skip
                  refine am_iload (x := 0) X (by rfl) dX10_debts_126 ?_
                  refine am_if_eq (tgt := 176) X dX10_debts_128 (by decide) (fun _ => ?_) (fun h => absurd h (by decide))
                  refine am_ic X (by decide) dX10_debts_176 ?_
                  refine am_istore (i := 5) (L' := [some (vr 63), some (vi a), some (vi i), some (vi n), some (vi (k : Int)), some (vi 0), some (vi (w32 ((w32 ((60 * a) + i)) + (4 * (k : Int)))))]) X (Nat.le_of_ble_eq_true rfl) (by rfl) dX10_debts_177 ?_
                  refine am_iload (x := 0) X (by rfl) dX10_debts_179 ?_
                  refine am_if_eq (tgt := 229) X dX10_debts_181 (by decide) (fun _ => ?_) (fun h => absurd h (by decide))
                  refine am_goto (tgt := 69) X dX10_debts_229 (by decide) ?_
                  refine am_fg [true, true, true, true, true, true, false] rfl (L' := [some (vr 63), some (vi a), some (vi i), some (vi n), some (vi (k : Int)), some (vi 0), none]) rfl ?_
                  refine am_sg (md_dbt (60 * a.toNat + i.toNat) k σ) (rfl) ?_
                  exact ih69 _ (by omega) k 0 (by omega) (by omega) (by omega) (hall) (fun _ hcm => by have hq := (md_comes_k (by omega)).1 hcm; omega) rfl
                · skip
                  refine am_aload_n (x := 63) X (by rfl) dX10_debts_97 ?_
                  refine am_get (v := (σ 63 7 + (k : Int))) X 63 fl_X10_111 (by decide) sh_63 (by decide) (md_dbt_n) dX10_debts_98 ?_
                  refine am_bipush X (by decide) dX10_debts_101 ?_
                  refine am_icmp_ge (tgt := 110) X dX10_debts_103 (by decide) (fun h103 => ?_) (fun h103 => ?_)
                  · skip
                    refine am_ic X (by decide) dX10_debts_110 ?_
                    refine am_istore (i := 5) (L' := [some (vr 63), some (vi a), some (vi i), some (vi n), some (vi (k : Int)), some (vi 0), none]) X (Nat.le_of_ble_eq_true rfl) (by rfl) dX10_debts_111 ?_
                    refine am_bipush X (by decide) dX10_debts_113 ?_
                    refine am_iload_n (x := a) X (by rfl) dX10_debts_115 ?_
                    refine am_mul (v := (60 * a)) X (by first | rfl | omega) (by omega) dX10_debts_116 ?_
                    refine am_iload_n (x := i) X (by rfl) dX10_debts_117 ?_
                    refine am_iadd X dX10_debts_118 ?_
                    refine am_ic X (by decide) dX10_debts_119 ?_
                    refine am_iload (x := (k : Int)) X (by rfl) dX10_debts_120 ?_
                    refine am_mul (v := (4 * (k : Int))) X (by first | rfl | omega) (by omega) dX10_debts_122 ?_
                    refine am_iadd X dX10_debts_123 ?_
                    refine am_istore (i := 6) (L' := [some (vr 63), some (vi a), some (vi i), some (vi n), some (vi (k : Int)), some (vi 0), some (vi (w32 ((w32 ((60 * a) + i)) + (4 * (k : Int)))))]) X (Nat.le_of_ble_eq_true rfl) (by rfl) dX10_debts_124 ?_
                    skip
                    refine am_iload (x := 0) X (by rfl) dX10_debts_126 ?_
                    refine am_if_eq (tgt := 176) X dX10_debts_128 (by decide) (fun _ => ?_) (fun h => absurd h (by decide))
                    refine am_ic X (by decide) dX10_debts_176 ?_
                    refine am_istore (i := 5) (L' := [some (vr 63), some (vi a), some (vi i), some (vi n), some (vi (k : Int)), some (vi 0), some (vi (w32 ((w32 ((60 * a) + i)) + (4 * (k : Int)))))]) X (Nat.le_of_ble_eq_true rfl) (by rfl) dX10_debts_177 ?_
                    refine am_iload (x := 0) X (by rfl) dX10_debts_179 ?_
                    refine am_if_eq (tgt := 229) X dX10_debts_181 (by decide) (fun _ => ?_) (fun h => absurd h (by decide))
                    refine am_goto (tgt := 69) X dX10_debts_229 (by decide) ?_
                    refine am_fg [true, true, true, true, true, true, false] rfl (L' := [some (vr 63), some (vi a), some (vi i), some (vi n), some (vi (k : Int)), some (vi 0), none]) rfl ?_
                    refine am_sg (md_dbt (60 * a.toNat + i.toNat) k σ) (rfl) ?_
                    exact ih69 _ (by omega) k 0 (by omega) (by omega) (by omega) (hall) (fun _ hcm => by have hq := (md_comes_k (by omega)).1 hcm; omega) rfl
                  · skip
                    refine am_ic X (by decide) dX10_debts_106 ?_
                    refine am_goto (tgt := 111) X dX10_debts_107 (by decide) ?_
                    refine am_istore (i := 5) (L' := [some (vr 63), some (vi a), some (vi i), some (vi n), some (vi (k : Int)), some (vi 1), none]) X (Nat.le_of_ble_eq_true rfl) (by rfl) dX10_debts_111 ?_
                    refine am_bipush X (by decide) dX10_debts_113 ?_
                    refine am_iload_n (x := a) X (by rfl) dX10_debts_115 ?_
                    refine am_mul (v := (60 * a)) X (by first | rfl | omega) (by omega) dX10_debts_116 ?_
                    refine am_iload_n (x := i) X (by rfl) dX10_debts_117 ?_
                    refine am_iadd X dX10_debts_118 ?_
                    refine am_ic X (by decide) dX10_debts_119 ?_
                    refine am_iload (x := (k : Int)) X (by rfl) dX10_debts_120 ?_
                    refine am_mul (v := (4 * (k : Int))) X (by first | rfl | omega) (by omega) dX10_debts_122 ?_
                    refine am_iadd X dX10_debts_123 ?_
                    refine am_istore (i := 6) (L' := [some (vr 63), some (vi a), some (vi i), some (vi n), some (vi (k : Int)), some (vi 1), some (vi (w32 ((w32 ((60 * a) + i)) + (4 * (k : Int)))))]) X (Nat.le_of_ble_eq_true rfl) (by rfl) dX10_debts_124 ?_
                    have hw0 : w32 ((60 * a) + i) = 60 * a + i := w32_eq (by unfold R32; omega)
                    have hw1 : (w32 ((w32 ((60 * a) + i)) + (4 * (k : Int)))) = 60 * a + i + 4 * (k : Int) := by rw [hw0]; exact w32_eq (by unfold R32; omega)
                    refine am_iload (x := 1) X (by rfl) dX10_debts_126 ?_
                    refine am_if_eq (tgt := 176) X dX10_debts_128 (by decide) (fun h => absurd h (by decide)) (fun _ => ?_)
                    refine am_aload_n (x := 63) X (by rfl) dX10_debts_131 ?_
                    refine am_aload_n (x := 63) X (by rfl) dX10_debts_132 ?_
                    refine am_getr (c1 := 88) X 63 fl_X10_83 (by decide) sh_63 (by decide) (by rfl) dX10_debts_133 ?_
                    refine am_iload (x := (w32 ((w32 ((60 * a) + i)) + (4 * (k : Int))))) X (by rfl) dX10_debts_136 ?_
                    refine am_lalj (v := (σ 88 (60 * a.toNat + i.toNat + 4 * k))) X 88 (60 * a.toNat + i.toNat + 4 * k) sh_88 (by omega) (by omega) (md_dbt_at (by decide) (by omega)) dX10_debts_138 ?_
                    refine am_aload_n (x := 63) X (by rfl) dX10_debts_139 ?_
                    refine am_getr (c1 := 88) X 63 fl_X10_83 (by decide) sh_63 (by decide) (by rfl) dX10_debts_140 ?_
                    refine am_iload (x := (w32 ((w32 ((60 * a) + i)) + (4 * (k : Int))))) X (by rfl) dX10_debts_143 ?_
                    refine am_ic X (by decide) dX10_debts_145 ?_
                    refine am_add (v := ((w32 ((w32 ((60 * a) + i)) + (4 * (k : Int)))) + 1)) X (by first | rfl | omega) (by omega) dX10_debts_146 ?_
                    refine am_lalj (v := (σ 88 (60 * a.toNat + i.toNat + 4 * k + 1))) X 88 (60 * a.toNat + i.toNat + 4 * k + 1) sh_88 (by omega) (by omega) (md_dbt_at (by decide) (by omega)) dX10_debts_147 ?_
                    refine am_aload_n (x := 63) X (by rfl) dX10_debts_148 ?_
                    refine am_getr (c1 := 88) X 63 fl_X10_83 (by decide) sh_63 (by decide) (by rfl) dX10_debts_149 ?_
                    refine am_iload (x := (w32 ((w32 ((60 * a) + i)) + (4 * (k : Int))))) X (by rfl) dX10_debts_152 ?_
                    refine am_ic X (by decide) dX10_debts_154 ?_
                    refine am_add (v := ((w32 ((w32 ((60 * a) + i)) + (4 * (k : Int)))) + 2)) X (by first | rfl | omega) (by omega) dX10_debts_155 ?_
                    refine am_lalj (v := (σ 88 (60 * a.toNat + i.toNat + 4 * k + 2))) X 88 (60 * a.toNat + i.toNat + 4 * k + 2) sh_88 (by omega) (by omega) (md_dbt_at (by decide) (by omega)) dX10_debts_156 ?_
                    refine am_aload_n (x := 63) X (by rfl) dX10_debts_157 ?_
                    refine am_getr (c1 := 88) X 63 fl_X10_83 (by decide) sh_63 (by decide) (by rfl) dX10_debts_158 ?_
                    refine am_iload (x := (w32 ((w32 ((60 * a) + i)) + (4 * (k : Int))))) X (by rfl) dX10_debts_161 ?_
                    refine am_ic X (by decide) dX10_debts_163 ?_
                    refine am_add (v := ((w32 ((w32 ((60 * a) + i)) + (4 * (k : Int)))) + 3)) X (by first | rfl | omega) (by omega) dX10_debts_164 ?_
                    refine am_lalj (v := (σ 88 (60 * a.toNat + i.toNat + 4 * k + 3))) X 88 (60 * a.toNat + i.toNat + 4 * k + 3) sh_88 (by omega) (by omega) (md_dbt_at (by decide) (by omega)) dX10_debts_165 ?_
                    refine am_callVi (ci := 9) X hY lk_X10_120 mf_X10_isOne (m_X10_isOne (σ 88 (60 * a.toNat + i.toNat + 4 * k)) (σ 88 (60 * a.toNat + i.toNat + 4 * k + 1)) (σ 88 (60 * a.toNat + i.toNat + 4 * k + 2)) (σ 88 (60 * a.toNat + i.toNat + 4 * k + 3)) (md_dbt (60 * a.toNat + i.toNat) k σ) (by rw [md_dbt_at (by decide) (by decide)]; exact hp)) (by decide) (by decide) (Nat.le_refl _) (Nat.le_refl _) sh_63 rfl rfl rfl (Nat.le_of_ble_eq_true rfl) dX10_debts_166 (fun r166 sh166 σ166 hr166 hp166 => ?_)
                    obtain ⟨rfl, rfl, hq166⟩ := hp166
                    refine am_if_eq (tgt := 176) X dX10_debts_169 (by decide) (fun h169 => ?_) (fun h169 => ?_)
                    · skip
                      refine am_ic X (by decide) dX10_debts_176 ?_
                      refine am_istore (i := 5) (L' := [some (vr 63), some (vi a), some (vi i), some (vi n), some (vi (k : Int)), some (vi 0), some (vi (w32 ((w32 ((60 * a) + i)) + (4 * (k : Int)))))]) X (Nat.le_of_ble_eq_true rfl) (by rfl) dX10_debts_177 ?_
                      refine am_iload (x := 0) X (by rfl) dX10_debts_179 ?_
                      refine am_if_eq (tgt := 229) X dX10_debts_181 (by decide) (fun _ => ?_) (fun h => absurd h (by decide))
                      refine am_goto (tgt := 69) X dX10_debts_229 (by decide) ?_
                      refine am_fg [true, true, true, true, true, true, false] rfl (L' := [some (vr 63), some (vi a), some (vi i), some (vi n), some (vi (k : Int)), some (vi 0), none]) rfl ?_
                      refine am_sg (md_dbt (60 * a.toNat + i.toNat) k σ) (rfl) ?_
                      exact ih69 _ (by omega) k 0 (by omega) (by omega) (by omega) (hall) (fun _ hcm => by have hq := (md_comes_k (by omega)).1 hcm; omega) rfl
                    · skip
                      refine am_ic X (by decide) dX10_debts_172 ?_
                      refine am_goto (tgt := 177) X dX10_debts_173 (by decide) ?_
                      refine am_istore (i := 5) (L' := [some (vr 63), some (vi a), some (vi i), some (vi n), some (vi (k : Int)), some (vi 1), some (vi (w32 ((w32 ((60 * a) + i)) + (4 * (k : Int)))))]) X (Nat.le_of_ble_eq_true rfl) (by rfl) dX10_debts_177 ?_
                      refine am_iload (x := 1) X (by rfl) dX10_debts_179 ?_
                      refine am_if_eq (tgt := 229) X dX10_debts_181 (by decide) (fun h => absurd h (by decide)) (fun _ => ?_)
                      refine am_aload_n (x := 63) X (by rfl) dX10_debts_184 ?_
                      refine am_aload_n (x := 63) X (by rfl) dX10_debts_185 ?_
                      refine am_getr (c1 := 88) X 63 fl_X10_83 (by decide) sh_63 (by decide) (by rfl) dX10_debts_186 ?_
                      refine am_iload (x := (w32 ((w32 ((60 * a) + i)) + (4 * (k : Int))))) X (by rfl) dX10_debts_189 ?_
                      refine am_lalj (v := (σ 88 (60 * a.toNat + i.toNat + 4 * k))) X 88 (60 * a.toNat + i.toNat + 4 * k) sh_88 (by omega) (by omega) (md_dbt_at (by decide) (by omega)) dX10_debts_191 ?_
                      refine am_l2iv X (by omega) dX10_debts_192 ?_
                      refine am_aload_n (x := 63) X (by rfl) dX10_debts_193 ?_
                      refine am_getr (c1 := 88) X 63 fl_X10_83 (by decide) sh_63 (by decide) (by rfl) dX10_debts_194 ?_
                      refine am_iload (x := (w32 ((w32 ((60 * a) + i)) + (4 * (k : Int))))) X (by rfl) dX10_debts_197 ?_
                      refine am_ic X (by decide) dX10_debts_199 ?_
                      refine am_add (v := ((w32 ((w32 ((60 * a) + i)) + (4 * (k : Int)))) + 1)) X (by first | rfl | omega) (by omega) dX10_debts_200 ?_
                      refine am_lalj (v := (σ 88 (60 * a.toNat + i.toNat + 4 * k + 1))) X 88 (60 * a.toNat + i.toNat + 4 * k + 1) sh_88 (by omega) (by omega) (md_dbt_at (by decide) (by omega)) dX10_debts_201 ?_
                      refine am_l2iv X (by omega) dX10_debts_202 ?_
                      refine am_aload_n (x := 63) X (by rfl) dX10_debts_203 ?_
                      refine am_getr (c1 := 88) X 63 fl_X10_83 (by decide) sh_63 (by decide) (by rfl) dX10_debts_204 ?_
                      refine am_iload (x := (w32 ((w32 ((60 * a) + i)) + (4 * (k : Int))))) X (by rfl) dX10_debts_207 ?_
                      refine am_ic X (by decide) dX10_debts_209 ?_
                      refine am_add (v := ((w32 ((w32 ((60 * a) + i)) + (4 * (k : Int)))) + 2)) X (by first | rfl | omega) (by omega) dX10_debts_210 ?_
                      refine am_lalj (v := (σ 88 (60 * a.toNat + i.toNat + 4 * k + 2))) X 88 (60 * a.toNat + i.toNat + 4 * k + 2) sh_88 (by omega) (by omega) (md_dbt_at (by decide) (by omega)) dX10_debts_211 ?_
                      refine am_l2iv X (by omega) dX10_debts_212 ?_
                      refine am_aload_n (x := 63) X (by rfl) dX10_debts_213 ?_
                      refine am_getr (c1 := 88) X 63 fl_X10_83 (by decide) sh_63 (by decide) (by rfl) dX10_debts_214 ?_
                      refine am_iload (x := (w32 ((w32 ((60 * a) + i)) + (4 * (k : Int))))) X (by rfl) dX10_debts_217 ?_
                      refine am_ic X (by decide) dX10_debts_219 ?_
                      refine am_add (v := ((w32 ((w32 ((60 * a) + i)) + (4 * (k : Int)))) + 3)) X (by first | rfl | omega) (by omega) dX10_debts_220 ?_
                      refine am_lalj (v := (σ 88 (60 * a.toNat + i.toNat + 4 * k + 3))) X 88 (60 * a.toNat + i.toNat + 4 * k + 3) sh_88 (by omega) (by omega) (md_dbt_at (by decide) (by omega)) dX10_debts_221 ?_
                      refine am_l2iv X (by omega) dX10_debts_222 ?_
                      refine am_callVv (ci := 9) X hY lk_X10_124 mf_X10_adds (m_X10_adds (σ 88 (60 * a.toNat + i.toNat + 4 * k)) (σ 88 (60 * a.toNat + i.toNat + 4 * k + 1)) (σ 88 (60 * a.toNat + i.toNat + 4 * k + 2)) (σ 88 (60 * a.toNat + i.toNat + 4 * k + 3)) ((md_dbt (60 * a.toNat + i.toNat) k σ) 63 7).toNat (md_dbt (60 * a.toNat + i.toNat) k σ) (by rw [md_dbt_n]; omega)) (by decide) (by decide) (Nat.le_refl _) (Nat.le_refl _) sh_63 rfl rfl rfl (Nat.le_of_ble_eq_true rfl) dX10_debts_223 (fun sh223 σ223 hp223 => ?_)
                      obtain ⟨rfl, rfl, hq223⟩ := hp223
                      refine am_inc (x := (k : Int)) (v := ((k : Int) + 1)) (L' := [some (vr 63), some (vi a), some (vi i), some (vi n), some (vi ((k : Int) + 1)), some (vi 1), some (vi (w32 ((w32 ((60 * a) + i)) + (4 * (k : Int)))))]) X (by rfl) (by omega) (by omega) (by rfl) dX10_debts_226 ?_
                      refine am_goto (tgt := 69) X dX10_debts_229 (by decide) ?_
                      refine am_fg [true, true, true, true, true, true, false] rfl (L' := [some (vr 63), some (vi a), some (vi i), some (vi n), some (vi ((k : Int) + 1)), some (vi 1), none]) rfl ?_
                      refine am_sg (md_dbt (60 * a.toNat + i.toNat) (k + 1) σ) (md_dbt_s) ?_
                      exact ih69 _ (by omega) (k + 1) 1 (by omega) (by omega) (by omega) (fun j hj => by rcases Nat.lt_or_ge j k with q | q; exact hall j q; rw [show j = k by omega]; exact (md_comes_k (by omega)).2 (by omega)) (fun h => absurd h (by decide)) rfl
          refine am_sg (md_dbt (60 * a.toNat + i.toNat) 0 σ) (rfl) ?_
          exact hL69 _ 0 g0 (by omega) (by omega) (by omega) (fun j hj => absurd hj (by omega)) (fun hg hcm => by have h1 : σ 86 a.toNat = 50 := hcm.1; have h2 := hcm.2.1; omega) rfl
        refine am_aload_n (x := 63) X (by rfl) dX10_debts_47 ?_
        refine am_getr (c1 := 86) X 63 fl_X10_77 (by decide) sh_63 (by decide) (by rfl) dX10_debts_48 ?_
        refine am_iload_n (x := a) X (by rfl) dX10_debts_51 ?_
        refine am_ald (v := σ 86 ((a).toNat)) X 86 ((a).toNat) sh_86 (by omega) (by omega) (rfl) dX10_debts_52 ?_
        refine am_bipush X (by decide) dX10_debts_53 ?_
        refine am_icmp_ne (tgt := 66) X dX10_debts_55 (by decide) (fun h55 => ?_) (fun h55 => ?_)
        · skip
          refine am_ic X (by decide) dX10_debts_66 ?_
          exact hL67 0 (by omega)
        · skip
          refine am_iload_n (x := i) X (by rfl) dX10_debts_58 ?_
          refine am_if_lt (tgt := 66) X dX10_debts_59 (by decide) (fun h59 => ?_) (fun h59 => ?_)
          · skip
            refine am_ic X (by decide) dX10_debts_66 ?_
            exact hL67 0 (by omega)
          · skip
            refine am_ic X (by decide) dX10_debts_62 ?_
            refine am_goto (tgt := 67) X dX10_debts_63 (by decide) ?_
            exact hL67 1 (by omega)
      refine am_getr (c1 := 86) X 63 fl_X10_77 (by decide) sh_63 (by decide) (by rfl) dX10_debts_22 ?_
      refine am_iload_n (x := a) X (by rfl) dX10_debts_25 ?_
      refine am_ald (v := σ 86 ((a).toNat)) X 86 ((a).toNat) sh_86 (by omega) (by omega) (rfl) dX10_debts_26 ?_
      refine am_if_lt (tgt := 44) X dX10_debts_27 (by decide) (fun h27 => ?_) (fun h27 => ?_)
      · skip
        exact hL44  (by omega)
      · skip
        refine am_aload_n (x := 63) X (by rfl) dX10_debts_30 ?_
        refine am_getr (c1 := 86) X 63 fl_X10_77 (by decide) sh_63 (by decide) (by rfl) dX10_debts_31 ?_
        refine am_iload_n (x := a) X (by rfl) dX10_debts_34 ?_
        refine am_ald (v := σ 86 ((a).toNat)) X 86 ((a).toNat) sh_86 (by omega) (by omega) (rfl) dX10_debts_35 ?_
        refine am_bipush X (by decide) dX10_debts_36 ?_
        refine am_icmp_eq (tgt := 44) X dX10_debts_38 (by decide) (fun h38 => ?_) (fun h38 => ?_)
        · skip
          exact hL44  (by omega)
        · skip
          refine am_bipush X (by decide) dX10_debts_41 ?_
          exact hret _ _ _ _ _ dX10_debts_43 rfl rfl (by first | exact ⟨rfl, Or.inl ⟨by omega, by omega, rfl⟩⟩ | exact ⟨rfl, Or.inr (Or.inl ⟨by omega, by omega, rfl⟩)⟩)
    · skip
      refine am_ic X (by decide) dX10_debts_19 ?_
      exact hret _ _ _ _ _ dX10_debts_20 rfl rfl (by first | exact ⟨rfl, Or.inl ⟨by omega, by omega, rfl⟩⟩ | exact ⟨rfl, Or.inr (Or.inl ⟨by omega, by omega, rfl⟩)⟩)
