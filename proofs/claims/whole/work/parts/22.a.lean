set_option maxHeartbeats 4000000 in
set_option maxRecDepth 100000 in
theorem m_X4_add (p q d k : Int) (σ : am_H) (hc : 0 ≤ σ 16 5 ∧ σ 16 5 < 20) : am_Mi yX4_add cX4_add 5 (some .int) 0 0 0 [vr 16, vi p, vi q, vi d, vi k] SH σ (fun r sh' σ' => SH = sh' ∧ led_add σ p q d k = σ' ∧ r = σ 16 5) := by
  refine am_Mi_of (by decide +kernel) (Nat.le_of_ble_eq_true rfl) (fun K X hY hI hret => ?_)
  show am_G K 0 [some (vr 16), some (vi p), some (vi q), some (vi d), some (vi k)] [] SH σ
  refine am_aload_n (x := 16) X (by rfl) dX4_add_0 ?_
  refine am_getr (c1 := 17) X 16 fl_X4_9 (by decide) sh_16 (by decide) (by rfl) dX4_add_1 ?_
  refine am_aload_n (x := 16) X (by rfl) dX4_add_4 ?_
  refine am_get (v := σ 16 5) X 16 fl_X4_33 (by decide) sh_16 (by decide) (rfl) dX4_add_5 ?_
  refine am_iload_n (x := p) X (by rfl) dX4_add_8 ?_
  refine am_ast X 17 (σ 16 5).toNat sh_17 (by omega) (by omega) dX4_add_9 ?_
  refine am_aload_n (x := 16) X (by rfl) dX4_add_10 ?_
  refine am_getr (c1 := 18) X 16 fl_X4_15 (by decide) sh_16 (by decide) (by rfl) dX4_add_11 ?_
  refine am_aload_n (x := 16) X (by rfl) dX4_add_14 ?_
  refine am_get (v := σ 16 5) X 16 fl_X4_33 (by decide) sh_16 (by decide) (by simp [am_up]) dX4_add_15 ?_
  refine am_iload_n (x := q) X (by rfl) dX4_add_18 ?_
  refine am_ast X 18 (σ 16 5).toNat sh_18 (by omega) (by omega) dX4_add_19 ?_
  refine am_aload_n (x := 16) X (by rfl) dX4_add_20 ?_
  refine am_getr (c1 := 19) X 16 fl_X4_18 (by decide) sh_16 (by decide) (by rfl) dX4_add_21 ?_
  refine am_aload_n (x := 16) X (by rfl) dX4_add_24 ?_
  refine am_get (v := σ 16 5) X 16 fl_X4_33 (by decide) sh_16 (by decide) (by simp [am_up]) dX4_add_25 ?_
  refine am_iload_n (x := d) X (by rfl) dX4_add_28 ?_
  refine am_ast X 19 (σ 16 5).toNat sh_19 (by omega) (by omega) dX4_add_29 ?_
  refine am_aload_n (x := 16) X (by rfl) dX4_add_30 ?_
  refine am_getr (c1 := 20) X 16 fl_X4_21 (by decide) sh_16 (by decide) (by rfl) dX4_add_31 ?_
  refine am_aload_n (x := 16) X (by rfl) dX4_add_34 ?_
  refine am_get (v := σ 16 5) X 16 fl_X4_33 (by decide) sh_16 (by decide) (by simp [am_up]) dX4_add_35 ?_
  refine am_iload (x := k) X (by rfl) dX4_add_38 ?_
  refine am_ast X 20 (σ 16 5).toNat sh_20 (by omega) (by omega) dX4_add_40 ?_
  refine am_aload_n (x := 16) X (by rfl) dX4_add_41 ?_
  refine am_getr (c1 := 21) X 16 fl_X4_24 (by decide) sh_16 (by decide) (by rfl) dX4_add_42 ?_
  refine am_aload_n (x := 16) X (by rfl) dX4_add_45 ?_
  refine am_get (v := σ 16 5) X 16 fl_X4_33 (by decide) sh_16 (by decide) (by simp [am_up]) dX4_add_46 ?_
  refine am_ic X (by decide) dX4_add_49 ?_
  refine am_ast X 21 (σ 16 5).toNat sh_21 (by omega) (by omega) dX4_add_50 ?_
  refine am_aload_n (x := 16) X (by rfl) dX4_add_51 ?_
  refine am_dup X (Nat.ne_of_beq_eq_false rfl) dX4_add_52 ?_
  refine am_get (v := σ 16 5) X 16 fl_X4_33 (by decide) sh_16 (by decide) (by simp [am_up]) dX4_add_53 ?_
  refine am_ic X (by decide) dX4_add_56 ?_
  refine am_add (v := (σ 16 5 + 1)) X (by first | rfl | omega) (by omega) dX4_add_57 ?_
  refine am_puti X 16 fl_X4_33 rfl rfl sh_16 (by decide) dX4_add_58 ?_
  refine am_aload_n (x := 16) X (by rfl) dX4_add_61 ?_
  refine am_get (v := (σ 16 5 + 1)) X 16 fl_X4_33 (by decide) sh_16 (by decide) (by simp [am_up]) dX4_add_62 ?_
  refine am_ic X (by decide) dX4_add_65 ?_
  refine am_sub (v := ((σ 16 5 + 1) - 1)) X (by first | rfl | omega) (by omega) dX4_add_66 ?_
  exact hret _ _ _ _ _ dX4_add_67 rfl rfl (⟨rfl, rfl, by omega⟩)

set_option maxHeartbeats 4000000 in
set_option maxRecDepth 100000 in
theorem m_X4_lessen (a : Int) (k : Nat) (ha : a = k) (hk : k < 20) (b : Int) (σ : am_H) (hb : 0 ≤ σ 19 k ∧ σ 19 k ≤ 9 ∧ 0 ≤ b ∧ b ≤ 9) : am_Mv yX4_lessen cX4_lessen 3 none 0 0 0 [vr 16, vi a, vi b] SH σ (fun sh' σ' => SH = sh' ∧ led_less σ k b = σ' ∧ True) := by
  refine am_Mv_of (by decide +kernel) (Nat.le_of_ble_eq_true rfl) (fun K X hY hI hret => ?_)
  show am_G K 0 [some (vr 16), some (vi a), some (vi b)] [] SH σ
  refine am_aload_n (x := 16) X (by rfl) dX4_lessen_0 ?_
  refine am_getr (c1 := 19) X 16 fl_X4_18 (by decide) sh_16 (by decide) (by rfl) dX4_lessen_1 ?_
  refine am_iload_n (x := a) X (by rfl) dX4_lessen_4 ?_
  refine am_dup2 X (Nat.ne_of_beq_eq_false rfl) (Nat.ne_of_beq_eq_false rfl) dX4_lessen_5 ?_
  refine am_ald (v := σ 19 k) X 19 k sh_19 (by omega) (by omega) (rfl) dX4_lessen_6 ?_
  refine am_iload_n (x := b) X (by rfl) dX4_lessen_7 ?_
  refine am_sub (v := (σ 19 k - b)) X (by first | rfl | omega) (by omega) dX4_lessen_8 ?_
  refine am_ast X 19 k sh_19 (by omega) (by omega) dX4_lessen_9 ?_
  refine am_aload_n (x := 16) X (by rfl) dX4_lessen_10 ?_
  refine am_getr (c1 := 19) X 16 fl_X4_18 (by decide) sh_16 (by decide) (by rfl) dX4_lessen_11 ?_
  refine am_iload_n (x := a) X (by rfl) dX4_lessen_14 ?_
  refine am_ald (v := (σ 19 k - b)) X 19 k sh_19 (by omega) (by omega) (by simp [am_up]) dX4_lessen_15 ?_
  refine am_if_ne (tgt := 26) X dX4_lessen_16 (by decide) (fun h16 => ?_) (fun h16 => ?_)
  · skip
    exact hret _ _ _ _ dX4_lessen_26 rfl rfl (by refine ⟨rfl, ?_, trivial⟩; unfold led_less; first | rw [if_pos (by omega)] | rw [if_neg (by omega)])
  · skip
    refine am_aload_n (x := 16) X (by rfl) dX4_lessen_19 ?_
    refine am_getr (c1 := 21) X 16 fl_X4_24 (by decide) sh_16 (by decide) (by rfl) dX4_lessen_20 ?_
    refine am_iload_n (x := a) X (by rfl) dX4_lessen_23 ?_
    refine am_ic X (by decide) dX4_lessen_24 ?_
    refine am_ast X 21 k sh_21 (by omega) (by omega) dX4_lessen_25 ?_
    exact hret _ _ _ _ dX4_lessen_26 rfl rfl (by refine ⟨rfl, ?_, trivial⟩; unfold led_less; first | rw [if_pos (by omega)] | rw [if_neg (by omega)])

set_option maxHeartbeats 4000000 in
set_option maxRecDepth 100000 in
theorem m_X4_workOff (a : Int) (k : Nat) (ha : a = k) (hk : k < 20) (w : Int) (σ : am_H) (hb : 1 ≤ σ 19 k ∧ σ 19 k ≤ 9) : am_Mv yX4_workOff cX4_workOff 3 none 1 0 0 [vr 16, vi a, vi w] SH σ (fun sh' σ' => SH = sh' ∧ led_work σ k w = σ' ∧ True) := by
  refine am_Mv_of (by decide +kernel) (Nat.le_of_ble_eq_true rfl) (fun K X hY hI hret => ?_)
  show am_G K 0 [some (vr 16), some (vi a), some (vi w)] [] SH σ
  refine am_iload_n (x := w) X (by rfl) dX4_workOff_0 ?_
  refine am_if_eq (tgt := 13) X dX4_workOff_1 (by decide) (fun h1 => ?_) (fun h1 => ?_)
  · skip
    refine am_aload_n (x := 16) X (by rfl) dX4_workOff_13 ?_
    refine am_getr (c1 := 21) X 16 fl_X4_24 (by decide) sh_16 (by decide) (by rfl) dX4_workOff_14 ?_
    refine am_iload_n (x := a) X (by rfl) dX4_workOff_17 ?_
    refine am_ald (v := σ 21 k) X 21 k sh_21 (by omega) (by omega) (rfl) dX4_workOff_18 ?_
    refine am_if_ne (tgt := 32) X dX4_workOff_19 (by decide) (fun h19 => ?_) (fun h19 => ?_)
    · skip
      refine am_aload_n (x := 16) X (by rfl) dX4_workOff_32 ?_
      refine am_getr (c1 := 21) X 16 fl_X4_24 (by decide) sh_16 (by decide) (by rfl) dX4_workOff_33 ?_
      refine am_iload_n (x := a) X (by rfl) dX4_workOff_36 ?_
      refine am_ic X (by decide) dX4_workOff_37 ?_
      refine am_ast X 21 k sh_21 (by omega) (by omega) dX4_workOff_38 ?_
      refine am_aload_n (x := 16) X (by rfl) dX4_workOff_39 ?_
      refine am_iload_n (x := a) X (by rfl) dX4_workOff_40 ?_
      refine am_ic X (by decide) dX4_workOff_41 ?_
      refine am_callVv (ci := 4) X hY lk_X4_45 mf_X4_lessen (m_X4_lessen a k ha hk 1 (am_up σ 21 k 0) (by simp only [am_up]; simp; omega)) (by decide) (by decide) (Nat.le_refl _) (Nat.le_refl _) sh_16 rfl rfl rfl (Nat.le_of_ble_eq_true rfl) dX4_workOff_42 (fun sh42 σ42 hp42 => ?_)
      obtain ⟨rfl, rfl, hq42⟩ := hp42
      exact hret _ _ _ _ dX4_workOff_45 rfl rfl (by refine ⟨rfl, ?_, trivial⟩; unfold led_work; first | rw [if_pos (by omega)] | (rw [if_neg (by omega)]; first | rw [if_pos (by omega)] | rw [if_neg (by omega)]))
    · skip
      refine am_aload_n (x := 16) X (by rfl) dX4_workOff_22 ?_
      refine am_getr (c1 := 21) X 16 fl_X4_24 (by decide) sh_16 (by decide) (by rfl) dX4_workOff_23 ?_
      refine am_iload_n (x := a) X (by rfl) dX4_workOff_26 ?_
      refine am_ic X (by decide) dX4_workOff_27 ?_
      refine am_ast X 21 k sh_21 (by omega) (by omega) dX4_workOff_28 ?_
      refine am_goto (tgt := 45) X dX4_workOff_29 (by decide) ?_
      exact hret _ _ _ _ dX4_workOff_45 rfl rfl (by refine ⟨rfl, ?_, trivial⟩; unfold led_work; first | rw [if_pos (by omega)] | (rw [if_neg (by omega)]; first | rw [if_pos (by omega)] | rw [if_neg (by omega)]))
  · skip
    refine am_aload_n (x := 16) X (by rfl) dX4_workOff_4 ?_
    refine am_iload_n (x := a) X (by rfl) dX4_workOff_5 ?_
    refine am_ic X (by decide) dX4_workOff_6 ?_
    refine am_callVv (ci := 4) X hY lk_X4_45 mf_X4_lessen (m_X4_lessen a k ha hk 1 σ (by omega)) (by decide) (by decide) (Nat.le_refl _) (Nat.le_refl _) sh_16 rfl rfl rfl (Nat.le_of_ble_eq_true rfl) dX4_workOff_7 (fun sh7 σ7 hp7 => ?_)
    obtain ⟨rfl, rfl, hq7⟩ := hp7
    refine am_goto (tgt := 45) X dX4_workOff_10 (by decide) ?_
    exact hret _ _ _ _ dX4_workOff_45 rfl rfl (by refine ⟨rfl, ?_, trivial⟩; unfold led_work; first | rw [if_pos (by omega)] | (rw [if_neg (by omega)]; first | rw [if_pos (by omega)] | rw [if_neg (by omega)]))

set_option maxHeartbeats 4000000 in
set_option maxRecDepth 100000 in
theorem m_X4_handOn (a b : Int) (ka kb : Nat) (hka : a = ka) (hkb : b = kb) (σ : am_H) (hc : 0 ≤ σ 16 5 ∧ σ 16 5 ≤ 20) (hd : ∀ n : Nat, (n : Int) < σ 16 5 → 0 ≤ σ 19 n ∧ σ 19 n ≤ 9) (hh : (ka < 20 ∧ kb < 20 ∧ (ka : Int) < σ 16 5 ∧ (kb : Int) < σ 16 5)) : am_Mi yX4_handOn cX4_handOn 4 (some .boolean) 3 0 0 [vr 16, vi a, vi b] SH σ (fun r sh' σ' => SH = sh' ∧ ((r = 1 ∧ ((0 < σ 19 ka ∧ 0 < σ 19 kb ∧ σ 18 ka = σ 17 kb ∧ σ 17 ka ≠ σ 18 kb) ∧ σ 20 ka = σ 20 kb ∧ σ 19 ka = σ 19 kb ∧ σ 21 ka = σ 21 kb) ∧ (led_less (am_up σ 18 ka (σ 18 kb)) kb (σ 19 kb)) = σ') ∨ (r = 0 ∧ ¬ ((0 < σ 19 ka ∧ 0 < σ 19 kb ∧ σ 18 ka = σ 17 kb ∧ σ 17 ka ≠ σ 18 kb) ∧ σ 20 ka = σ 20 kb ∧ σ 19 ka = σ 19 kb ∧ σ 21 ka = σ 21 kb) ∧ σ = σ'))) := by
  refine am_Mz_of (by decide +kernel) (Nat.le_of_ble_eq_true rfl) (fun K X hY hI hret => ?_)
  show am_G K 0 [some (vr 16), some (vi a), some (vi b), none] [] SH σ
  have hda := hd ka (by omega)
  have hdb := hd kb (by omega)
  refine am_aload_n (x := 16) X (by rfl) dX4_handOn_0 ?_
  refine am_iload_n (x := a) X (by rfl) dX4_handOn_1 ?_
  refine am_callVi (ci := 4) X hY lk_X4_49 mf_X4_isOpen (m_X4_isOpen a ka hka σ hc) (by decide) (by decide) (Nat.le_refl _) (Nat.le_refl _) sh_16 rfl rfl rfl (Nat.le_of_ble_eq_true rfl) dX4_handOn_2 (fun r2 sh2 σ2 hr2 hp2 => ?_)
  obtain ⟨rfl, rfl, hq2⟩ := hp2
  refine am_if_eq (tgt := 50) X dX4_handOn_5 (by decide) (fun h5 => ?_) (fun h5 => ?_)
  · skip
    refine am_ic X (by decide) dX4_handOn_50 ?_
    refine am_istore_n (i := 3) (L' := [some (vr 16), some (vi a), some (vi b), some (vi 0)]) X rfl (Nat.le_of_ble_eq_true rfl) (by rfl) dX4_handOn_51 ?_
    refine am_iload_n (x := 0) X (by rfl) dX4_handOn_52 ?_
    refine am_if_eq (tgt := 101) X dX4_handOn_53 (by decide) (fun h53 => ?_) (fun h53 => ?_)
    · skip
      refine am_ic X (by decide) dX4_handOn_101 ?_
      exact hret _ _ _ _ _ dX4_handOn_102 rfl rfl (by first | exact ⟨rfl, Or.inl ⟨rfl, by omega, rfl⟩⟩ | exact ⟨rfl, Or.inr ⟨rfl, by omega, rfl⟩⟩) (by first | exact Or.inl rfl | exact Or.inr rfl | omega)
    · skip
      refine am_aload_n (x := 16) X (by rfl) dX4_handOn_56 ?_
      refine am_getr (c1 := 20) X 16 fl_X4_21 (by decide) sh_16 (by decide) (by rfl) dX4_handOn_57 ?_
      refine am_iload_n (x := a) X (by rfl) dX4_handOn_60 ?_
      refine am_ald (v := σ 20 ka) X 20 ka sh_20 (by omega) (by omega) (rfl) dX4_handOn_61 ?_
      refine am_aload_n (x := 16) X (by rfl) dX4_handOn_62 ?_
      refine am_getr (c1 := 20) X 16 fl_X4_21 (by decide) sh_16 (by decide) (by rfl) dX4_handOn_63 ?_
      refine am_iload_n (x := b) X (by rfl) dX4_handOn_66 ?_
      refine am_ald (v := σ 20 kb) X 20 kb sh_20 (by omega) (by omega) (rfl) dX4_handOn_67 ?_
      refine am_icmp_ne (tgt := 101) X dX4_handOn_68 (by decide) (fun h68 => ?_) (fun h68 => ?_)
      · skip
        refine am_ic X (by decide) dX4_handOn_101 ?_
        exact hret _ _ _ _ _ dX4_handOn_102 rfl rfl (by first | exact ⟨rfl, Or.inl ⟨rfl, by omega, rfl⟩⟩ | exact ⟨rfl, Or.inr ⟨rfl, by omega, rfl⟩⟩) (by first | exact Or.inl rfl | exact Or.inr rfl | omega)
      · skip
        refine am_aload_n (x := 16) X (by rfl) dX4_handOn_71 ?_
        refine am_getr (c1 := 19) X 16 fl_X4_18 (by decide) sh_16 (by decide) (by rfl) dX4_handOn_72 ?_
        refine am_iload_n (x := a) X (by rfl) dX4_handOn_75 ?_
        refine am_ald (v := σ 19 ka) X 19 ka sh_19 (by omega) (by omega) (rfl) dX4_handOn_76 ?_
        refine am_aload_n (x := 16) X (by rfl) dX4_handOn_77 ?_
        refine am_getr (c1 := 19) X 16 fl_X4_18 (by decide) sh_16 (by decide) (by rfl) dX4_handOn_78 ?_
        refine am_iload_n (x := b) X (by rfl) dX4_handOn_81 ?_
        refine am_ald (v := σ 19 kb) X 19 kb sh_19 (by omega) (by omega) (rfl) dX4_handOn_82 ?_
        refine am_icmp_ne (tgt := 101) X dX4_handOn_83 (by decide) (fun h83 => ?_) (fun h83 => ?_)
        · skip
          refine am_ic X (by decide) dX4_handOn_101 ?_
          exact hret _ _ _ _ _ dX4_handOn_102 rfl rfl (by first | exact ⟨rfl, Or.inl ⟨rfl, by omega, rfl⟩⟩ | exact ⟨rfl, Or.inr ⟨rfl, by omega, rfl⟩⟩) (by first | exact Or.inl rfl | exact Or.inr rfl | omega)
        · skip
          refine am_aload_n (x := 16) X (by rfl) dX4_handOn_86 ?_
          refine am_getr (c1 := 21) X 16 fl_X4_24 (by decide) sh_16 (by decide) (by rfl) dX4_handOn_87 ?_
          refine am_iload_n (x := a) X (by rfl) dX4_handOn_90 ?_
          refine am_ald (v := σ 21 ka) X 21 ka sh_21 (by omega) (by omega) (rfl) dX4_handOn_91 ?_
          refine am_aload_n (x := 16) X (by rfl) dX4_handOn_92 ?_
          refine am_getr (c1 := 21) X 16 fl_X4_24 (by decide) sh_16 (by decide) (by rfl) dX4_handOn_93 ?_
          refine am_iload_n (x := b) X (by rfl) dX4_handOn_96 ?_
          refine am_ald (v := σ 21 kb) X 21 kb sh_21 (by omega) (by omega) (rfl) dX4_handOn_97 ?_
          refine am_icmp_eq (tgt := 103) X dX4_handOn_98 (by decide) (fun h98 => ?_) (fun h98 => ?_)
          · skip
            refine am_aload_n (x := 16) X (by rfl) dX4_handOn_103 ?_
            refine am_getr (c1 := 18) X 16 fl_X4_15 (by decide) sh_16 (by decide) (by rfl) dX4_handOn_104 ?_
            refine am_iload_n (x := a) X (by rfl) dX4_handOn_107 ?_
            refine am_aload_n (x := 16) X (by rfl) dX4_handOn_108 ?_
            refine am_getr (c1 := 18) X 16 fl_X4_15 (by decide) sh_16 (by decide) (by rfl) dX4_handOn_109 ?_
            refine am_iload_n (x := b) X (by rfl) dX4_handOn_112 ?_
            refine am_ald (v := σ 18 kb) X 18 kb sh_18 (by omega) (by omega) (rfl) dX4_handOn_113 ?_
            refine am_ast X 18 ka sh_18 (by omega) (by omega) dX4_handOn_114 ?_
            refine am_aload_n (x := 16) X (by rfl) dX4_handOn_115 ?_
            refine am_iload_n (x := b) X (by rfl) dX4_handOn_116 ?_
            refine am_aload_n (x := 16) X (by rfl) dX4_handOn_117 ?_
            refine am_getr (c1 := 19) X 16 fl_X4_18 (by decide) sh_16 (by decide) (by rfl) dX4_handOn_118 ?_
            refine am_iload_n (x := b) X (by rfl) dX4_handOn_121 ?_
            refine am_ald (v := σ 19 kb) X 19 kb sh_19 (by omega) (by omega) (by simp [am_up]) dX4_handOn_122 ?_
            refine am_callVv (ci := 4) X hY lk_X4_45 mf_X4_lessen (m_X4_lessen b kb hkb (by omega) (σ 19 kb) (am_up σ 18 ka (σ 18 kb)) (by simp only [am_up]; simp; omega)) (by decide) (by decide) (Nat.le_refl _) (Nat.le_refl _) sh_16 rfl rfl rfl (Nat.le_of_ble_eq_true rfl) dX4_handOn_123 (fun sh123 σ123 hp123 => ?_)
            obtain ⟨rfl, rfl, hq123⟩ := hp123
            refine am_ic X (by decide) dX4_handOn_126 ?_
            exact hret _ _ _ _ _ dX4_handOn_127 rfl rfl (by first | exact ⟨rfl, Or.inl ⟨rfl, by omega, rfl⟩⟩ | exact ⟨rfl, Or.inr ⟨rfl, by omega, rfl⟩⟩) (by first | exact Or.inl rfl | exact Or.inr rfl | omega)
          · skip
            refine am_ic X (by decide) dX4_handOn_101 ?_
            exact hret _ _ _ _ _ dX4_handOn_102 rfl rfl (by first | exact ⟨rfl, Or.inl ⟨rfl, by omega, rfl⟩⟩ | exact ⟨rfl, Or.inr ⟨rfl, by omega, rfl⟩⟩) (by first | exact Or.inl rfl | exact Or.inr rfl | omega)
  · skip
    refine am_aload_n (x := 16) X (by rfl) dX4_handOn_8 ?_
    refine am_iload_n (x := b) X (by rfl) dX4_handOn_9 ?_
    refine am_callVi (ci := 4) X hY lk_X4_49 mf_X4_isOpen (m_X4_isOpen b kb hkb σ hc) (by decide) (by decide) (Nat.le_refl _) (Nat.le_refl _) sh_16 rfl rfl rfl (Nat.le_of_ble_eq_true rfl) dX4_handOn_10 (fun r10 sh10 σ10 hr10 hp10 => ?_)
    obtain ⟨rfl, rfl, hq10⟩ := hp10
    refine am_if_eq (tgt := 50) X dX4_handOn_13 (by decide) (fun h13 => ?_) (fun h13 => ?_)
    · skip
      refine am_ic X (by decide) dX4_handOn_50 ?_
      refine am_istore_n (i := 3) (L' := [some (vr 16), some (vi a), some (vi b), some (vi 0)]) X rfl (Nat.le_of_ble_eq_true rfl) (by rfl) dX4_handOn_51 ?_
      refine am_iload_n (x := 0) X (by rfl) dX4_handOn_52 ?_
      refine am_if_eq (tgt := 101) X dX4_handOn_53 (by decide) (fun h53 => ?_) (fun h53 => ?_)
      · skip
        refine am_ic X (by decide) dX4_handOn_101 ?_
        exact hret _ _ _ _ _ dX4_handOn_102 rfl rfl (by first | exact ⟨rfl, Or.inl ⟨rfl, by omega, rfl⟩⟩ | exact ⟨rfl, Or.inr ⟨rfl, by omega, rfl⟩⟩) (by first | exact Or.inl rfl | exact Or.inr rfl | omega)
      · skip
        refine am_aload_n (x := 16) X (by rfl) dX4_handOn_56 ?_
        refine am_getr (c1 := 20) X 16 fl_X4_21 (by decide) sh_16 (by decide) (by rfl) dX4_handOn_57 ?_
        refine am_iload_n (x := a) X (by rfl) dX4_handOn_60 ?_
        refine am_ald (v := σ 20 ka) X 20 ka sh_20 (by omega) (by omega) (rfl) dX4_handOn_61 ?_
        refine am_aload_n (x := 16) X (by rfl) dX4_handOn_62 ?_
        refine am_getr (c1 := 20) X 16 fl_X4_21 (by decide) sh_16 (by decide) (by rfl) dX4_handOn_63 ?_
        refine am_iload_n (x := b) X (by rfl) dX4_handOn_66 ?_
        refine am_ald (v := σ 20 kb) X 20 kb sh_20 (by omega) (by omega) (rfl) dX4_handOn_67 ?_
        refine am_icmp_ne (tgt := 101) X dX4_handOn_68 (by decide) (fun h68 => ?_) (fun h68 => ?_)
        · skip
          refine am_ic X (by decide) dX4_handOn_101 ?_
          exact hret _ _ _ _ _ dX4_handOn_102 rfl rfl (by first | exact ⟨rfl, Or.inl ⟨rfl, by omega, rfl⟩⟩ | exact ⟨rfl, Or.inr ⟨rfl, by omega, rfl⟩⟩) (by first | exact Or.inl rfl | exact Or.inr rfl | omega)
        · skip
          refine am_aload_n (x := 16) X (by rfl) dX4_handOn_71 ?_
          refine am_getr (c1 := 19) X 16 fl_X4_18 (by decide) sh_16 (by decide) (by rfl) dX4_handOn_72 ?_
          refine am_iload_n (x := a) X (by rfl) dX4_handOn_75 ?_
          refine am_ald (v := σ 19 ka) X 19 ka sh_19 (by omega) (by omega) (rfl) dX4_handOn_76 ?_
          refine am_aload_n (x := 16) X (by rfl) dX4_handOn_77 ?_
          refine am_getr (c1 := 19) X 16 fl_X4_18 (by decide) sh_16 (by decide) (by rfl) dX4_handOn_78 ?_
          refine am_iload_n (x := b) X (by rfl) dX4_handOn_81 ?_
          refine am_ald (v := σ 19 kb) X 19 kb sh_19 (by omega) (by omega) (rfl) dX4_handOn_82 ?_
          refine am_icmp_ne (tgt := 101) X dX4_handOn_83 (by decide) (fun h83 => ?_) (fun h83 => ?_)
          · skip
            refine am_ic X (by decide) dX4_handOn_101 ?_
            exact hret _ _ _ _ _ dX4_handOn_102 rfl rfl (by first | exact ⟨rfl, Or.inl ⟨rfl, by omega, rfl⟩⟩ | exact ⟨rfl, Or.inr ⟨rfl, by omega, rfl⟩⟩) (by first | exact Or.inl rfl | exact Or.inr rfl | omega)
          · skip
            refine am_aload_n (x := 16) X (by rfl) dX4_handOn_86 ?_
            refine am_getr (c1 := 21) X 16 fl_X4_24 (by decide) sh_16 (by decide) (by rfl) dX4_handOn_87 ?_
            refine am_iload_n (x := a) X (by rfl) dX4_handOn_90 ?_
            refine am_ald (v := σ 21 ka) X 21 ka sh_21 (by omega) (by omega) (rfl) dX4_handOn_91 ?_
            refine am_aload_n (x := 16) X (by rfl) dX4_handOn_92 ?_
            refine am_getr (c1 := 21) X 16 fl_X4_24 (by decide) sh_16 (by decide) (by rfl) dX4_handOn_93 ?_
            refine am_iload_n (x := b) X (by rfl) dX4_handOn_96 ?_
            refine am_ald (v := σ 21 kb) X 21 kb sh_21 (by omega) (by omega) (rfl) dX4_handOn_97 ?_
            refine am_icmp_eq (tgt := 103) X dX4_handOn_98 (by decide) (fun h98 => ?_) (fun h98 => ?_)
            · skip
              refine am_aload_n (x := 16) X (by rfl) dX4_handOn_103 ?_
              refine am_getr (c1 := 18) X 16 fl_X4_15 (by decide) sh_16 (by decide) (by rfl) dX4_handOn_104 ?_
              refine am_iload_n (x := a) X (by rfl) dX4_handOn_107 ?_
              refine am_aload_n (x := 16) X (by rfl) dX4_handOn_108 ?_
              refine am_getr (c1 := 18) X 16 fl_X4_15 (by decide) sh_16 (by decide) (by rfl) dX4_handOn_109 ?_
              refine am_iload_n (x := b) X (by rfl) dX4_handOn_112 ?_
              refine am_ald (v := σ 18 kb) X 18 kb sh_18 (by omega) (by omega) (rfl) dX4_handOn_113 ?_
              refine am_ast X 18 ka sh_18 (by omega) (by omega) dX4_handOn_114 ?_
              refine am_aload_n (x := 16) X (by rfl) dX4_handOn_115 ?_
              refine am_iload_n (x := b) X (by rfl) dX4_handOn_116 ?_
              refine am_aload_n (x := 16) X (by rfl) dX4_handOn_117 ?_
              refine am_getr (c1 := 19) X 16 fl_X4_18 (by decide) sh_16 (by decide) (by rfl) dX4_handOn_118 ?_
              refine am_iload_n (x := b) X (by rfl) dX4_handOn_121 ?_
              refine am_ald (v := σ 19 kb) X 19 kb sh_19 (by omega) (by omega) (by simp [am_up]) dX4_handOn_122 ?_
              refine am_callVv (ci := 4) X hY lk_X4_45 mf_X4_lessen (m_X4_lessen b kb hkb (by omega) (σ 19 kb) (am_up σ 18 ka (σ 18 kb)) (by simp only [am_up]; simp; omega)) (by decide) (by decide) (Nat.le_refl _) (Nat.le_refl _) sh_16 rfl rfl rfl (Nat.le_of_ble_eq_true rfl) dX4_handOn_123 (fun sh123 σ123 hp123 => ?_)
              obtain ⟨rfl, rfl, hq123⟩ := hp123
              refine am_ic X (by decide) dX4_handOn_126 ?_
              exact hret _ _ _ _ _ dX4_handOn_127 rfl rfl (by first | exact ⟨rfl, Or.inl ⟨rfl, by omega, rfl⟩⟩ | exact ⟨rfl, Or.inr ⟨rfl, by omega, rfl⟩⟩) (by first | exact Or.inl rfl | exact Or.inr rfl | omega)
            · skip
              refine am_ic X (by decide) dX4_handOn_101 ?_
              exact hret _ _ _ _ _ dX4_handOn_102 rfl rfl (by first | exact ⟨rfl, Or.inl ⟨rfl, by omega, rfl⟩⟩ | exact ⟨rfl, Or.inr ⟨rfl, by omega, rfl⟩⟩) (by first | exact Or.inl rfl | exact Or.inr rfl | omega)
    · skip
      refine am_aload_n (x := 16) X (by rfl) dX4_handOn_16 ?_
      refine am_getr (c1 := 18) X 16 fl_X4_15 (by decide) sh_16 (by decide) (by rfl) dX4_handOn_17 ?_
      refine am_iload_n (x := a) X (by rfl) dX4_handOn_20 ?_
      refine am_ald (v := σ 18 ka) X 18 ka sh_18 (by omega) (by omega) (rfl) dX4_handOn_21 ?_
      refine am_aload_n (x := 16) X (by rfl) dX4_handOn_22 ?_
      refine am_getr (c1 := 17) X 16 fl_X4_9 (by decide) sh_16 (by decide) (by rfl) dX4_handOn_23 ?_
      refine am_iload_n (x := b) X (by rfl) dX4_handOn_26 ?_
      refine am_ald (v := σ 17 kb) X 17 kb sh_17 (by omega) (by omega) (rfl) dX4_handOn_27 ?_
      refine am_icmp_ne (tgt := 50) X dX4_handOn_28 (by decide) (fun h28 => ?_) (fun h28 => ?_)
      · skip
        refine am_ic X (by decide) dX4_handOn_50 ?_
        refine am_istore_n (i := 3) (L' := [some (vr 16), some (vi a), some (vi b), some (vi 0)]) X rfl (Nat.le_of_ble_eq_true rfl) (by rfl) dX4_handOn_51 ?_
        refine am_iload_n (x := 0) X (by rfl) dX4_handOn_52 ?_
        refine am_if_eq (tgt := 101) X dX4_handOn_53 (by decide) (fun h53 => ?_) (fun h53 => ?_)
        · skip
          refine am_ic X (by decide) dX4_handOn_101 ?_
          exact hret _ _ _ _ _ dX4_handOn_102 rfl rfl (by first | exact ⟨rfl, Or.inl ⟨rfl, by omega, rfl⟩⟩ | exact ⟨rfl, Or.inr ⟨rfl, by omega, rfl⟩⟩) (by first | exact Or.inl rfl | exact Or.inr rfl | omega)
        · skip
          refine am_aload_n (x := 16) X (by rfl) dX4_handOn_56 ?_
          refine am_getr (c1 := 20) X 16 fl_X4_21 (by decide) sh_16 (by decide) (by rfl) dX4_handOn_57 ?_
          refine am_iload_n (x := a) X (by rfl) dX4_handOn_60 ?_
          refine am_ald (v := σ 20 ka) X 20 ka sh_20 (by omega) (by omega) (rfl) dX4_handOn_61 ?_
          refine am_aload_n (x := 16) X (by rfl) dX4_handOn_62 ?_
          refine am_getr (c1 := 20) X 16 fl_X4_21 (by decide) sh_16 (by decide) (by rfl) dX4_handOn_63 ?_
          refine am_iload_n (x := b) X (by rfl) dX4_handOn_66 ?_
          refine am_ald (v := σ 20 kb) X 20 kb sh_20 (by omega) (by omega) (rfl) dX4_handOn_67 ?_
          refine am_icmp_ne (tgt := 101) X dX4_handOn_68 (by decide) (fun h68 => ?_) (fun h68 => ?_)
          · skip
            refine am_ic X (by decide) dX4_handOn_101 ?_
            exact hret _ _ _ _ _ dX4_handOn_102 rfl rfl (by first | exact ⟨rfl, Or.inl ⟨rfl, by omega, rfl⟩⟩ | exact ⟨rfl, Or.inr ⟨rfl, by omega, rfl⟩⟩) (by first | exact Or.inl rfl | exact Or.inr rfl | omega)
          · skip
            refine am_aload_n (x := 16) X (by rfl) dX4_handOn_71 ?_
            refine am_getr (c1 := 19) X 16 fl_X4_18 (by decide) sh_16 (by decide) (by rfl) dX4_handOn_72 ?_
            refine am_iload_n (x := a) X (by rfl) dX4_handOn_75 ?_
            refine am_ald (v := σ 19 ka) X 19 ka sh_19 (by omega) (by omega) (rfl) dX4_handOn_76 ?_
            refine am_aload_n (x := 16) X (by rfl) dX4_handOn_77 ?_
            refine am_getr (c1 := 19) X 16 fl_X4_18 (by decide) sh_16 (by decide) (by rfl) dX4_handOn_78 ?_
            refine am_iload_n (x := b) X (by rfl) dX4_handOn_81 ?_
            refine am_ald (v := σ 19 kb) X 19 kb sh_19 (by omega) (by omega) (rfl) dX4_handOn_82 ?_
            refine am_icmp_ne (tgt := 101) X dX4_handOn_83 (by decide) (fun h83 => ?_) (fun h83 => ?_)
            · skip
              refine am_ic X (by decide) dX4_handOn_101 ?_
              exact hret _ _ _ _ _ dX4_handOn_102 rfl rfl (by first | exact ⟨rfl, Or.inl ⟨rfl, by omega, rfl⟩⟩ | exact ⟨rfl, Or.inr ⟨rfl, by omega, rfl⟩⟩) (by first | exact Or.inl rfl | exact Or.inr rfl | omega)
            · skip
              refine am_aload_n (x := 16) X (by rfl) dX4_handOn_86 ?_
              refine am_getr (c1 := 21) X 16 fl_X4_24 (by decide) sh_16 (by decide) (by rfl) dX4_handOn_87 ?_
              refine am_iload_n (x := a) X (by rfl) dX4_handOn_90 ?_
              refine am_ald (v := σ 21 ka) X 21 ka sh_21 (by omega) (by omega) (rfl) dX4_handOn_91 ?_
              refine am_aload_n (x := 16) X (by rfl) dX4_handOn_92 ?_
              refine am_getr (c1 := 21) X 16 fl_X4_24 (by decide) sh_16 (by decide) (by rfl) dX4_handOn_93 ?_
              refine am_iload_n (x := b) X (by rfl) dX4_handOn_96 ?_
              refine am_ald (v := σ 21 kb) X 21 kb sh_21 (by omega) (by omega) (rfl) dX4_handOn_97 ?_
              refine am_icmp_eq (tgt := 103) X dX4_handOn_98 (by decide) (fun h98 => ?_) (fun h98 => ?_)
              · skip
                refine am_aload_n (x := 16) X (by rfl) dX4_handOn_103 ?_
                refine am_getr (c1 := 18) X 16 fl_X4_15 (by decide) sh_16 (by decide) (by rfl) dX4_handOn_104 ?_
                refine am_iload_n (x := a) X (by rfl) dX4_handOn_107 ?_
                refine am_aload_n (x := 16) X (by rfl) dX4_handOn_108 ?_
                refine am_getr (c1 := 18) X 16 fl_X4_15 (by decide) sh_16 (by decide) (by rfl) dX4_handOn_109 ?_
                refine am_iload_n (x := b) X (by rfl) dX4_handOn_112 ?_
                refine am_ald (v := σ 18 kb) X 18 kb sh_18 (by omega) (by omega) (rfl) dX4_handOn_113 ?_
                refine am_ast X 18 ka sh_18 (by omega) (by omega) dX4_handOn_114 ?_
                refine am_aload_n (x := 16) X (by rfl) dX4_handOn_115 ?_
                refine am_iload_n (x := b) X (by rfl) dX4_handOn_116 ?_
                refine am_aload_n (x := 16) X (by rfl) dX4_handOn_117 ?_
                refine am_getr (c1 := 19) X 16 fl_X4_18 (by decide) sh_16 (by decide) (by rfl) dX4_handOn_118 ?_
                refine am_iload_n (x := b) X (by rfl) dX4_handOn_121 ?_
                refine am_ald (v := σ 19 kb) X 19 kb sh_19 (by omega) (by omega) (by simp [am_up]) dX4_handOn_122 ?_
                refine am_callVv (ci := 4) X hY lk_X4_45 mf_X4_lessen (m_X4_lessen b kb hkb (by omega) (σ 19 kb) (am_up σ 18 ka (σ 18 kb)) (by simp only [am_up]; simp; omega)) (by decide) (by decide) (Nat.le_refl _) (Nat.le_refl _) sh_16 rfl rfl rfl (Nat.le_of_ble_eq_true rfl) dX4_handOn_123 (fun sh123 σ123 hp123 => ?_)
                obtain ⟨rfl, rfl, hq123⟩ := hp123
                refine am_ic X (by decide) dX4_handOn_126 ?_
                exact hret _ _ _ _ _ dX4_handOn_127 rfl rfl (by first | exact ⟨rfl, Or.inl ⟨rfl, by omega, rfl⟩⟩ | exact ⟨rfl, Or.inr ⟨rfl, by omega, rfl⟩⟩) (by first | exact Or.inl rfl | exact Or.inr rfl | omega)
              · skip
                refine am_ic X (by decide) dX4_handOn_101 ?_
                exact hret _ _ _ _ _ dX4_handOn_102 rfl rfl (by first | exact ⟨rfl, Or.inl ⟨rfl, by omega, rfl⟩⟩ | exact ⟨rfl, Or.inr ⟨rfl, by omega, rfl⟩⟩) (by first | exact Or.inl rfl | exact Or.inr rfl | omega)
      · skip
        refine am_aload_n (x := 16) X (by rfl) dX4_handOn_31 ?_
        refine am_getr (c1 := 17) X 16 fl_X4_9 (by decide) sh_16 (by decide) (by rfl) dX4_handOn_32 ?_
        refine am_iload_n (x := a) X (by rfl) dX4_handOn_35 ?_
        refine am_ald (v := σ 17 ka) X 17 ka sh_17 (by omega) (by omega) (rfl) dX4_handOn_36 ?_
        refine am_aload_n (x := 16) X (by rfl) dX4_handOn_37 ?_
        refine am_getr (c1 := 18) X 16 fl_X4_15 (by decide) sh_16 (by decide) (by rfl) dX4_handOn_38 ?_
        refine am_iload_n (x := b) X (by rfl) dX4_handOn_41 ?_
        refine am_ald (v := σ 18 kb) X 18 kb sh_18 (by omega) (by omega) (rfl) dX4_handOn_42 ?_
        refine am_icmp_eq (tgt := 50) X dX4_handOn_43 (by decide) (fun h43 => ?_) (fun h43 => ?_)
        · skip
          refine am_ic X (by decide) dX4_handOn_50 ?_
          refine am_istore_n (i := 3) (L' := [some (vr 16), some (vi a), some (vi b), some (vi 0)]) X rfl (Nat.le_of_ble_eq_true rfl) (by rfl) dX4_handOn_51 ?_
          refine am_iload_n (x := 0) X (by rfl) dX4_handOn_52 ?_
          refine am_if_eq (tgt := 101) X dX4_handOn_53 (by decide) (fun h53 => ?_) (fun h53 => ?_)
          · skip
            refine am_ic X (by decide) dX4_handOn_101 ?_
            exact hret _ _ _ _ _ dX4_handOn_102 rfl rfl (by first | exact ⟨rfl, Or.inl ⟨rfl, by omega, rfl⟩⟩ | exact ⟨rfl, Or.inr ⟨rfl, by omega, rfl⟩⟩) (by first | exact Or.inl rfl | exact Or.inr rfl | omega)
          · skip
            refine am_aload_n (x := 16) X (by rfl) dX4_handOn_56 ?_
            refine am_getr (c1 := 20) X 16 fl_X4_21 (by decide) sh_16 (by decide) (by rfl) dX4_handOn_57 ?_
            refine am_iload_n (x := a) X (by rfl) dX4_handOn_60 ?_
            refine am_ald (v := σ 20 ka) X 20 ka sh_20 (by omega) (by omega) (rfl) dX4_handOn_61 ?_
            refine am_aload_n (x := 16) X (by rfl) dX4_handOn_62 ?_
            refine am_getr (c1 := 20) X 16 fl_X4_21 (by decide) sh_16 (by decide) (by rfl) dX4_handOn_63 ?_
            refine am_iload_n (x := b) X (by rfl) dX4_handOn_66 ?_
            refine am_ald (v := σ 20 kb) X 20 kb sh_20 (by omega) (by omega) (rfl) dX4_handOn_67 ?_
            refine am_icmp_ne (tgt := 101) X dX4_handOn_68 (by decide) (fun h68 => ?_) (fun h68 => ?_)
            · skip
              refine am_ic X (by decide) dX4_handOn_101 ?_
              exact hret _ _ _ _ _ dX4_handOn_102 rfl rfl (by first | exact ⟨rfl, Or.inl ⟨rfl, by omega, rfl⟩⟩ | exact ⟨rfl, Or.inr ⟨rfl, by omega, rfl⟩⟩) (by first | exact Or.inl rfl | exact Or.inr rfl | omega)
            · skip
              refine am_aload_n (x := 16) X (by rfl) dX4_handOn_71 ?_
              refine am_getr (c1 := 19) X 16 fl_X4_18 (by decide) sh_16 (by decide) (by rfl) dX4_handOn_72 ?_
              refine am_iload_n (x := a) X (by rfl) dX4_handOn_75 ?_
              refine am_ald (v := σ 19 ka) X 19 ka sh_19 (by omega) (by omega) (rfl) dX4_handOn_76 ?_
              refine am_aload_n (x := 16) X (by rfl) dX4_handOn_77 ?_
              refine am_getr (c1 := 19) X 16 fl_X4_18 (by decide) sh_16 (by decide) (by rfl) dX4_handOn_78 ?_
              refine am_iload_n (x := b) X (by rfl) dX4_handOn_81 ?_
              refine am_ald (v := σ 19 kb) X 19 kb sh_19 (by omega) (by omega) (rfl) dX4_handOn_82 ?_
              refine am_icmp_ne (tgt := 101) X dX4_handOn_83 (by decide) (fun h83 => ?_) (fun h83 => ?_)
              · skip
                refine am_ic X (by decide) dX4_handOn_101 ?_
                exact hret _ _ _ _ _ dX4_handOn_102 rfl rfl (by first | exact ⟨rfl, Or.inl ⟨rfl, by omega, rfl⟩⟩ | exact ⟨rfl, Or.inr ⟨rfl, by omega, rfl⟩⟩) (by first | exact Or.inl rfl | exact Or.inr rfl | omega)
              · skip
                refine am_aload_n (x := 16) X (by rfl) dX4_handOn_86 ?_
                refine am_getr (c1 := 21) X 16 fl_X4_24 (by decide) sh_16 (by decide) (by rfl) dX4_handOn_87 ?_
                refine am_iload_n (x := a) X (by rfl) dX4_handOn_90 ?_
                refine am_ald (v := σ 21 ka) X 21 ka sh_21 (by omega) (by omega) (rfl) dX4_handOn_91 ?_
                refine am_aload_n (x := 16) X (by rfl) dX4_handOn_92 ?_
                refine am_getr (c1 := 21) X 16 fl_X4_24 (by decide) sh_16 (by decide) (by rfl) dX4_handOn_93 ?_
                refine am_iload_n (x := b) X (by rfl) dX4_handOn_96 ?_
                refine am_ald (v := σ 21 kb) X 21 kb sh_21 (by omega) (by omega) (rfl) dX4_handOn_97 ?_
                refine am_icmp_eq (tgt := 103) X dX4_handOn_98 (by decide) (fun h98 => ?_) (fun h98 => ?_)
                · skip
                  refine am_aload_n (x := 16) X (by rfl) dX4_handOn_103 ?_
                  refine am_getr (c1 := 18) X 16 fl_X4_15 (by decide) sh_16 (by decide) (by rfl) dX4_handOn_104 ?_
                  refine am_iload_n (x := a) X (by rfl) dX4_handOn_107 ?_
                  refine am_aload_n (x := 16) X (by rfl) dX4_handOn_108 ?_
                  refine am_getr (c1 := 18) X 16 fl_X4_15 (by decide) sh_16 (by decide) (by rfl) dX4_handOn_109 ?_
                  refine am_iload_n (x := b) X (by rfl) dX4_handOn_112 ?_
                  refine am_ald (v := σ 18 kb) X 18 kb sh_18 (by omega) (by omega) (rfl) dX4_handOn_113 ?_
                  refine am_ast X 18 ka sh_18 (by omega) (by omega) dX4_handOn_114 ?_
                  refine am_aload_n (x := 16) X (by rfl) dX4_handOn_115 ?_
                  refine am_iload_n (x := b) X (by rfl) dX4_handOn_116 ?_
                  refine am_aload_n (x := 16) X (by rfl) dX4_handOn_117 ?_
                  refine am_getr (c1 := 19) X 16 fl_X4_18 (by decide) sh_16 (by decide) (by rfl) dX4_handOn_118 ?_
                  refine am_iload_n (x := b) X (by rfl) dX4_handOn_121 ?_
                  refine am_ald (v := σ 19 kb) X 19 kb sh_19 (by omega) (by omega) (by simp [am_up]) dX4_handOn_122 ?_
                  refine am_callVv (ci := 4) X hY lk_X4_45 mf_X4_lessen (m_X4_lessen b kb hkb (by omega) (σ 19 kb) (am_up σ 18 ka (σ 18 kb)) (by simp only [am_up]; simp; omega)) (by decide) (by decide) (Nat.le_refl _) (Nat.le_refl _) sh_16 rfl rfl rfl (Nat.le_of_ble_eq_true rfl) dX4_handOn_123 (fun sh123 σ123 hp123 => ?_)
                  obtain ⟨rfl, rfl, hq123⟩ := hp123
                  refine am_ic X (by decide) dX4_handOn_126 ?_
                  exact hret _ _ _ _ _ dX4_handOn_127 rfl rfl (by first | exact ⟨rfl, Or.inl ⟨rfl, by omega, rfl⟩⟩ | exact ⟨rfl, Or.inr ⟨rfl, by omega, rfl⟩⟩) (by first | exact Or.inl rfl | exact Or.inr rfl | omega)
                · skip
                  refine am_ic X (by decide) dX4_handOn_101 ?_
                  exact hret _ _ _ _ _ dX4_handOn_102 rfl rfl (by first | exact ⟨rfl, Or.inl ⟨rfl, by omega, rfl⟩⟩ | exact ⟨rfl, Or.inr ⟨rfl, by omega, rfl⟩⟩) (by first | exact Or.inl rfl | exact Or.inr rfl | omega)
        · skip
          refine am_ic X (by decide) dX4_handOn_46 ?_
          refine am_goto (tgt := 51) X dX4_handOn_47 (by decide) ?_
          refine am_istore_n (i := 3) (L' := [some (vr 16), some (vi a), some (vi b), some (vi 1)]) X rfl (Nat.le_of_ble_eq_true rfl) (by rfl) dX4_handOn_51 ?_
          refine am_iload_n (x := 1) X (by rfl) dX4_handOn_52 ?_
          refine am_if_eq (tgt := 101) X dX4_handOn_53 (by decide) (fun h53 => ?_) (fun h53 => ?_)
          · skip
            refine am_ic X (by decide) dX4_handOn_101 ?_
            exact hret _ _ _ _ _ dX4_handOn_102 rfl rfl (by first | exact ⟨rfl, Or.inl ⟨rfl, by omega, rfl⟩⟩ | exact ⟨rfl, Or.inr ⟨rfl, by omega, rfl⟩⟩) (by first | exact Or.inl rfl | exact Or.inr rfl | omega)
          · skip
            refine am_aload_n (x := 16) X (by rfl) dX4_handOn_56 ?_
            refine am_getr (c1 := 20) X 16 fl_X4_21 (by decide) sh_16 (by decide) (by rfl) dX4_handOn_57 ?_
            refine am_iload_n (x := a) X (by rfl) dX4_handOn_60 ?_
            refine am_ald (v := σ 20 ka) X 20 ka sh_20 (by omega) (by omega) (rfl) dX4_handOn_61 ?_
            refine am_aload_n (x := 16) X (by rfl) dX4_handOn_62 ?_
            refine am_getr (c1 := 20) X 16 fl_X4_21 (by decide) sh_16 (by decide) (by rfl) dX4_handOn_63 ?_
            refine am_iload_n (x := b) X (by rfl) dX4_handOn_66 ?_
            refine am_ald (v := σ 20 kb) X 20 kb sh_20 (by omega) (by omega) (rfl) dX4_handOn_67 ?_
            refine am_icmp_ne (tgt := 101) X dX4_handOn_68 (by decide) (fun h68 => ?_) (fun h68 => ?_)
            · skip
              refine am_ic X (by decide) dX4_handOn_101 ?_
              exact hret _ _ _ _ _ dX4_handOn_102 rfl rfl (by first | exact ⟨rfl, Or.inl ⟨rfl, by omega, rfl⟩⟩ | exact ⟨rfl, Or.inr ⟨rfl, by omega, rfl⟩⟩) (by first | exact Or.inl rfl | exact Or.inr rfl | omega)
            · skip
              refine am_aload_n (x := 16) X (by rfl) dX4_handOn_71 ?_
              refine am_getr (c1 := 19) X 16 fl_X4_18 (by decide) sh_16 (by decide) (by rfl) dX4_handOn_72 ?_
              refine am_iload_n (x := a) X (by rfl) dX4_handOn_75 ?_
              refine am_ald (v := σ 19 ka) X 19 ka sh_19 (by omega) (by omega) (rfl) dX4_handOn_76 ?_
              refine am_aload_n (x := 16) X (by rfl) dX4_handOn_77 ?_
              refine am_getr (c1 := 19) X 16 fl_X4_18 (by decide) sh_16 (by decide) (by rfl) dX4_handOn_78 ?_
              refine am_iload_n (x := b) X (by rfl) dX4_handOn_81 ?_
              refine am_ald (v := σ 19 kb) X 19 kb sh_19 (by omega) (by omega) (rfl) dX4_handOn_82 ?_
              refine am_icmp_ne (tgt := 101) X dX4_handOn_83 (by decide) (fun h83 => ?_) (fun h83 => ?_)
              · skip
                refine am_ic X (by decide) dX4_handOn_101 ?_
                exact hret _ _ _ _ _ dX4_handOn_102 rfl rfl (by first | exact ⟨rfl, Or.inl ⟨rfl, by omega, rfl⟩⟩ | exact ⟨rfl, Or.inr ⟨rfl, by omega, rfl⟩⟩) (by first | exact Or.inl rfl | exact Or.inr rfl | omega)
              · skip
                refine am_aload_n (x := 16) X (by rfl) dX4_handOn_86 ?_
                refine am_getr (c1 := 21) X 16 fl_X4_24 (by decide) sh_16 (by decide) (by rfl) dX4_handOn_87 ?_
                refine am_iload_n (x := a) X (by rfl) dX4_handOn_90 ?_
                refine am_ald (v := σ 21 ka) X 21 ka sh_21 (by omega) (by omega) (rfl) dX4_handOn_91 ?_
                refine am_aload_n (x := 16) X (by rfl) dX4_handOn_92 ?_
                refine am_getr (c1 := 21) X 16 fl_X4_24 (by decide) sh_16 (by decide) (by rfl) dX4_handOn_93 ?_
                refine am_iload_n (x := b) X (by rfl) dX4_handOn_96 ?_
                refine am_ald (v := σ 21 kb) X 21 kb sh_21 (by omega) (by omega) (rfl) dX4_handOn_97 ?_
                refine am_icmp_eq (tgt := 103) X dX4_handOn_98 (by decide) (fun h98 => ?_) (fun h98 => ?_)
                · skip
                  refine am_aload_n (x := 16) X (by rfl) dX4_handOn_103 ?_
                  refine am_getr (c1 := 18) X 16 fl_X4_15 (by decide) sh_16 (by decide) (by rfl) dX4_handOn_104 ?_
                  refine am_iload_n (x := a) X (by rfl) dX4_handOn_107 ?_
                  refine am_aload_n (x := 16) X (by rfl) dX4_handOn_108 ?_
                  refine am_getr (c1 := 18) X 16 fl_X4_15 (by decide) sh_16 (by decide) (by rfl) dX4_handOn_109 ?_
                  refine am_iload_n (x := b) X (by rfl) dX4_handOn_112 ?_
                  refine am_ald (v := σ 18 kb) X 18 kb sh_18 (by omega) (by omega) (rfl) dX4_handOn_113 ?_
                  refine am_ast X 18 ka sh_18 (by omega) (by omega) dX4_handOn_114 ?_
                  refine am_aload_n (x := 16) X (by rfl) dX4_handOn_115 ?_
                  refine am_iload_n (x := b) X (by rfl) dX4_handOn_116 ?_
                  refine am_aload_n (x := 16) X (by rfl) dX4_handOn_117 ?_
                  refine am_getr (c1 := 19) X 16 fl_X4_18 (by decide) sh_16 (by decide) (by rfl) dX4_handOn_118 ?_
                  refine am_iload_n (x := b) X (by rfl) dX4_handOn_121 ?_
                  refine am_ald (v := σ 19 kb) X 19 kb sh_19 (by omega) (by omega) (by simp [am_up]) dX4_handOn_122 ?_
                  refine am_callVv (ci := 4) X hY lk_X4_45 mf_X4_lessen (m_X4_lessen b kb hkb (by omega) (σ 19 kb) (am_up σ 18 ka (σ 18 kb)) (by simp only [am_up]; simp; omega)) (by decide) (by decide) (Nat.le_refl _) (Nat.le_refl _) sh_16 rfl rfl rfl (Nat.le_of_ble_eq_true rfl) dX4_handOn_123 (fun sh123 σ123 hp123 => ?_)
                  obtain ⟨rfl, rfl, hq123⟩ := hp123
                  refine am_ic X (by decide) dX4_handOn_126 ?_
                  exact hret _ _ _ _ _ dX4_handOn_127 rfl rfl (by first | exact ⟨rfl, Or.inl ⟨rfl, by omega, rfl⟩⟩ | exact ⟨rfl, Or.inr ⟨rfl, by omega, rfl⟩⟩) (by first | exact Or.inl rfl | exact Or.inr rfl | omega)
                · skip
                  refine am_ic X (by decide) dX4_handOn_101 ?_
                  exact hret _ _ _ _ _ dX4_handOn_102 rfl rfl (by first | exact ⟨rfl, Or.inl ⟨rfl, by omega, rfl⟩⟩ | exact ⟨rfl, Or.inr ⟨rfl, by omega, rfl⟩⟩) (by first | exact Or.inl rfl | exact Or.inr rfl | omega)

set_option maxHeartbeats 4000000 in
set_option maxRecDepth 100000 in
theorem m_X4_strikeOut (bits : Int) (σ : am_H) (hc : 0 ≤ σ 16 5 ∧ σ 16 5 ≤ 20) (hd : ∀ n : Nat, (n : Int) < σ 16 5 → 0 ≤ σ 19 n ∧ σ 19 n ≤ 9) : am_Mi yX4_strikeOut cX4_strikeOut 4 (some .int) 1 0 0 [vr 16, vi bits] SH σ (fun r sh' σ' => SH = sh' ∧ led_strike bits (led_least σ bits (σ 16 5).toNat) (σ 16 5).toNat σ = σ' ∧ r = led_least σ bits (σ 16 5).toNat) := by
  refine am_Mi_of (by decide +kernel) (Nat.le_of_ble_eq_true rfl) (fun K X hY hI hret => ?_)
  show am_G K 0 [some (vr 16), some (vi bits), none, none] [] SH σ
  refine am_ic X (by decide) dX4_strikeOut_0 ?_
  refine am_istore_n (i := 2) (L' := [some (vr 16), some (vi bits), some (vi 0), none]) X rfl (Nat.le_of_ble_eq_true rfl) (by rfl) dX4_strikeOut_1 ?_
  refine am_ic X (by decide) dX4_strikeOut_2 ?_
  refine am_istore_n (i := 3) (L' := [some (vr 16), some (vi bits), some (vi 0), some (vi 0)]) X rfl (Nat.le_of_ble_eq_true rfl) (by rfl) dX4_strikeOut_3 ?_
  have hL4 : ∀ (m4 : Nat) (k : Nat) (s : Int) (hk : (k : Int) ≤ σ 16 5) (hs : led_least σ bits k = s) (hm4 : (σ 16 5).toNat - k = m4), am_G K 4 [some (vr 16), some (vi bits), some (vi s), some (vi (k : Int))] [] SH σ := by
    intro m4
    induction m4 using Nat.strongRecOn with
    | ind m4 ih4 =>
    intro k s hk hs hm4
    have hb := led_least_bd (bits := bits) (fun j (hj : j < k) => hd j (by omega))
    rw [hs] at hb
    have hdk := fun h : (k : Int) < σ 16 5 => hd k h
    refine am_iload_n (x := (k : Int)) X (by rfl) dX4_strikeOut_4 ?_
    refine am_aload_n (x := 16) X (by rfl) dX4_strikeOut_5 ?_
    refine am_get (v := σ 16 5) X 16 fl_X4_33 (by decide) sh_16 (by decide) (rfl) dX4_strikeOut_6 ?_
    refine am_icmp_ge (tgt := 47) X dX4_strikeOut_9 (by decide) (fun h9 => ?_) (fun h9 => ?_)
    · skip
      refine am_ic X (by decide) dX4_strikeOut_47 ?_
      refine am_istore_n (i := 3) (L' := [some (vr 16), some (vi bits), some (vi s), some (vi 0)]) X rfl (Nat.le_of_ble_eq_true rfl) (by rfl) dX4_strikeOut_48 ?_
      have hL49 : ∀ (m49 : Nat) (j : Nat) (hj : (j : Int) ≤ σ 16 5) (hm49 : (σ 16 5).toNat - j = m49), am_G K 49 [some (vr 16), some (vi bits), some (vi s), some (vi (j : Int))] [] SH (led_strike bits s j σ) := by
        intro m49
        induction m49 using Nat.strongRecOn with
        | ind m49 ih49 =>
        intro j hj hm49
        have e1 : led_strike bits s j σ 16 5 = σ 16 5 := led_strike_at (by omega)
        have e2 : led_strike bits s j σ 19 j = σ 19 j := led_strike_at (by omega)
        have hdj := fun h : (j : Int) < σ 16 5 => hd j h
        refine am_iload_n (x := (j : Int)) X (by rfl) dX4_strikeOut_49 ?_
        refine am_aload_n (x := 16) X (by rfl) dX4_strikeOut_50 ?_
        refine am_get (v := (led_strike bits s j σ) 16 5) X 16 fl_X4_33 (by decide) sh_16 (by decide) (rfl) dX4_strikeOut_51 ?_
        refine am_icmp_ge (tgt := 77) X dX4_strikeOut_54 (by decide) (fun h54 => ?_) (fun h54 => ?_)
        · skip
          refine am_iload_n (x := s) X (by rfl) dX4_strikeOut_77 ?_
          exact hret _ _ _ _ _ dX4_strikeOut_78 rfl rfl (by rw [show (σ 16 5).toNat = j by omega]; rw [show k = j by omega] at hs; rw [hs]; exact ⟨rfl, rfl, rfl⟩)
        · skip
          refine am_iload_n (x := bits) X (by rfl) dX4_strikeOut_57 ?_
          refine am_iload_n (x := (j : Int)) X (by rfl) dX4_strikeOut_58 ?_
          refine am_ishr X dX4_strikeOut_59 ?_
          refine am_ic X (by decide) dX4_strikeOut_60 ?_
          refine am_iand X dX4_strikeOut_61 ?_
          refine am_if_eq (tgt := 71) X dX4_strikeOut_62 (by decide) (fun h62 => ?_) (fun h62 => ?_)
          · skip
            refine am_inc (x := (j : Int)) (v := ((j : Int) + 1)) (L' := [some (vr 16), some (vi bits), some (vi s), some (vi ((j : Int) + 1))]) X (by rfl) (by omega) (by omega) (by rfl) dX4_strikeOut_71 ?_
            refine am_goto (tgt := 49) X dX4_strikeOut_74 (by decide) ?_
            refine am_sg (led_strike bits s (j + 1) σ) (by symm; show am_it _ (j + 1) σ = _; rw [am_it_succ]; first | exact if_pos (by unfold am_bit; omega) | exact if_neg (by unfold am_bit; omega)) ?_
            exact ih49 _ (by omega) (j + 1) (by omega) rfl
          · skip
            refine am_aload_n (x := 16) X (by rfl) dX4_strikeOut_65 ?_
            refine am_iload_n (x := (j : Int)) X (by rfl) dX4_strikeOut_66 ?_
            refine am_iload_n (x := s) X (by rfl) dX4_strikeOut_67 ?_
            refine am_callVv (ci := 4) X hY lk_X4_45 mf_X4_lessen (m_X4_lessen (j : Int) j (by omega) (by omega) s (led_strike bits s j σ) (by omega)) (by decide) (by decide) (Nat.le_refl _) (Nat.le_refl _) sh_16 rfl rfl rfl (Nat.le_of_ble_eq_true rfl) dX4_strikeOut_68 (fun sh68 σ68 hp68 => ?_)
            obtain ⟨rfl, rfl, hq68⟩ := hp68
            refine am_inc (x := (j : Int)) (v := ((j : Int) + 1)) (L' := [some (vr 16), some (vi bits), some (vi s), some (vi ((j : Int) + 1))]) X (by rfl) (by omega) (by omega) (by rfl) dX4_strikeOut_71 ?_
            refine am_goto (tgt := 49) X dX4_strikeOut_74 (by decide) ?_
            refine am_sg (led_strike bits s (j + 1) σ) (by symm; show am_it _ (j + 1) σ = _; rw [am_it_succ]; first | exact if_pos (by unfold am_bit; omega) | exact if_neg (by unfold am_bit; omega)) ?_
            exact ih49 _ (by omega) (j + 1) (by omega) rfl
      exact hL49 _ 0 (by omega) rfl
    · skip
      refine am_iload_n (x := bits) X (by rfl) dX4_strikeOut_12 ?_
      refine am_iload_n (x := (k : Int)) X (by rfl) dX4_strikeOut_13 ?_
      refine am_ishr X dX4_strikeOut_14 ?_
      refine am_ic X (by decide) dX4_strikeOut_15 ?_
      refine am_iand X dX4_strikeOut_16 ?_
      refine am_if_eq (tgt := 41) X dX4_strikeOut_17 (by decide) (fun h17 => ?_) (fun h17 => ?_)
      · skip
        refine am_inc (x := (k : Int)) (v := ((k : Int) + 1)) (L' := [some (vr 16), some (vi bits), some (vi s), some (vi ((k : Int) + 1))]) X (by rfl) (by omega) (by omega) (by rfl) dX4_strikeOut_41 ?_
        refine am_goto (tgt := 4) X dX4_strikeOut_44 (by decide) ?_
        exact ih4 _ (by omega) (k + 1) _ (by omega) (by unfold led_least at *; rw [am_it_succ, hs]; first | rw [if_pos (by unfold am_bit; omega)] | rw [if_neg (by unfold am_bit; omega)]) rfl
      · skip
        refine am_iload_n (x := s) X (by rfl) dX4_strikeOut_20 ?_
        refine am_if_eq (tgt := 34) X dX4_strikeOut_21 (by decide) (fun h21 => ?_) (fun h21 => ?_)
        · skip
          refine am_aload_n (x := 16) X (by rfl) dX4_strikeOut_34 ?_
          refine am_getr (c1 := 19) X 16 fl_X4_18 (by decide) sh_16 (by decide) (by rfl) dX4_strikeOut_35 ?_
          refine am_iload_n (x := (k : Int)) X (by rfl) dX4_strikeOut_38 ?_
          refine am_ald (v := σ 19 k) X 19 k sh_19 (by omega) (by omega) (rfl) dX4_strikeOut_39 ?_
          refine am_istore_n (i := 2) (L' := [some (vr 16), some (vi bits), some (vi (σ 19 k)), some (vi (k : Int))]) X rfl (Nat.le_of_ble_eq_true rfl) (by rfl) dX4_strikeOut_40 ?_
          refine am_inc (x := (k : Int)) (v := ((k : Int) + 1)) (L' := [some (vr 16), some (vi bits), some (vi (σ 19 k)), some (vi ((k : Int) + 1))]) X (by rfl) (by omega) (by omega) (by rfl) dX4_strikeOut_41 ?_
          refine am_goto (tgt := 4) X dX4_strikeOut_44 (by decide) ?_
          exact ih4 _ (by omega) (k + 1) _ (by omega) (by unfold led_least at *; rw [am_it_succ, hs]; first | rw [if_pos (by unfold am_bit; omega)] | rw [if_neg (by unfold am_bit; omega)]) rfl
        · skip
          refine am_aload_n (x := 16) X (by rfl) dX4_strikeOut_24 ?_
          refine am_getr (c1 := 19) X 16 fl_X4_18 (by decide) sh_16 (by decide) (by rfl) dX4_strikeOut_25 ?_
          refine am_iload_n (x := (k : Int)) X (by rfl) dX4_strikeOut_28 ?_
          refine am_ald (v := σ 19 k) X 19 k sh_19 (by omega) (by omega) (rfl) dX4_strikeOut_29 ?_
          refine am_iload_n (x := s) X (by rfl) dX4_strikeOut_30 ?_
          refine am_icmp_ge (tgt := 41) X dX4_strikeOut_31 (by decide) (fun h31 => ?_) (fun h31 => ?_)
          · skip
            refine am_inc (x := (k : Int)) (v := ((k : Int) + 1)) (L' := [some (vr 16), some (vi bits), some (vi s), some (vi ((k : Int) + 1))]) X (by rfl) (by omega) (by omega) (by rfl) dX4_strikeOut_41 ?_
            refine am_goto (tgt := 4) X dX4_strikeOut_44 (by decide) ?_
            exact ih4 _ (by omega) (k + 1) _ (by omega) (by unfold led_least at *; rw [am_it_succ, hs]; first | rw [if_pos (by unfold am_bit; omega)] | rw [if_neg (by unfold am_bit; omega)]) rfl
          · skip
            refine am_aload_n (x := 16) X (by rfl) dX4_strikeOut_34 ?_
            refine am_getr (c1 := 19) X 16 fl_X4_18 (by decide) sh_16 (by decide) (by rfl) dX4_strikeOut_35 ?_
            refine am_iload_n (x := (k : Int)) X (by rfl) dX4_strikeOut_38 ?_
            refine am_ald (v := σ 19 k) X 19 k sh_19 (by omega) (by omega) (rfl) dX4_strikeOut_39 ?_
            refine am_istore_n (i := 2) (L' := [some (vr 16), some (vi bits), some (vi (σ 19 k)), some (vi (k : Int))]) X rfl (Nat.le_of_ble_eq_true rfl) (by rfl) dX4_strikeOut_40 ?_
            refine am_inc (x := (k : Int)) (v := ((k : Int) + 1)) (L' := [some (vr 16), some (vi bits), some (vi (σ 19 k)), some (vi ((k : Int) + 1))]) X (by rfl) (by omega) (by omega) (by rfl) dX4_strikeOut_41 ?_
            refine am_goto (tgt := 4) X dX4_strikeOut_44 (by decide) ?_
            exact ih4 _ (by omega) (k + 1) _ (by omega) (by unfold led_least at *; rw [am_it_succ, hs]; first | rw [if_pos (by unfold am_bit; omega)] | rw [if_neg (by unfold am_bit; omega)]) rfl
  exact hL4 _ 0 0 (by omega) (rfl) rfl

set_option maxHeartbeats 4000000 in
set_option maxRecDepth 100000 in
theorem m_X4_dropAllBy (p : Int) (σ : am_H) (hc : 0 ≤ σ 16 5 ∧ σ 16 5 ≤ 20) (hd : ∀ n : Nat, (n : Int) < σ 16 5 → 0 ≤ σ 19 n ∧ σ 19 n ≤ 9) : am_Mi yX4_dropAllBy cX4_dropAllBy 4 (some .int) 1 0 0 [vr 16, vi p] SH σ (fun r sh' σ' => SH = sh' ∧ led_drop p (σ 16 5).toNat σ = σ' ∧ r = am_sum (fun n : Nat => if σ 17 n = p then σ 19 n else 0) (σ 16 5).toNat) := by
  refine am_Mi_of (by decide +kernel) (Nat.le_of_ble_eq_true rfl) (fun K X hY hI hret => ?_)
  show am_G K 0 [some (vr 16), some (vi p), none, none] [] SH σ
  refine am_aload_n (x := 16) X (by rfl) dX4_dropAllBy_0 ?_
  refine am_iload_n (x := p) X (by rfl) dX4_dropAllBy_1 ?_
  refine am_callVi (ci := 4) X hY lk_X4_52 mf_X4_owedBy (m_X4_owedBy p σ hc hd) (by decide) (by decide) (Nat.le_refl _) (Nat.le_refl _) sh_16 rfl rfl rfl (Nat.le_of_ble_eq_true rfl) dX4_dropAllBy_2 (fun r2 sh2 σ2 hr2 hp2 => ?_)
  obtain ⟨rfl, rfl, hq2⟩ := hp2
  refine am_istore_n (i := 2) (L' := [some (vr 16), some (vi p), some (vi r2), none]) X rfl (Nat.le_of_ble_eq_true rfl) (by rfl) dX4_dropAllBy_5 ?_
  refine am_ic X (by decide) dX4_dropAllBy_6 ?_
  refine am_istore_n (i := 3) (L' := [some (vr 16), some (vi p), some (vi r2), some (vi 0)]) X rfl (Nat.le_of_ble_eq_true rfl) (by rfl) dX4_dropAllBy_7 ?_
  have hL8 : ∀ (m8 : Nat) (j : Nat) (hj : (j : Int) ≤ σ 16 5) (hm8 : (σ 16 5).toNat - j = m8), am_G K 8 [some (vr 16), some (vi p), some (vi r2), some (vi (j : Int))] [] SH (led_drop p j σ) := by
    intro m8
    induction m8 using Nat.strongRecOn with
    | ind m8 ih8 =>
    intro j hj hm8
    have e1 : led_drop p j σ 16 5 = σ 16 5 := led_drop_at (by omega)
    have e2 : led_drop p j σ 19 j = σ 19 j := led_drop_at (by omega)
    have e3 : led_drop p j σ 17 j = σ 17 j := led_drop_at (by omega)
    have hdj := fun h : (j : Int) < σ 16 5 => hd j h
    refine am_iload_n (x := (j : Int)) X (by rfl) dX4_dropAllBy_8 ?_
    refine am_aload_n (x := 16) X (by rfl) dX4_dropAllBy_9 ?_
    refine am_get (v := (led_drop p j σ) 16 5) X 16 fl_X4_33 (by decide) sh_16 (by decide) (rfl) dX4_dropAllBy_10 ?_
    refine am_icmp_ge (tgt := 43) X dX4_dropAllBy_13 (by decide) (fun h13 => ?_) (fun h13 => ?_)
    · skip
      refine am_iload_n (x := r2) X (by rfl) dX4_dropAllBy_43 ?_
      exact hret _ _ _ _ _ dX4_dropAllBy_44 rfl rfl (by rw [show (σ 16 5).toNat = j by omega] at *; exact ⟨rfl, rfl, hq2.1⟩)
    · skip
      refine am_aload_n (x := 16) X (by rfl) dX4_dropAllBy_16 ?_
      refine am_getr (c1 := 17) X 16 fl_X4_9 (by decide) sh_16 (by decide) (by rfl) dX4_dropAllBy_17 ?_
      refine am_iload_n (x := (j : Int)) X (by rfl) dX4_dropAllBy_20 ?_
      refine am_ald (v := (led_drop p j σ) 17 j) X 17 j sh_17 (by omega) (by omega) (rfl) dX4_dropAllBy_21 ?_
      refine am_iload_n (x := p) X (by rfl) dX4_dropAllBy_22 ?_
      refine am_icmp_ne (tgt := 37) X dX4_dropAllBy_23 (by decide) (fun h23 => ?_) (fun h23 => ?_)
      · skip
        refine am_inc (x := (j : Int)) (v := ((j : Int) + 1)) (L' := [some (vr 16), some (vi p), some (vi r2), some (vi ((j : Int) + 1))]) X (by rfl) (by omega) (by omega) (by rfl) dX4_dropAllBy_37 ?_
        refine am_goto (tgt := 8) X dX4_dropAllBy_40 (by decide) ?_
        refine am_sg (led_drop p (j + 1) σ) (by symm; show am_it _ (j + 1) σ = _; rw [am_it_succ]; first | exact if_pos (by unfold led_drop at *; omega) | exact if_neg (by unfold led_drop at *; omega)) ?_
        exact ih8 _ (by omega) (j + 1) (by omega) rfl
      · skip
        refine am_aload_n (x := 16) X (by rfl) dX4_dropAllBy_26 ?_
        refine am_iload_n (x := (j : Int)) X (by rfl) dX4_dropAllBy_27 ?_
        refine am_aload_n (x := 16) X (by rfl) dX4_dropAllBy_28 ?_
        refine am_getr (c1 := 19) X 16 fl_X4_18 (by decide) sh_16 (by decide) (by rfl) dX4_dropAllBy_29 ?_
        refine am_iload_n (x := (j : Int)) X (by rfl) dX4_dropAllBy_32 ?_
        refine am_ald (v := (led_drop p j σ) 19 j) X 19 j sh_19 (by omega) (by omega) (rfl) dX4_dropAllBy_33 ?_
        refine am_callVv (ci := 4) X hY lk_X4_45 mf_X4_lessen (m_X4_lessen (j : Int) j (by omega) (by omega) ((led_drop p j σ) 19 j) (led_drop p j σ) (by omega)) (by decide) (by decide) (Nat.le_refl _) (Nat.le_refl _) sh_16 rfl rfl rfl (Nat.le_of_ble_eq_true rfl) dX4_dropAllBy_34 (fun sh34 σ34 hp34 => ?_)
        obtain ⟨rfl, rfl, hq34⟩ := hp34
        refine am_inc (x := (j : Int)) (v := ((j : Int) + 1)) (L' := [some (vr 16), some (vi p), some (vi r2), some (vi ((j : Int) + 1))]) X (by rfl) (by omega) (by omega) (by rfl) dX4_dropAllBy_37 ?_
        refine am_goto (tgt := 8) X dX4_dropAllBy_40 (by decide) ?_
        refine am_sg (led_drop p (j + 1) σ) (by symm; show am_it _ (j + 1) σ = _; rw [am_it_succ]; first | exact if_pos (by unfold led_drop at *; omega) | exact if_neg (by unfold led_drop at *; omega)) ?_
        exact ih8 _ (by omega) (j + 1) (by omega) rfl
  exact hL8 _ 0 (by omega) rfl

set_option maxHeartbeats 4000000 in
set_option maxRecDepth 100000 in
theorem m_X4_inherit (p q : Int) (σ : am_H) (hc : 0 ≤ σ 16 5 ∧ σ 16 5 ≤ 20) (hd : ∀ n : Nat, (n : Int) < σ 16 5 → 0 ≤ σ 19 n ∧ σ 19 n ≤ 9) : am_Mi yX4_inherit cX4_inherit 7 (some .int) 3 0 0 [vr 16, vi p, vi q] SH σ (fun r sh' σ' => SH = sh' ∧ led_inh p q (σ 16 5).toNat σ = σ' ∧ r = am_sum (led_moved σ p q) (σ 16 5).toNat) := by
  refine am_Mi_of (by decide +kernel) (Nat.le_of_ble_eq_true rfl) (fun K X hY hI hret => ?_)
  show am_G K 0 [some (vr 16), some (vi p), some (vi q), none, none, none, none] [] SH σ
  refine am_ic X (by decide) dX4_inherit_0 ?_
  refine am_istore_n (i := 3) (L' := [some (vr 16), some (vi p), some (vi q), some (vi 0), none, none, none]) X rfl (Nat.le_of_ble_eq_true rfl) (by rfl) dX4_inherit_1 ?_
  refine am_ic X (by decide) dX4_inherit_2 ?_
  refine am_istore (i := 4) (L' := [some (vr 16), some (vi p), some (vi q), some (vi 0), some (vi 0), none, none]) X (Nat.le_of_ble_eq_true rfl) (by rfl) dX4_inherit_3 ?_
  have hL5 : ∀ (m5 : Nat) (k : Nat) (s : Int) (hk : (k : Int) ≤ σ 16 5) (hs : s = am_sum (led_moved σ p q) k) (hm5 : (σ 16 5).toNat - k = m5), am_G K 5 [some (vr 16), some (vi p), some (vi q), some (vi s), some (vi (k : Int)), none, none] [] SH (led_inh p q k σ) := by
    intro m5
    induction m5 using Nat.strongRecOn with
    | ind m5 ih5 =>
    intro k s hk hs hm5
    have e1 : led_inh p q k σ 16 5 = σ 16 5 := led_inh_at (by omega)
    have e2 : led_inh p q k σ 19 k = σ 19 k := led_inh_at (by omega)
    have e3 : led_inh p q k σ 17 k = σ 17 k := led_inh_at (by omega)
    have e4 : led_inh p q k σ 18 k = σ 18 k := led_inh_at (by omega)
    have hdj := fun h : (k : Int) < σ 16 5 => hd k h
    have hb := am_sum_1 (f := led_moved σ p q) (n := k) (fun j hj => by unfold led_moved; split <;> omega)
    refine am_iload (x := (k : Int)) X (by rfl) dX4_inherit_5 ?_
    refine am_aload_n (x := 16) X (by rfl) dX4_inherit_7 ?_
    refine am_get (v := (led_inh p q k σ) 16 5) X 16 fl_X4_33 (by decide) sh_16 (by decide) (rfl) dX4_inherit_8 ?_
    refine am_icmp_ge (tgt := 166) X dX4_inherit_11 (by decide) (fun h11 => ?_) (fun h11 => ?_)
    · skip
      refine am_iload_n (x := s) X (by rfl) dX4_inherit_166 ?_
      exact hret _ _ _ _ _ dX4_inherit_167 rfl rfl (by rw [show (σ 16 5).toNat = k by omega] at *; exact ⟨rfl, rfl, hs⟩)
    · skip
      refine am_aload_n (x := 16) X (by rfl) dX4_inherit_14 ?_
      refine am_getr (c1 := 17) X 16 fl_X4_9 (by decide) sh_16 (by decide) (by rfl) dX4_inherit_15 ?_
      refine am_iload (x := (k : Int)) X (by rfl) dX4_inherit_18 ?_
      refine am_ald (v := (led_inh p q k σ) 17 k) X 17 k sh_17 (by omega) (by omega) (rfl) dX4_inherit_20 ?_
      refine am_iload_n (x := p) X (by rfl) dX4_inherit_21 ?_
      refine am_icmp_ne (tgt := 29) X dX4_inherit_22 (by decide) (fun h22 => ?_) (fun h22 => ?_)
      · skip
        refine am_ic X (by decide) dX4_inherit_29 ?_
        refine am_istore (i := 5) (L' := [some (vr 16), some (vi p), some (vi q), some (vi s), some (vi (k : Int)), some (vi 0), none]) X (Nat.le_of_ble_eq_true rfl) (by rfl) dX4_inherit_30 ?_
        refine am_aload_n (x := 16) X (by rfl) dX4_inherit_32 ?_
        refine am_getr (c1 := 18) X 16 fl_X4_15 (by decide) sh_16 (by decide) (by rfl) dX4_inherit_33 ?_
        refine am_iload (x := (k : Int)) X (by rfl) dX4_inherit_36 ?_
        refine am_ald (v := (led_inh p q k σ) 18 k) X 18 k sh_18 (by omega) (by omega) (rfl) dX4_inherit_38 ?_
        refine am_iload_n (x := p) X (by rfl) dX4_inherit_39 ?_
        refine am_icmp_ne (tgt := 47) X dX4_inherit_40 (by decide) (fun h40 => ?_) (fun h40 => ?_)
        · skip
          refine am_ic X (by decide) dX4_inherit_47 ?_
          refine am_istore (i := 6) (L' := [some (vr 16), some (vi p), some (vi q), some (vi s), some (vi (k : Int)), some (vi 0), some (vi 0)]) X (Nat.le_of_ble_eq_true rfl) (by rfl) dX4_inherit_48 ?_
          refine am_aload_n (x := 16) X (by rfl) dX4_inherit_50 ?_
          refine am_iload (x := (k : Int)) X (by rfl) dX4_inherit_51 ?_
          refine am_callVi (ci := 4) X hY lk_X4_49 mf_X4_isOpen (m_X4_isOpen (k : Int) k rfl (led_inh p q k σ) (by rw [e1]; exact hc)) (by decide) (by decide) (Nat.le_refl _) (Nat.le_refl _) sh_16 rfl rfl rfl (Nat.le_of_ble_eq_true rfl) dX4_inherit_53 (fun r53 sh53 σ53 hr53 hp53 => ?_)
          obtain ⟨rfl, rfl, hq53⟩ := hp53
          refine am_if_eq (tgt := 160) X dX4_inherit_56 (by decide) (fun h56 => ?_) (fun h56 => ?_)
          · skip
            refine am_inc (x := (k : Int)) (v := ((k : Int) + 1)) (L' := [some (vr 16), some (vi p), some (vi q), some (vi s), some (vi ((k : Int) + 1)), some (vi 0), some (vi 0)]) X (by rfl) (by omega) (by omega) (by rfl) dX4_inherit_160 ?_
            refine am_goto (tgt := 5) X dX4_inherit_163 (by decide) ?_
            refine am_fg [true, true, true, true, true, false, false] rfl (L' := [some (vr 16), some (vi p), some (vi q), some (vi s), some (vi ((k : Int) + 1)), none, none]) rfl ?_
            refine am_sg (led_inh p q (k + 1) σ) (by symm; show am_it _ (k + 1) σ = _; rw [am_it_succ]; show led_inh1 p q k (led_inh p q k σ) = _; unfold led_inh1; (repeat' split) <;> first | rfl | (exfalso; omega)) ?_
            exact ih5 _ (by omega) (k + 1) _ (by omega) (by (try subst s); (try simp only [hs]); show _ = am_sum (led_moved σ p q) k + led_moved σ p q k; unfold led_moved; (repeat' split) <;> omega) rfl
          · skip
            refine am_iload (x := 0) X (by rfl) dX4_inherit_59 ?_
            refine am_if_ne (tgt := 69) X dX4_inherit_61 (by decide) (fun h61 => ?_) (fun h61 => ?_)
            · skip
              refine am_iload (x := 0) X (by rfl) dX4_inherit_69 ?_
              refine am_if_eq (tgt := 84) X dX4_inherit_71 (by decide) (fun h71 => ?_) (fun h71 => ?_)
              · skip
                refine am_aload_n (x := 16) X (by rfl) dX4_inherit_84 ?_
                refine am_getr (c1 := 17) X 16 fl_X4_9 (by decide) sh_16 (by decide) (by rfl) dX4_inherit_85 ?_
                refine am_iload (x := (k : Int)) X (by rfl) dX4_inherit_88 ?_
                refine am_ald (v := (led_inh p q k σ) 17 k) X 17 k sh_17 (by omega) (by omega) (rfl) dX4_inherit_90 ?_
                refine am_iload_n (x := q) X (by rfl) dX4_inherit_91 ?_
                refine am_icmp_ne (tgt := 111) X dX4_inherit_92 (by decide) (fun h92 => ?_) (fun h92 => ?_)
                · skip
                  refine am_aload_n (x := 16) X (by rfl) dX4_inherit_111 ?_
                  refine am_getr (c1 := 17) X 16 fl_X4_9 (by decide) sh_16 (by decide) (by rfl) dX4_inherit_112 ?_
                  refine am_iload (x := (k : Int)) X (by rfl) dX4_inherit_115 ?_
                  refine am_iload (x := 0) X (by rfl) dX4_inherit_117 ?_
                  refine am_if_eq (tgt := 126) X dX4_inherit_119 (by decide) (fun h119 => ?_) (fun h119 => ?_)
                  · skip
                    refine am_aload_n (x := 16) X (by rfl) dX4_inherit_126 ?_
                    refine am_getr (c1 := 17) X 16 fl_X4_9 (by decide) sh_16 (by decide) (by rfl) dX4_inherit_127 ?_
                    refine am_iload (x := (k : Int)) X (by rfl) dX4_inherit_130 ?_
                    refine am_ald (v := (led_inh p q k σ) 17 k) X 17 k sh_17 (by omega) (by omega) (rfl) dX4_inherit_132 ?_
                    refine am_ast X 17 k sh_17 (by omega) (by omega) dX4_inherit_133 ?_
                    refine am_aload_n (x := 16) X (by rfl) dX4_inherit_134 ?_
                    refine am_getr (c1 := 18) X 16 fl_X4_15 (by decide) sh_16 (by decide) (by rfl) dX4_inherit_135 ?_
                    refine am_iload (x := (k : Int)) X (by rfl) dX4_inherit_138 ?_
                    refine am_iload (x := 0) X (by rfl) dX4_inherit_140 ?_
                    refine am_if_eq (tgt := 149) X dX4_inherit_142 (by decide) (fun h142 => ?_) (fun h142 => ?_)
                    · skip
                      refine am_aload_n (x := 16) X (by rfl) dX4_inherit_149 ?_
                      refine am_getr (c1 := 18) X 16 fl_X4_15 (by decide) sh_16 (by decide) (by rfl) dX4_inherit_150 ?_
                      refine am_iload (x := (k : Int)) X (by rfl) dX4_inherit_153 ?_
                      refine am_ald (v := (led_inh p q k σ) 18 k) X 18 k sh_18 (by omega) (by omega) (by simp [am_up]) dX4_inherit_155 ?_
                      refine am_ast X 18 k sh_18 (by omega) (by omega) dX4_inherit_156 ?_
                      refine am_inc (x := s) (v := (s + 1)) (L' := [some (vr 16), some (vi p), some (vi q), some (vi (s + 1)), some (vi (k : Int)), some (vi 0), some (vi 0)]) X (by rfl) (by omega) (by omega) (by rfl) dX4_inherit_157 ?_
                      refine am_inc (x := (k : Int)) (v := ((k : Int) + 1)) (L' := [some (vr 16), some (vi p), some (vi q), some (vi (s + 1)), some (vi ((k : Int) + 1)), some (vi 0), some (vi 0)]) X (by rfl) (by omega) (by omega) (by rfl) dX4_inherit_160 ?_
                      refine am_goto (tgt := 5) X dX4_inherit_163 (by decide) ?_
                      refine am_fg [true, true, true, true, true, false, false] rfl (L' := [some (vr 16), some (vi p), some (vi q), some (vi (s + 1)), some (vi ((k : Int) + 1)), none, none]) rfl ?_
                      refine am_sg (led_inh p q (k + 1) σ) (by symm; show am_it _ (k + 1) σ = _; rw [am_it_succ]; show led_inh1 p q k (led_inh p q k σ) = _; unfold led_inh1; (repeat' split) <;> first | rfl | (exfalso; omega)) ?_
                      exact ih5 _ (by omega) (k + 1) _ (by omega) (by (try subst s); (try simp only [hs]); show _ = am_sum (led_moved σ p q) k + led_moved σ p q k; unfold led_moved; (repeat' split) <;> omega) rfl
                    · skip
                      refine am_iload_n (x := q) X (by rfl) dX4_inherit_145 ?_
                      refine am_goto (tgt := 156) X dX4_inherit_146 (by decide) ?_
                      refine am_ast X 18 k sh_18 (by omega) (by omega) dX4_inherit_156 ?_
                      refine am_inc (x := s) (v := (s + 1)) (L' := [some (vr 16), some (vi p), some (vi q), some (vi (s + 1)), some (vi (k : Int)), some (vi 0), some (vi 0)]) X (by rfl) (by omega) (by omega) (by rfl) dX4_inherit_157 ?_
                      refine am_inc (x := (k : Int)) (v := ((k : Int) + 1)) (L' := [some (vr 16), some (vi p), some (vi q), some (vi (s + 1)), some (vi ((k : Int) + 1)), some (vi 0), some (vi 0)]) X (by rfl) (by omega) (by omega) (by rfl) dX4_inherit_160 ?_
                      refine am_goto (tgt := 5) X dX4_inherit_163 (by decide) ?_
                      refine am_fg [true, true, true, true, true, false, false] rfl (L' := [some (vr 16), some (vi p), some (vi q), some (vi (s + 1)), some (vi ((k : Int) + 1)), none, none]) rfl ?_
                      refine am_sg (led_inh p q (k + 1) σ) (by symm; show am_it _ (k + 1) σ = _; rw [am_it_succ]; show led_inh1 p q k (led_inh p q k σ) = _; unfold led_inh1; (repeat' split) <;> first | rfl | (exfalso; omega)) ?_
                      exact ih5 _ (by omega) (k + 1) _ (by omega) (by (try subst s); (try simp only [hs]); show _ = am_sum (led_moved σ p q) k + led_moved σ p q k; unfold led_moved; (repeat' split) <;> omega) rfl
                  · skip
                    refine am_iload_n (x := q) X (by rfl) dX4_inherit_122 ?_
                    refine am_goto (tgt := 133) X dX4_inherit_123 (by decide) ?_
                    refine am_ast X 17 k sh_17 (by omega) (by omega) dX4_inherit_133 ?_
                    refine am_aload_n (x := 16) X (by rfl) dX4_inherit_134 ?_
                    refine am_getr (c1 := 18) X 16 fl_X4_15 (by decide) sh_16 (by decide) (by rfl) dX4_inherit_135 ?_
                    refine am_iload (x := (k : Int)) X (by rfl) dX4_inherit_138 ?_
                    refine am_iload (x := 0) X (by rfl) dX4_inherit_140 ?_
                    refine am_if_eq (tgt := 149) X dX4_inherit_142 (by decide) (fun h142 => ?_) (fun h142 => ?_)
                    · skip
                      refine am_aload_n (x := 16) X (by rfl) dX4_inherit_149 ?_
                      refine am_getr (c1 := 18) X 16 fl_X4_15 (by decide) sh_16 (by decide) (by rfl) dX4_inherit_150 ?_
                      refine am_iload (x := (k : Int)) X (by rfl) dX4_inherit_153 ?_
                      refine am_ald (v := (led_inh p q k σ) 18 k) X 18 k sh_18 (by omega) (by omega) (by simp [am_up]) dX4_inherit_155 ?_
                      refine am_ast X 18 k sh_18 (by omega) (by omega) dX4_inherit_156 ?_
                      refine am_inc (x := s) (v := (s + 1)) (L' := [some (vr 16), some (vi p), some (vi q), some (vi (s + 1)), some (vi (k : Int)), some (vi 0), some (vi 0)]) X (by rfl) (by omega) (by omega) (by rfl) dX4_inherit_157 ?_
                      refine am_inc (x := (k : Int)) (v := ((k : Int) + 1)) (L' := [some (vr 16), some (vi p), some (vi q), some (vi (s + 1)), some (vi ((k : Int) + 1)), some (vi 0), some (vi 0)]) X (by rfl) (by omega) (by omega) (by rfl) dX4_inherit_160 ?_
                      refine am_goto (tgt := 5) X dX4_inherit_163 (by decide) ?_
                      refine am_fg [true, true, true, true, true, false, false] rfl (L' := [some (vr 16), some (vi p), some (vi q), some (vi (s + 1)), some (vi ((k : Int) + 1)), none, none]) rfl ?_
                      refine am_sg (led_inh p q (k + 1) σ) (by symm; show am_it _ (k + 1) σ = _; rw [am_it_succ]; show led_inh1 p q k (led_inh p q k σ) = _; unfold led_inh1; (repeat' split) <;> first | rfl | (exfalso; omega)) ?_
                      exact ih5 _ (by omega) (k + 1) _ (by omega) (by (try subst s); (try simp only [hs]); show _ = am_sum (led_moved σ p q) k + led_moved σ p q k; unfold led_moved; (repeat' split) <;> omega) rfl
                    · skip
                      refine am_iload_n (x := q) X (by rfl) dX4_inherit_145 ?_
                      refine am_goto (tgt := 156) X dX4_inherit_146 (by decide) ?_
                      refine am_ast X 18 k sh_18 (by omega) (by omega) dX4_inherit_156 ?_
                      refine am_inc (x := s) (v := (s + 1)) (L' := [some (vr 16), some (vi p), some (vi q), some (vi (s + 1)), some (vi (k : Int)), some (vi 0), some (vi 0)]) X (by rfl) (by omega) (by omega) (by rfl) dX4_inherit_157 ?_
                      refine am_inc (x := (k : Int)) (v := ((k : Int) + 1)) (L' := [some (vr 16), some (vi p), some (vi q), some (vi (s + 1)), some (vi ((k : Int) + 1)), some (vi 0), some (vi 0)]) X (by rfl) (by omega) (by omega) (by rfl) dX4_inherit_160 ?_
                      refine am_goto (tgt := 5) X dX4_inherit_163 (by decide) ?_
                      refine am_fg [true, true, true, true, true, false, false] rfl (L' := [some (vr 16), some (vi p), some (vi q), some (vi (s + 1)), some (vi ((k : Int) + 1)), none, none]) rfl ?_
                      refine am_sg (led_inh p q (k + 1) σ) (by symm; show am_it _ (k + 1) σ = _; rw [am_it_succ]; show led_inh1 p q k (led_inh p q k σ) = _; unfold led_inh1; (repeat' split) <;> first | rfl | (exfalso; omega)) ?_
                      exact ih5 _ (by omega) (k + 1) _ (by omega) (by (try subst s); (try simp only [hs]); show _ = am_sum (led_moved σ p q) k + led_moved σ p q k; unfold led_moved; (repeat' split) <;> omega) rfl
                · skip
                  refine am_aload_n (x := 16) X (by rfl) dX4_inherit_95 ?_
                  refine am_iload (x := (k : Int)) X (by rfl) dX4_inherit_96 ?_
                  refine am_aload_n (x := 16) X (by rfl) dX4_inherit_98 ?_
                  refine am_getr (c1 := 19) X 16 fl_X4_18 (by decide) sh_16 (by decide) (by rfl) dX4_inherit_99 ?_
                  refine am_iload (x := (k : Int)) X (by rfl) dX4_inherit_102 ?_
                  refine am_ald (v := (led_inh p q k σ) 19 k) X 19 k sh_19 (by omega) (by omega) (rfl) dX4_inherit_104 ?_
                  refine am_callVv (ci := 4) X hY lk_X4_45 mf_X4_lessen (m_X4_lessen (k : Int) k (by omega) (by omega) ((led_inh p q k σ) 19 k) (led_inh p q k σ) (by omega)) (by decide) (by decide) (Nat.le_refl _) (Nat.le_refl _) sh_16 rfl rfl rfl (Nat.le_of_ble_eq_true rfl) dX4_inherit_105 (fun sh105 σ105 hp105 => ?_)
                  obtain ⟨rfl, rfl, hq105⟩ := hp105
                  refine am_goto (tgt := 160) X dX4_inherit_108 (by decide) ?_
                  refine am_inc (x := (k : Int)) (v := ((k : Int) + 1)) (L' := [some (vr 16), some (vi p), some (vi q), some (vi s), some (vi ((k : Int) + 1)), some (vi 0), some (vi 0)]) X (by rfl) (by omega) (by omega) (by rfl) dX4_inherit_160 ?_
                  refine am_goto (tgt := 5) X dX4_inherit_163 (by decide) ?_
                  refine am_fg [true, true, true, true, true, false, false] rfl (L' := [some (vr 16), some (vi p), some (vi q), some (vi s), some (vi ((k : Int) + 1)), none, none]) rfl ?_
                  refine am_sg (led_inh p q (k + 1) σ) (by symm; show am_it _ (k + 1) σ = _; rw [am_it_succ]; show led_inh1 p q k (led_inh p q k σ) = _; unfold led_inh1; (repeat' split) <;> first | rfl | (exfalso; omega)) ?_
                  exact ih5 _ (by omega) (k + 1) _ (by omega) (by (try subst s); (try simp only [hs]); show _ = am_sum (led_moved σ p q) k + led_moved σ p q k; unfold led_moved; (repeat' split) <;> omega) rfl
              · skip
                refine am_aload_n (x := 16) X (by rfl) dX4_inherit_74 ?_
                refine am_getr (c1 := 18) X 16 fl_X4_15 (by decide) sh_16 (by decide) (by rfl) dX4_inherit_75 ?_
                refine am_iload (x := (k : Int)) X (by rfl) dX4_inherit_78 ?_
                refine am_ald (v := (led_inh p q k σ) 18 k) X 18 k sh_18 (by omega) (by omega) (rfl) dX4_inherit_80 ?_
                refine am_goto (tgt := 91) X dX4_inherit_81 (by decide) ?_
                refine am_iload_n (x := q) X (by rfl) dX4_inherit_91 ?_
                refine am_icmp_ne (tgt := 111) X dX4_inherit_92 (by decide) (fun h92 => ?_) (fun h92 => ?_)
                · skip
                  refine am_aload_n (x := 16) X (by rfl) dX4_inherit_111 ?_
                  refine am_getr (c1 := 17) X 16 fl_X4_9 (by decide) sh_16 (by decide) (by rfl) dX4_inherit_112 ?_
                  refine am_iload (x := (k : Int)) X (by rfl) dX4_inherit_115 ?_
                  refine am_iload (x := 0) X (by rfl) dX4_inherit_117 ?_
                  refine am_if_eq (tgt := 126) X dX4_inherit_119 (by decide) (fun h119 => ?_) (fun h119 => ?_)
                  · skip
                    refine am_aload_n (x := 16) X (by rfl) dX4_inherit_126 ?_
                    refine am_getr (c1 := 17) X 16 fl_X4_9 (by decide) sh_16 (by decide) (by rfl) dX4_inherit_127 ?_
                    refine am_iload (x := (k : Int)) X (by rfl) dX4_inherit_130 ?_
                    refine am_ald (v := (led_inh p q k σ) 17 k) X 17 k sh_17 (by omega) (by omega) (rfl) dX4_inherit_132 ?_
                    refine am_ast X 17 k sh_17 (by omega) (by omega) dX4_inherit_133 ?_
                    refine am_aload_n (x := 16) X (by rfl) dX4_inherit_134 ?_
                    refine am_getr (c1 := 18) X 16 fl_X4_15 (by decide) sh_16 (by decide) (by rfl) dX4_inherit_135 ?_
                    refine am_iload (x := (k : Int)) X (by rfl) dX4_inherit_138 ?_
                    refine am_iload (x := 0) X (by rfl) dX4_inherit_140 ?_
                    refine am_if_eq (tgt := 149) X dX4_inherit_142 (by decide) (fun h142 => ?_) (fun h142 => ?_)
                    · skip
                      refine am_aload_n (x := 16) X (by rfl) dX4_inherit_149 ?_
                      refine am_getr (c1 := 18) X 16 fl_X4_15 (by decide) sh_16 (by decide) (by rfl) dX4_inherit_150 ?_
                      refine am_iload (x := (k : Int)) X (by rfl) dX4_inherit_153 ?_
                      refine am_ald (v := (led_inh p q k σ) 18 k) X 18 k sh_18 (by omega) (by omega) (by simp [am_up]) dX4_inherit_155 ?_
                      refine am_ast X 18 k sh_18 (by omega) (by omega) dX4_inherit_156 ?_
                      refine am_inc (x := s) (v := (s + 1)) (L' := [some (vr 16), some (vi p), some (vi q), some (vi (s + 1)), some (vi (k : Int)), some (vi 0), some (vi 0)]) X (by rfl) (by omega) (by omega) (by rfl) dX4_inherit_157 ?_
                      refine am_inc (x := (k : Int)) (v := ((k : Int) + 1)) (L' := [some (vr 16), some (vi p), some (vi q), some (vi (s + 1)), some (vi ((k : Int) + 1)), some (vi 0), some (vi 0)]) X (by rfl) (by omega) (by omega) (by rfl) dX4_inherit_160 ?_
                      refine am_goto (tgt := 5) X dX4_inherit_163 (by decide) ?_
                      refine am_fg [true, true, true, true, true, false, false] rfl (L' := [some (vr 16), some (vi p), some (vi q), some (vi (s + 1)), some (vi ((k : Int) + 1)), none, none]) rfl ?_
                      refine am_sg (led_inh p q (k + 1) σ) (by symm; show am_it _ (k + 1) σ = _; rw [am_it_succ]; show led_inh1 p q k (led_inh p q k σ) = _; unfold led_inh1; (repeat' split) <;> first | rfl | (exfalso; omega)) ?_
                      exact ih5 _ (by omega) (k + 1) _ (by omega) (by (try subst s); (try simp only [hs]); show _ = am_sum (led_moved σ p q) k + led_moved σ p q k; unfold led_moved; (repeat' split) <;> omega) rfl
                    · skip
                      refine am_iload_n (x := q) X (by rfl) dX4_inherit_145 ?_
                      refine am_goto (tgt := 156) X dX4_inherit_146 (by decide) ?_
                      refine am_ast X 18 k sh_18 (by omega) (by omega) dX4_inherit_156 ?_
                      refine am_inc (x := s) (v := (s + 1)) (L' := [some (vr 16), some (vi p), some (vi q), some (vi (s + 1)), some (vi (k : Int)), some (vi 0), some (vi 0)]) X (by rfl) (by omega) (by omega) (by rfl) dX4_inherit_157 ?_
                      refine am_inc (x := (k : Int)) (v := ((k : Int) + 1)) (L' := [some (vr 16), some (vi p), some (vi q), some (vi (s + 1)), some (vi ((k : Int) + 1)), some (vi 0), some (vi 0)]) X (by rfl) (by omega) (by omega) (by rfl) dX4_inherit_160 ?_
                      refine am_goto (tgt := 5) X dX4_inherit_163 (by decide) ?_
                      refine am_fg [true, true, true, true, true, false, false] rfl (L' := [some (vr 16), some (vi p), some (vi q), some (vi (s + 1)), some (vi ((k : Int) + 1)), none, none]) rfl ?_
                      refine am_sg (led_inh p q (k + 1) σ) (by symm; show am_it _ (k + 1) σ = _; rw [am_it_succ]; show led_inh1 p q k (led_inh p q k σ) = _; unfold led_inh1; (repeat' split) <;> first | rfl | (exfalso; omega)) ?_
                      exact ih5 _ (by omega) (k + 1) _ (by omega) (by (try subst s); (try simp only [hs]); show _ = am_sum (led_moved σ p q) k + led_moved σ p q k; unfold led_moved; (repeat' split) <;> omega) rfl
                  · skip
                    refine am_iload_n (x := q) X (by rfl) dX4_inherit_122 ?_
                    refine am_goto (tgt := 133) X dX4_inherit_123 (by decide) ?_
                    refine am_ast X 17 k sh_17 (by omega) (by omega) dX4_inherit_133 ?_
                    refine am_aload_n (x := 16) X (by rfl) dX4_inherit_134 ?_
                    refine am_getr (c1 := 18) X 16 fl_X4_15 (by decide) sh_16 (by decide) (by rfl) dX4_inherit_135 ?_
                    refine am_iload (x := (k : Int)) X (by rfl) dX4_inherit_138 ?_
                    refine am_iload (x := 0) X (by rfl) dX4_inherit_140 ?_
                    refine am_if_eq (tgt := 149) X dX4_inherit_142 (by decide) (fun h142 => ?_) (fun h142 => ?_)
                    · skip
                      refine am_aload_n (x := 16) X (by rfl) dX4_inherit_149 ?_
                      refine am_getr (c1 := 18) X 16 fl_X4_15 (by decide) sh_16 (by decide) (by rfl) dX4_inherit_150 ?_
                      refine am_iload (x := (k : Int)) X (by rfl) dX4_inherit_153 ?_
                      refine am_ald (v := (led_inh p q k σ) 18 k) X 18 k sh_18 (by omega) (by omega) (by simp [am_up]) dX4_inherit_155 ?_
                      refine am_ast X 18 k sh_18 (by omega) (by omega) dX4_inherit_156 ?_
                      refine am_inc (x := s) (v := (s + 1)) (L' := [some (vr 16), some (vi p), some (vi q), some (vi (s + 1)), some (vi (k : Int)), some (vi 0), some (vi 0)]) X (by rfl) (by omega) (by omega) (by rfl) dX4_inherit_157 ?_
                      refine am_inc (x := (k : Int)) (v := ((k : Int) + 1)) (L' := [some (vr 16), some (vi p), some (vi q), some (vi (s + 1)), some (vi ((k : Int) + 1)), some (vi 0), some (vi 0)]) X (by rfl) (by omega) (by omega) (by rfl) dX4_inherit_160 ?_
                      refine am_goto (tgt := 5) X dX4_inherit_163 (by decide) ?_
                      refine am_fg [true, true, true, true, true, false, false] rfl (L' := [some (vr 16), some (vi p), some (vi q), some (vi (s + 1)), some (vi ((k : Int) + 1)), none, none]) rfl ?_
                      refine am_sg (led_inh p q (k + 1) σ) (by symm; show am_it _ (k + 1) σ = _; rw [am_it_succ]; show led_inh1 p q k (led_inh p q k σ) = _; unfold led_inh1; (repeat' split) <;> first | rfl | (exfalso; omega)) ?_
                      exact ih5 _ (by omega) (k + 1) _ (by omega) (by (try subst s); (try simp only [hs]); show _ = am_sum (led_moved σ p q) k + led_moved σ p q k; unfold led_moved; (repeat' split) <;> omega) rfl
                    · skip
                      refine am_iload_n (x := q) X (by rfl) dX4_inherit_145 ?_
                      refine am_goto (tgt := 156) X dX4_inherit_146 (by decide) ?_
                      refine am_ast X 18 k sh_18 (by omega) (by omega) dX4_inherit_156 ?_
                      refine am_inc (x := s) (v := (s + 1)) (L' := [some (vr 16), some (vi p), some (vi q), some (vi (s + 1)), some (vi (k : Int)), some (vi 0), some (vi 0)]) X (by rfl) (by omega) (by omega) (by rfl) dX4_inherit_157 ?_
                      refine am_inc (x := (k : Int)) (v := ((k : Int) + 1)) (L' := [some (vr 16), some (vi p), some (vi q), some (vi (s + 1)), some (vi ((k : Int) + 1)), some (vi 0), some (vi 0)]) X (by rfl) (by omega) (by omega) (by rfl) dX4_inherit_160 ?_
                      refine am_goto (tgt := 5) X dX4_inherit_163 (by decide) ?_
                      refine am_fg [true, true, true, true, true, false, false] rfl (L' := [some (vr 16), some (vi p), some (vi q), some (vi (s + 1)), some (vi ((k : Int) + 1)), none, none]) rfl ?_
                      refine am_sg (led_inh p q (k + 1) σ) (by symm; show am_it _ (k + 1) σ = _; rw [am_it_succ]; show led_inh1 p q k (led_inh p q k σ) = _; unfold led_inh1; (repeat' split) <;> first | rfl | (exfalso; omega)) ?_
                      exact ih5 _ (by omega) (k + 1) _ (by omega) (by (try subst s); (try simp only [hs]); show _ = am_sum (led_moved σ p q) k + led_moved σ p q k; unfold led_moved; (repeat' split) <;> omega) rfl
                · skip
                  refine am_aload_n (x := 16) X (by rfl) dX4_inherit_95 ?_
                  refine am_iload (x := (k : Int)) X (by rfl) dX4_inherit_96 ?_
                  refine am_aload_n (x := 16) X (by rfl) dX4_inherit_98 ?_
                  refine am_getr (c1 := 19) X 16 fl_X4_18 (by decide) sh_16 (by decide) (by rfl) dX4_inherit_99 ?_
                  refine am_iload (x := (k : Int)) X (by rfl) dX4_inherit_102 ?_
                  refine am_ald (v := (led_inh p q k σ) 19 k) X 19 k sh_19 (by omega) (by omega) (rfl) dX4_inherit_104 ?_
                  refine am_callVv (ci := 4) X hY lk_X4_45 mf_X4_lessen (m_X4_lessen (k : Int) k (by omega) (by omega) ((led_inh p q k σ) 19 k) (led_inh p q k σ) (by omega)) (by decide) (by decide) (Nat.le_refl _) (Nat.le_refl _) sh_16 rfl rfl rfl (Nat.le_of_ble_eq_true rfl) dX4_inherit_105 (fun sh105 σ105 hp105 => ?_)
                  obtain ⟨rfl, rfl, hq105⟩ := hp105
                  refine am_goto (tgt := 160) X dX4_inherit_108 (by decide) ?_
                  refine am_inc (x := (k : Int)) (v := ((k : Int) + 1)) (L' := [some (vr 16), some (vi p), some (vi q), some (vi s), some (vi ((k : Int) + 1)), some (vi 0), some (vi 0)]) X (by rfl) (by omega) (by omega) (by rfl) dX4_inherit_160 ?_
                  refine am_goto (tgt := 5) X dX4_inherit_163 (by decide) ?_
                  refine am_fg [true, true, true, true, true, false, false] rfl (L' := [some (vr 16), some (vi p), some (vi q), some (vi s), some (vi ((k : Int) + 1)), none, none]) rfl ?_
                  refine am_sg (led_inh p q (k + 1) σ) (by symm; show am_it _ (k + 1) σ = _; rw [am_it_succ]; show led_inh1 p q k (led_inh p q k σ) = _; unfold led_inh1; (repeat' split) <;> first | rfl | (exfalso; omega)) ?_
                  exact ih5 _ (by omega) (k + 1) _ (by omega) (by (try subst s); (try simp only [hs]); show _ = am_sum (led_moved σ p q) k + led_moved σ p q k; unfold led_moved; (repeat' split) <;> omega) rfl
            · skip
              refine am_iload (x := 0) X (by rfl) dX4_inherit_64 ?_
              refine am_if_eq (tgt := 160) X dX4_inherit_66 (by decide) (fun h66 => ?_) (fun h66 => ?_)
              · skip
                refine am_inc (x := (k : Int)) (v := ((k : Int) + 1)) (L' := [some (vr 16), some (vi p), some (vi q), some (vi s), some (vi ((k : Int) + 1)), some (vi 0), some (vi 0)]) X (by rfl) (by omega) (by omega) (by rfl) dX4_inherit_160 ?_
                refine am_goto (tgt := 5) X dX4_inherit_163 (by decide) ?_
                refine am_fg [true, true, true, true, true, false, false] rfl (L' := [some (vr 16), some (vi p), some (vi q), some (vi s), some (vi ((k : Int) + 1)), none, none]) rfl ?_
                refine am_sg (led_inh p q (k + 1) σ) (by symm; show am_it _ (k + 1) σ = _; rw [am_it_succ]; show led_inh1 p q k (led_inh p q k σ) = _; unfold led_inh1; (repeat' split) <;> first | rfl | (exfalso; omega)) ?_
                exact ih5 _ (by omega) (k + 1) _ (by omega) (by (try subst s); (try simp only [hs]); show _ = am_sum (led_moved σ p q) k + led_moved σ p q k; unfold led_moved; (repeat' split) <;> omega) rfl
              · skip
                refine am_iload (x := 0) X (by rfl) dX4_inherit_69 ?_
                refine am_if_eq (tgt := 84) X dX4_inherit_71 (by decide) (fun h71 => ?_) (fun h71 => ?_)
                · skip
                  refine am_aload_n (x := 16) X (by rfl) dX4_inherit_84 ?_
                  refine am_getr (c1 := 17) X 16 fl_X4_9 (by decide) sh_16 (by decide) (by rfl) dX4_inherit_85 ?_
                  refine am_iload (x := (k : Int)) X (by rfl) dX4_inherit_88 ?_
                  refine am_ald (v := (led_inh p q k σ) 17 k) X 17 k sh_17 (by omega) (by omega) (rfl) dX4_inherit_90 ?_
                  refine am_iload_n (x := q) X (by rfl) dX4_inherit_91 ?_
                  refine am_icmp_ne (tgt := 111) X dX4_inherit_92 (by decide) (fun h92 => ?_) (fun h92 => ?_)
                  · skip
                    refine am_aload_n (x := 16) X (by rfl) dX4_inherit_111 ?_
                    refine am_getr (c1 := 17) X 16 fl_X4_9 (by decide) sh_16 (by decide) (by rfl) dX4_inherit_112 ?_
                    refine am_iload (x := (k : Int)) X (by rfl) dX4_inherit_115 ?_
                    refine am_iload (x := 0) X (by rfl) dX4_inherit_117 ?_
                    refine am_if_eq (tgt := 126) X dX4_inherit_119 (by decide) (fun h119 => ?_) (fun h119 => ?_)
                    · skip
                      refine am_aload_n (x := 16) X (by rfl) dX4_inherit_126 ?_
                      refine am_getr (c1 := 17) X 16 fl_X4_9 (by decide) sh_16 (by decide) (by rfl) dX4_inherit_127 ?_
                      refine am_iload (x := (k : Int)) X (by rfl) dX4_inherit_130 ?_
                      refine am_ald (v := (led_inh p q k σ) 17 k) X 17 k sh_17 (by omega) (by omega) (rfl) dX4_inherit_132 ?_
                      refine am_ast X 17 k sh_17 (by omega) (by omega) dX4_inherit_133 ?_
                      refine am_aload_n (x := 16) X (by rfl) dX4_inherit_134 ?_
                      refine am_getr (c1 := 18) X 16 fl_X4_15 (by decide) sh_16 (by decide) (by rfl) dX4_inherit_135 ?_
                      refine am_iload (x := (k : Int)) X (by rfl) dX4_inherit_138 ?_
                      refine am_iload (x := 0) X (by rfl) dX4_inherit_140 ?_
                      refine am_if_eq (tgt := 149) X dX4_inherit_142 (by decide) (fun h142 => ?_) (fun h142 => ?_)
                      · skip
                        refine am_aload_n (x := 16) X (by rfl) dX4_inherit_149 ?_
                        refine am_getr (c1 := 18) X 16 fl_X4_15 (by decide) sh_16 (by decide) (by rfl) dX4_inherit_150 ?_
                        refine am_iload (x := (k : Int)) X (by rfl) dX4_inherit_153 ?_
                        refine am_ald (v := (led_inh p q k σ) 18 k) X 18 k sh_18 (by omega) (by omega) (by simp [am_up]) dX4_inherit_155 ?_
                        refine am_ast X 18 k sh_18 (by omega) (by omega) dX4_inherit_156 ?_
                        refine am_inc (x := s) (v := (s + 1)) (L' := [some (vr 16), some (vi p), some (vi q), some (vi (s + 1)), some (vi (k : Int)), some (vi 0), some (vi 0)]) X (by rfl) (by omega) (by omega) (by rfl) dX4_inherit_157 ?_
                        refine am_inc (x := (k : Int)) (v := ((k : Int) + 1)) (L' := [some (vr 16), some (vi p), some (vi q), some (vi (s + 1)), some (vi ((k : Int) + 1)), some (vi 0), some (vi 0)]) X (by rfl) (by omega) (by omega) (by rfl) dX4_inherit_160 ?_
                        refine am_goto (tgt := 5) X dX4_inherit_163 (by decide) ?_
                        refine am_fg [true, true, true, true, true, false, false] rfl (L' := [some (vr 16), some (vi p), some (vi q), some (vi (s + 1)), some (vi ((k : Int) + 1)), none, none]) rfl ?_
                        refine am_sg (led_inh p q (k + 1) σ) (by symm; show am_it _ (k + 1) σ = _; rw [am_it_succ]; show led_inh1 p q k (led_inh p q k σ) = _; unfold led_inh1; (repeat' split) <;> first | rfl | (exfalso; omega)) ?_
                        exact ih5 _ (by omega) (k + 1) _ (by omega) (by (try subst s); (try simp only [hs]); show _ = am_sum (led_moved σ p q) k + led_moved σ p q k; unfold led_moved; (repeat' split) <;> omega) rfl
                      · skip
                        refine am_iload_n (x := q) X (by rfl) dX4_inherit_145 ?_
                        refine am_goto (tgt := 156) X dX4_inherit_146 (by decide) ?_
                        refine am_ast X 18 k sh_18 (by omega) (by omega) dX4_inherit_156 ?_
                        refine am_inc (x := s) (v := (s + 1)) (L' := [some (vr 16), some (vi p), some (vi q), some (vi (s + 1)), some (vi (k : Int)), some (vi 0), some (vi 0)]) X (by rfl) (by omega) (by omega) (by rfl) dX4_inherit_157 ?_
                        refine am_inc (x := (k : Int)) (v := ((k : Int) + 1)) (L' := [some (vr 16), some (vi p), some (vi q), some (vi (s + 1)), some (vi ((k : Int) + 1)), some (vi 0), some (vi 0)]) X (by rfl) (by omega) (by omega) (by rfl) dX4_inherit_160 ?_
                        refine am_goto (tgt := 5) X dX4_inherit_163 (by decide) ?_
                        refine am_fg [true, true, true, true, true, false, false] rfl (L' := [some (vr 16), some (vi p), some (vi q), some (vi (s + 1)), some (vi ((k : Int) + 1)), none, none]) rfl ?_
                        refine am_sg (led_inh p q (k + 1) σ) (by symm; show am_it _ (k + 1) σ = _; rw [am_it_succ]; show led_inh1 p q k (led_inh p q k σ) = _; unfold led_inh1; (repeat' split) <;> first | rfl | (exfalso; omega)) ?_
                        exact ih5 _ (by omega) (k + 1) _ (by omega) (by (try subst s); (try simp only [hs]); show _ = am_sum (led_moved σ p q) k + led_moved σ p q k; unfold led_moved; (repeat' split) <;> omega) rfl
                    · skip
                      refine am_iload_n (x := q) X (by rfl) dX4_inherit_122 ?_
                      refine am_goto (tgt := 133) X dX4_inherit_123 (by decide) ?_
                      refine am_ast X 17 k sh_17 (by omega) (by omega) dX4_inherit_133 ?_
                      refine am_aload_n (x := 16) X (by rfl) dX4_inherit_134 ?_
                      refine am_getr (c1 := 18) X 16 fl_X4_15 (by decide) sh_16 (by decide) (by rfl) dX4_inherit_135 ?_
                      refine am_iload (x := (k : Int)) X (by rfl) dX4_inherit_138 ?_
                      refine am_iload (x := 0) X (by rfl) dX4_inherit_140 ?_
                      refine am_if_eq (tgt := 149) X dX4_inherit_142 (by decide) (fun h142 => ?_) (fun h142 => ?_)
                      · skip
                        refine am_aload_n (x := 16) X (by rfl) dX4_inherit_149 ?_
                        refine am_getr (c1 := 18) X 16 fl_X4_15 (by decide) sh_16 (by decide) (by rfl) dX4_inherit_150 ?_
                        refine am_iload (x := (k : Int)) X (by rfl) dX4_inherit_153 ?_
                        refine am_ald (v := (led_inh p q k σ) 18 k) X 18 k sh_18 (by omega) (by omega) (by simp [am_up]) dX4_inherit_155 ?_
                        refine am_ast X 18 k sh_18 (by omega) (by omega) dX4_inherit_156 ?_
                        refine am_inc (x := s) (v := (s + 1)) (L' := [some (vr 16), some (vi p), some (vi q), some (vi (s + 1)), some (vi (k : Int)), some (vi 0), some (vi 0)]) X (by rfl) (by omega) (by omega) (by rfl) dX4_inherit_157 ?_
                        refine am_inc (x := (k : Int)) (v := ((k : Int) + 1)) (L' := [some (vr 16), some (vi p), some (vi q), some (vi (s + 1)), some (vi ((k : Int) + 1)), some (vi 0), some (vi 0)]) X (by rfl) (by omega) (by omega) (by rfl) dX4_inherit_160 ?_
                        refine am_goto (tgt := 5) X dX4_inherit_163 (by decide) ?_
                        refine am_fg [true, true, true, true, true, false, false] rfl (L' := [some (vr 16), some (vi p), some (vi q), some (vi (s + 1)), some (vi ((k : Int) + 1)), none, none]) rfl ?_
                        refine am_sg (led_inh p q (k + 1) σ) (by symm; show am_it _ (k + 1) σ = _; rw [am_it_succ]; show led_inh1 p q k (led_inh p q k σ) = _; unfold led_inh1; (repeat' split) <;> first | rfl | (exfalso; omega)) ?_
                        exact ih5 _ (by omega) (k + 1) _ (by omega) (by (try subst s); (try simp only [hs]); show _ = am_sum (led_moved σ p q) k + led_moved σ p q k; unfold led_moved; (repeat' split) <;> omega) rfl
                      · skip
                        refine am_iload_n (x := q) X (by rfl) dX4_inherit_145 ?_
                        refine am_goto (tgt := 156) X dX4_inherit_146 (by decide) ?_
                        refine am_ast X 18 k sh_18 (by omega) (by omega) dX4_inherit_156 ?_
                        refine am_inc (x := s) (v := (s + 1)) (L' := [some (vr 16), some (vi p), some (vi q), some (vi (s + 1)), some (vi (k : Int)), some (vi 0), some (vi 0)]) X (by rfl) (by omega) (by omega) (by rfl) dX4_inherit_157 ?_
                        refine am_inc (x := (k : Int)) (v := ((k : Int) + 1)) (L' := [some (vr 16), some (vi p), some (vi q), some (vi (s + 1)), some (vi ((k : Int) + 1)), some (vi 0), some (vi 0)]) X (by rfl) (by omega) (by omega) (by rfl) dX4_inherit_160 ?_
                        refine am_goto (tgt := 5) X dX4_inherit_163 (by decide) ?_
                        refine am_fg [true, true, true, true, true, false, false] rfl (L' := [some (vr 16), some (vi p), some (vi q), some (vi (s + 1)), some (vi ((k : Int) + 1)), none, none]) rfl ?_
                        refine am_sg (led_inh p q (k + 1) σ) (by symm; show am_it _ (k + 1) σ = _; rw [am_it_succ]; show led_inh1 p q k (led_inh p q k σ) = _; unfold led_inh1; (repeat' split) <;> first | rfl | (exfalso; omega)) ?_
                        exact ih5 _ (by omega) (k + 1) _ (by omega) (by (try subst s); (try simp only [hs]); show _ = am_sum (led_moved σ p q) k + led_moved σ p q k; unfold led_moved; (repeat' split) <;> omega) rfl
                  · skip
                    refine am_aload_n (x := 16) X (by rfl) dX4_inherit_95 ?_
                    refine am_iload (x := (k : Int)) X (by rfl) dX4_inherit_96 ?_
                    refine am_aload_n (x := 16) X (by rfl) dX4_inherit_98 ?_
                    refine am_getr (c1 := 19) X 16 fl_X4_18 (by decide) sh_16 (by decide) (by rfl) dX4_inherit_99 ?_
                    refine am_iload (x := (k : Int)) X (by rfl) dX4_inherit_102 ?_
                    refine am_ald (v := (led_inh p q k σ) 19 k) X 19 k sh_19 (by omega) (by omega) (rfl) dX4_inherit_104 ?_
                    refine am_callVv (ci := 4) X hY lk_X4_45 mf_X4_lessen (m_X4_lessen (k : Int) k (by omega) (by omega) ((led_inh p q k σ) 19 k) (led_inh p q k σ) (by omega)) (by decide) (by decide) (Nat.le_refl _) (Nat.le_refl _) sh_16 rfl rfl rfl (Nat.le_of_ble_eq_true rfl) dX4_inherit_105 (fun sh105 σ105 hp105 => ?_)
                    obtain ⟨rfl, rfl, hq105⟩ := hp105
                    refine am_goto (tgt := 160) X dX4_inherit_108 (by decide) ?_
                    refine am_inc (x := (k : Int)) (v := ((k : Int) + 1)) (L' := [some (vr 16), some (vi p), some (vi q), some (vi s), some (vi ((k : Int) + 1)), some (vi 0), some (vi 0)]) X (by rfl) (by omega) (by omega) (by rfl) dX4_inherit_160 ?_
                    refine am_goto (tgt := 5) X dX4_inherit_163 (by decide) ?_
                    refine am_fg [true, true, true, true, true, false, false] rfl (L' := [some (vr 16), some (vi p), some (vi q), some (vi s), some (vi ((k : Int) + 1)), none, none]) rfl ?_
                    refine am_sg (led_inh p q (k + 1) σ) (by symm; show am_it _ (k + 1) σ = _; rw [am_it_succ]; show led_inh1 p q k (led_inh p q k σ) = _; unfold led_inh1; (repeat' split) <;> first | rfl | (exfalso; omega)) ?_
                    exact ih5 _ (by omega) (k + 1) _ (by omega) (by (try subst s); (try simp only [hs]); show _ = am_sum (led_moved σ p q) k + led_moved σ p q k; unfold led_moved; (repeat' split) <;> omega) rfl
                · skip
                  refine am_aload_n (x := 16) X (by rfl) dX4_inherit_74 ?_
                  refine am_getr (c1 := 18) X 16 fl_X4_15 (by decide) sh_16 (by decide) (by rfl) dX4_inherit_75 ?_
                  refine am_iload (x := (k : Int)) X (by rfl) dX4_inherit_78 ?_
                  refine am_ald (v := (led_inh p q k σ) 18 k) X 18 k sh_18 (by omega) (by omega) (rfl) dX4_inherit_80 ?_
                  refine am_goto (tgt := 91) X dX4_inherit_81 (by decide) ?_
                  refine am_iload_n (x := q) X (by rfl) dX4_inherit_91 ?_
                  refine am_icmp_ne (tgt := 111) X dX4_inherit_92 (by decide) (fun h92 => ?_) (fun h92 => ?_)
                  · skip
                    refine am_aload_n (x := 16) X (by rfl) dX4_inherit_111 ?_
                    refine am_getr (c1 := 17) X 16 fl_X4_9 (by decide) sh_16 (by decide) (by rfl) dX4_inherit_112 ?_
                    refine am_iload (x := (k : Int)) X (by rfl) dX4_inherit_115 ?_
                    refine am_iload (x := 0) X (by rfl) dX4_inherit_117 ?_
                    refine am_if_eq (tgt := 126) X dX4_inherit_119 (by decide) (fun h119 => ?_) (fun h119 => ?_)
                    · skip
                      refine am_aload_n (x := 16) X (by rfl) dX4_inherit_126 ?_
                      refine am_getr (c1 := 17) X 16 fl_X4_9 (by decide) sh_16 (by decide) (by rfl) dX4_inherit_127 ?_
                      refine am_iload (x := (k : Int)) X (by rfl) dX4_inherit_130 ?_
                      refine am_ald (v := (led_inh p q k σ) 17 k) X 17 k sh_17 (by omega) (by omega) (rfl) dX4_inherit_132 ?_
                      refine am_ast X 17 k sh_17 (by omega) (by omega) dX4_inherit_133 ?_
                      refine am_aload_n (x := 16) X (by rfl) dX4_inherit_134 ?_
                      refine am_getr (c1 := 18) X 16 fl_X4_15 (by decide) sh_16 (by decide) (by rfl) dX4_inherit_135 ?_
                      refine am_iload (x := (k : Int)) X (by rfl) dX4_inherit_138 ?_
                      refine am_iload (x := 0) X (by rfl) dX4_inherit_140 ?_
                      refine am_if_eq (tgt := 149) X dX4_inherit_142 (by decide) (fun h142 => ?_) (fun h142 => ?_)
                      · skip
                        refine am_aload_n (x := 16) X (by rfl) dX4_inherit_149 ?_
                        refine am_getr (c1 := 18) X 16 fl_X4_15 (by decide) sh_16 (by decide) (by rfl) dX4_inherit_150 ?_
                        refine am_iload (x := (k : Int)) X (by rfl) dX4_inherit_153 ?_
                        refine am_ald (v := (led_inh p q k σ) 18 k) X 18 k sh_18 (by omega) (by omega) (by simp [am_up]) dX4_inherit_155 ?_
                        refine am_ast X 18 k sh_18 (by omega) (by omega) dX4_inherit_156 ?_
                        refine am_inc (x := s) (v := (s + 1)) (L' := [some (vr 16), some (vi p), some (vi q), some (vi (s + 1)), some (vi (k : Int)), some (vi 0), some (vi 0)]) X (by rfl) (by omega) (by omega) (by rfl) dX4_inherit_157 ?_
                        refine am_inc (x := (k : Int)) (v := ((k : Int) + 1)) (L' := [some (vr 16), some (vi p), some (vi q), some (vi (s + 1)), some (vi ((k : Int) + 1)), some (vi 0), some (vi 0)]) X (by rfl) (by omega) (by omega) (by rfl) dX4_inherit_160 ?_
                        refine am_goto (tgt := 5) X dX4_inherit_163 (by decide) ?_
                        refine am_fg [true, true, true, true, true, false, false] rfl (L' := [some (vr 16), some (vi p), some (vi q), some (vi (s + 1)), some (vi ((k : Int) + 1)), none, none]) rfl ?_
                        refine am_sg (led_inh p q (k + 1) σ) (by symm; show am_it _ (k + 1) σ = _; rw [am_it_succ]; show led_inh1 p q k (led_inh p q k σ) = _; unfold led_inh1; (repeat' split) <;> first | rfl | (exfalso; omega)) ?_
                        exact ih5 _ (by omega) (k + 1) _ (by omega) (by (try subst s); (try simp only [hs]); show _ = am_sum (led_moved σ p q) k + led_moved σ p q k; unfold led_moved; (repeat' split) <;> omega) rfl
                      · skip
                        refine am_iload_n (x := q) X (by rfl) dX4_inherit_145 ?_
                        refine am_goto (tgt := 156) X dX4_inherit_146 (by decide) ?_
                        refine am_ast X 18 k sh_18 (by omega) (by omega) dX4_inherit_156 ?_
                        refine am_inc (x := s) (v := (s + 1)) (L' := [some (vr 16), some (vi p), some (vi q), some (vi (s + 1)), some (vi (k : Int)), some (vi 0), some (vi 0)]) X (by rfl) (by omega) (by omega) (by rfl) dX4_inherit_157 ?_
                        refine am_inc (x := (k : Int)) (v := ((k : Int) + 1)) (L' := [some (vr 16), some (vi p), some (vi q), some (vi (s + 1)), some (vi ((k : Int) + 1)), some (vi 0), some (vi 0)]) X (by rfl) (by omega) (by omega) (by rfl) dX4_inherit_160 ?_
                        refine am_goto (tgt := 5) X dX4_inherit_163 (by decide) ?_
                        refine am_fg [true, true, true, true, true, false, false] rfl (L' := [some (vr 16), some (vi p), some (vi q), some (vi (s + 1)), some (vi ((k : Int) + 1)), none, none]) rfl ?_
                        refine am_sg (led_inh p q (k + 1) σ) (by symm; show am_it _ (k + 1) σ = _; rw [am_it_succ]; show led_inh1 p q k (led_inh p q k σ) = _; unfold led_inh1; (repeat' split) <;> first | rfl | (exfalso; omega)) ?_
                        exact ih5 _ (by omega) (k + 1) _ (by omega) (by (try subst s); (try simp only [hs]); show _ = am_sum (led_moved σ p q) k + led_moved σ p q k; unfold led_moved; (repeat' split) <;> omega) rfl
                    · skip
                      refine am_iload_n (x := q) X (by rfl) dX4_inherit_122 ?_
                      refine am_goto (tgt := 133) X dX4_inherit_123 (by decide) ?_
                      refine am_ast X 17 k sh_17 (by omega) (by omega) dX4_inherit_133 ?_
                      refine am_aload_n (x := 16) X (by rfl) dX4_inherit_134 ?_
                      refine am_getr (c1 := 18) X 16 fl_X4_15 (by decide) sh_16 (by decide) (by rfl) dX4_inherit_135 ?_
                      refine am_iload (x := (k : Int)) X (by rfl) dX4_inherit_138 ?_
                      refine am_iload (x := 0) X (by rfl) dX4_inherit_140 ?_
                      refine am_if_eq (tgt := 149) X dX4_inherit_142 (by decide) (fun h142 => ?_) (fun h142 => ?_)
                      · skip
                        refine am_aload_n (x := 16) X (by rfl) dX4_inherit_149 ?_
                        refine am_getr (c1 := 18) X 16 fl_X4_15 (by decide) sh_16 (by decide) (by rfl) dX4_inherit_150 ?_
                        refine am_iload (x := (k : Int)) X (by rfl) dX4_inherit_153 ?_
                        refine am_ald (v := (led_inh p q k σ) 18 k) X 18 k sh_18 (by omega) (by omega) (by simp [am_up]) dX4_inherit_155 ?_
                        refine am_ast X 18 k sh_18 (by omega) (by omega) dX4_inherit_156 ?_
                        refine am_inc (x := s) (v := (s + 1)) (L' := [some (vr 16), some (vi p), some (vi q), some (vi (s + 1)), some (vi (k : Int)), some (vi 0), some (vi 0)]) X (by rfl) (by omega) (by omega) (by rfl) dX4_inherit_157 ?_
                        refine am_inc (x := (k : Int)) (v := ((k : Int) + 1)) (L' := [some (vr 16), some (vi p), some (vi q), some (vi (s + 1)), some (vi ((k : Int) + 1)), some (vi 0), some (vi 0)]) X (by rfl) (by omega) (by omega) (by rfl) dX4_inherit_160 ?_
                        refine am_goto (tgt := 5) X dX4_inherit_163 (by decide) ?_
                        refine am_fg [true, true, true, true, true, false, false] rfl (L' := [some (vr 16), some (vi p), some (vi q), some (vi (s + 1)), some (vi ((k : Int) + 1)), none, none]) rfl ?_
                        refine am_sg (led_inh p q (k + 1) σ) (by symm; show am_it _ (k + 1) σ = _; rw [am_it_succ]; show led_inh1 p q k (led_inh p q k σ) = _; unfold led_inh1; (repeat' split) <;> first | rfl | (exfalso; omega)) ?_
                        exact ih5 _ (by omega) (k + 1) _ (by omega) (by (try subst s); (try simp only [hs]); show _ = am_sum (led_moved σ p q) k + led_moved σ p q k; unfold led_moved; (repeat' split) <;> omega) rfl
                      · skip
                        refine am_iload_n (x := q) X (by rfl) dX4_inherit_145 ?_
                        refine am_goto (tgt := 156) X dX4_inherit_146 (by decide) ?_
                        refine am_ast X 18 k sh_18 (by omega) (by omega) dX4_inherit_156 ?_
                        refine am_inc (x := s) (v := (s + 1)) (L' := [some (vr 16), some (vi p), some (vi q), some (vi (s + 1)), some (vi (k : Int)), some (vi 0), some (vi 0)]) X (by rfl) (by omega) (by omega) (by rfl) dX4_inherit_157 ?_
                        refine am_inc (x := (k : Int)) (v := ((k : Int) + 1)) (L' := [some (vr 16), some (vi p), some (vi q), some (vi (s + 1)), some (vi ((k : Int) + 1)), some (vi 0), some (vi 0)]) X (by rfl) (by omega) (by omega) (by rfl) dX4_inherit_160 ?_
                        refine am_goto (tgt := 5) X dX4_inherit_163 (by decide) ?_
                        refine am_fg [true, true, true, true, true, false, false] rfl (L' := [some (vr 16), some (vi p), some (vi q), some (vi (s + 1)), some (vi ((k : Int) + 1)), none, none]) rfl ?_
                        refine am_sg (led_inh p q (k + 1) σ) (by symm; show am_it _ (k + 1) σ = _; rw [am_it_succ]; show led_inh1 p q k (led_inh p q k σ) = _; unfold led_inh1; (repeat' split) <;> first | rfl | (exfalso; omega)) ?_
                        exact ih5 _ (by omega) (k + 1) _ (by omega) (by (try subst s); (try simp only [hs]); show _ = am_sum (led_moved σ p q) k + led_moved σ p q k; unfold led_moved; (repeat' split) <;> omega) rfl
                  · skip
                    refine am_aload_n (x := 16) X (by rfl) dX4_inherit_95 ?_
                    refine am_iload (x := (k : Int)) X (by rfl) dX4_inherit_96 ?_
                    refine am_aload_n (x := 16) X (by rfl) dX4_inherit_98 ?_
                    refine am_getr (c1 := 19) X 16 fl_X4_18 (by decide) sh_16 (by decide) (by rfl) dX4_inherit_99 ?_
                    refine am_iload (x := (k : Int)) X (by rfl) dX4_inherit_102 ?_
                    refine am_ald (v := (led_inh p q k σ) 19 k) X 19 k sh_19 (by omega) (by omega) (rfl) dX4_inherit_104 ?_
                    refine am_callVv (ci := 4) X hY lk_X4_45 mf_X4_lessen (m_X4_lessen (k : Int) k (by omega) (by omega) ((led_inh p q k σ) 19 k) (led_inh p q k σ) (by omega)) (by decide) (by decide) (Nat.le_refl _) (Nat.le_refl _) sh_16 rfl rfl rfl (Nat.le_of_ble_eq_true rfl) dX4_inherit_105 (fun sh105 σ105 hp105 => ?_)
                    obtain ⟨rfl, rfl, hq105⟩ := hp105
                    refine am_goto (tgt := 160) X dX4_inherit_108 (by decide) ?_
                    refine am_inc (x := (k : Int)) (v := ((k : Int) + 1)) (L' := [some (vr 16), some (vi p), some (vi q), some (vi s), some (vi ((k : Int) + 1)), some (vi 0), some (vi 0)]) X (by rfl) (by omega) (by omega) (by rfl) dX4_inherit_160 ?_
                    refine am_goto (tgt := 5) X dX4_inherit_163 (by decide) ?_
                    refine am_fg [true, true, true, true, true, false, false] rfl (L' := [some (vr 16), some (vi p), some (vi q), some (vi s), some (vi ((k : Int) + 1)), none, none]) rfl ?_
                    refine am_sg (led_inh p q (k + 1) σ) (by symm; show am_it _ (k + 1) σ = _; rw [am_it_succ]; show led_inh1 p q k (led_inh p q k σ) = _; unfold led_inh1; (repeat' split) <;> first | rfl | (exfalso; omega)) ?_
                    exact ih5 _ (by omega) (k + 1) _ (by omega) (by (try subst s); (try simp only [hs]); show _ = am_sum (led_moved σ p q) k + led_moved σ p q k; unfold led_moved; (repeat' split) <;> omega) rfl
        · skip
          refine am_ic X (by decide) dX4_inherit_43 ?_
          refine am_goto (tgt := 48) X dX4_inherit_44 (by decide) ?_
          refine am_istore (i := 6) (L' := [some (vr 16), some (vi p), some (vi q), some (vi s), some (vi (k : Int)), some (vi 0), some (vi 1)]) X (Nat.le_of_ble_eq_true rfl) (by rfl) dX4_inherit_48 ?_
          refine am_aload_n (x := 16) X (by rfl) dX4_inherit_50 ?_
          refine am_iload (x := (k : Int)) X (by rfl) dX4_inherit_51 ?_
          refine am_callVi (ci := 4) X hY lk_X4_49 mf_X4_isOpen (m_X4_isOpen (k : Int) k rfl (led_inh p q k σ) (by rw [e1]; exact hc)) (by decide) (by decide) (Nat.le_refl _) (Nat.le_refl _) sh_16 rfl rfl rfl (Nat.le_of_ble_eq_true rfl) dX4_inherit_53 (fun r53 sh53 σ53 hr53 hp53 => ?_)
          obtain ⟨rfl, rfl, hq53⟩ := hp53
          refine am_if_eq (tgt := 160) X dX4_inherit_56 (by decide) (fun h56 => ?_) (fun h56 => ?_)
          · skip
            refine am_inc (x := (k : Int)) (v := ((k : Int) + 1)) (L' := [some (vr 16), some (vi p), some (vi q), some (vi s), some (vi ((k : Int) + 1)), some (vi 0), some (vi 1)]) X (by rfl) (by omega) (by omega) (by rfl) dX4_inherit_160 ?_
            refine am_goto (tgt := 5) X dX4_inherit_163 (by decide) ?_
            refine am_fg [true, true, true, true, true, false, false] rfl (L' := [some (vr 16), some (vi p), some (vi q), some (vi s), some (vi ((k : Int) + 1)), none, none]) rfl ?_
            refine am_sg (led_inh p q (k + 1) σ) (by symm; show am_it _ (k + 1) σ = _; rw [am_it_succ]; show led_inh1 p q k (led_inh p q k σ) = _; unfold led_inh1; (repeat' split) <;> first | rfl | (exfalso; omega)) ?_
            exact ih5 _ (by omega) (k + 1) _ (by omega) (by (try subst s); (try simp only [hs]); show _ = am_sum (led_moved σ p q) k + led_moved σ p q k; unfold led_moved; (repeat' split) <;> omega) rfl
          · skip
            refine am_iload (x := 0) X (by rfl) dX4_inherit_59 ?_
            refine am_if_ne (tgt := 69) X dX4_inherit_61 (by decide) (fun h61 => ?_) (fun h61 => ?_)
            · skip
              refine am_iload (x := 0) X (by rfl) dX4_inherit_69 ?_
              refine am_if_eq (tgt := 84) X dX4_inherit_71 (by decide) (fun h71 => ?_) (fun h71 => ?_)
              · skip
                refine am_aload_n (x := 16) X (by rfl) dX4_inherit_84 ?_
                refine am_getr (c1 := 17) X 16 fl_X4_9 (by decide) sh_16 (by decide) (by rfl) dX4_inherit_85 ?_
                refine am_iload (x := (k : Int)) X (by rfl) dX4_inherit_88 ?_
                refine am_ald (v := (led_inh p q k σ) 17 k) X 17 k sh_17 (by omega) (by omega) (rfl) dX4_inherit_90 ?_
                refine am_iload_n (x := q) X (by rfl) dX4_inherit_91 ?_
                refine am_icmp_ne (tgt := 111) X dX4_inherit_92 (by decide) (fun h92 => ?_) (fun h92 => ?_)
                · skip
                  refine am_aload_n (x := 16) X (by rfl) dX4_inherit_111 ?_
                  refine am_getr (c1 := 17) X 16 fl_X4_9 (by decide) sh_16 (by decide) (by rfl) dX4_inherit_112 ?_
                  refine am_iload (x := (k : Int)) X (by rfl) dX4_inherit_115 ?_
                  refine am_iload (x := 0) X (by rfl) dX4_inherit_117 ?_
                  refine am_if_eq (tgt := 126) X dX4_inherit_119 (by decide) (fun h119 => ?_) (fun h119 => ?_)
                  · skip
                    refine am_aload_n (x := 16) X (by rfl) dX4_inherit_126 ?_
                    refine am_getr (c1 := 17) X 16 fl_X4_9 (by decide) sh_16 (by decide) (by rfl) dX4_inherit_127 ?_
                    refine am_iload (x := (k : Int)) X (by rfl) dX4_inherit_130 ?_
                    refine am_ald (v := (led_inh p q k σ) 17 k) X 17 k sh_17 (by omega) (by omega) (rfl) dX4_inherit_132 ?_
                    refine am_ast X 17 k sh_17 (by omega) (by omega) dX4_inherit_133 ?_
                    refine am_aload_n (x := 16) X (by rfl) dX4_inherit_134 ?_
                    refine am_getr (c1 := 18) X 16 fl_X4_15 (by decide) sh_16 (by decide) (by rfl) dX4_inherit_135 ?_
                    refine am_iload (x := (k : Int)) X (by rfl) dX4_inherit_138 ?_
                    refine am_iload (x := 1) X (by rfl) dX4_inherit_140 ?_
                    refine am_if_eq (tgt := 149) X dX4_inherit_142 (by decide) (fun h142 => ?_) (fun h142 => ?_)
                    · skip
                      refine am_aload_n (x := 16) X (by rfl) dX4_inherit_149 ?_
                      refine am_getr (c1 := 18) X 16 fl_X4_15 (by decide) sh_16 (by decide) (by rfl) dX4_inherit_150 ?_
                      refine am_iload (x := (k : Int)) X (by rfl) dX4_inherit_153 ?_
                      refine am_ald (v := (led_inh p q k σ) 18 k) X 18 k sh_18 (by omega) (by omega) (by simp [am_up]) dX4_inherit_155 ?_
                      refine am_ast X 18 k sh_18 (by omega) (by omega) dX4_inherit_156 ?_
                      refine am_inc (x := s) (v := (s + 1)) (L' := [some (vr 16), some (vi p), some (vi q), some (vi (s + 1)), some (vi (k : Int)), some (vi 0), some (vi 1)]) X (by rfl) (by omega) (by omega) (by rfl) dX4_inherit_157 ?_
                      refine am_inc (x := (k : Int)) (v := ((k : Int) + 1)) (L' := [some (vr 16), some (vi p), some (vi q), some (vi (s + 1)), some (vi ((k : Int) + 1)), some (vi 0), some (vi 1)]) X (by rfl) (by omega) (by omega) (by rfl) dX4_inherit_160 ?_
                      refine am_goto (tgt := 5) X dX4_inherit_163 (by decide) ?_
                      refine am_fg [true, true, true, true, true, false, false] rfl (L' := [some (vr 16), some (vi p), some (vi q), some (vi (s + 1)), some (vi ((k : Int) + 1)), none, none]) rfl ?_
                      refine am_sg (led_inh p q (k + 1) σ) (by symm; show am_it _ (k + 1) σ = _; rw [am_it_succ]; show led_inh1 p q k (led_inh p q k σ) = _; unfold led_inh1; (repeat' split) <;> first | rfl | (exfalso; omega)) ?_
                      exact ih5 _ (by omega) (k + 1) _ (by omega) (by (try subst s); (try simp only [hs]); show _ = am_sum (led_moved σ p q) k + led_moved σ p q k; unfold led_moved; (repeat' split) <;> omega) rfl
                    · skip
                      refine am_iload_n (x := q) X (by rfl) dX4_inherit_145 ?_
                      refine am_goto (tgt := 156) X dX4_inherit_146 (by decide) ?_
                      refine am_ast X 18 k sh_18 (by omega) (by omega) dX4_inherit_156 ?_
                      refine am_inc (x := s) (v := (s + 1)) (L' := [some (vr 16), some (vi p), some (vi q), some (vi (s + 1)), some (vi (k : Int)), some (vi 0), some (vi 1)]) X (by rfl) (by omega) (by omega) (by rfl) dX4_inherit_157 ?_
                      refine am_inc (x := (k : Int)) (v := ((k : Int) + 1)) (L' := [some (vr 16), some (vi p), some (vi q), some (vi (s + 1)), some (vi ((k : Int) + 1)), some (vi 0), some (vi 1)]) X (by rfl) (by omega) (by omega) (by rfl) dX4_inherit_160 ?_
                      refine am_goto (tgt := 5) X dX4_inherit_163 (by decide) ?_
                      refine am_fg [true, true, true, true, true, false, false] rfl (L' := [some (vr 16), some (vi p), some (vi q), some (vi (s + 1)), some (vi ((k : Int) + 1)), none, none]) rfl ?_
                      refine am_sg (led_inh p q (k + 1) σ) (by symm; show am_it _ (k + 1) σ = _; rw [am_it_succ]; show led_inh1 p q k (led_inh p q k σ) = _; unfold led_inh1; (repeat' split) <;> first | rfl | (exfalso; omega)) ?_
                      exact ih5 _ (by omega) (k + 1) _ (by omega) (by (try subst s); (try simp only [hs]); show _ = am_sum (led_moved σ p q) k + led_moved σ p q k; unfold led_moved; (repeat' split) <;> omega) rfl
                  · skip
                    refine am_iload_n (x := q) X (by rfl) dX4_inherit_122 ?_
                    refine am_goto (tgt := 133) X dX4_inherit_123 (by decide) ?_
                    refine am_ast X 17 k sh_17 (by omega) (by omega) dX4_inherit_133 ?_
                    refine am_aload_n (x := 16) X (by rfl) dX4_inherit_134 ?_
                    refine am_getr (c1 := 18) X 16 fl_X4_15 (by decide) sh_16 (by decide) (by rfl) dX4_inherit_135 ?_
                    refine am_iload (x := (k : Int)) X (by rfl) dX4_inherit_138 ?_
                    refine am_iload (x := 1) X (by rfl) dX4_inherit_140 ?_
                    refine am_if_eq (tgt := 149) X dX4_inherit_142 (by decide) (fun h142 => ?_) (fun h142 => ?_)
                    · skip
                      refine am_aload_n (x := 16) X (by rfl) dX4_inherit_149 ?_
                      refine am_getr (c1 := 18) X 16 fl_X4_15 (by decide) sh_16 (by decide) (by rfl) dX4_inherit_150 ?_
                      refine am_iload (x := (k : Int)) X (by rfl) dX4_inherit_153 ?_
                      refine am_ald (v := (led_inh p q k σ) 18 k) X 18 k sh_18 (by omega) (by omega) (by simp [am_up]) dX4_inherit_155 ?_
                      refine am_ast X 18 k sh_18 (by omega) (by omega) dX4_inherit_156 ?_
                      refine am_inc (x := s) (v := (s + 1)) (L' := [some (vr 16), some (vi p), some (vi q), some (vi (s + 1)), some (vi (k : Int)), some (vi 0), some (vi 1)]) X (by rfl) (by omega) (by omega) (by rfl) dX4_inherit_157 ?_
                      refine am_inc (x := (k : Int)) (v := ((k : Int) + 1)) (L' := [some (vr 16), some (vi p), some (vi q), some (vi (s + 1)), some (vi ((k : Int) + 1)), some (vi 0), some (vi 1)]) X (by rfl) (by omega) (by omega) (by rfl) dX4_inherit_160 ?_
                      refine am_goto (tgt := 5) X dX4_inherit_163 (by decide) ?_
                      refine am_fg [true, true, true, true, true, false, false] rfl (L' := [some (vr 16), some (vi p), some (vi q), some (vi (s + 1)), some (vi ((k : Int) + 1)), none, none]) rfl ?_
                      refine am_sg (led_inh p q (k + 1) σ) (by symm; show am_it _ (k + 1) σ = _; rw [am_it_succ]; show led_inh1 p q k (led_inh p q k σ) = _; unfold led_inh1; (repeat' split) <;> first | rfl | (exfalso; omega)) ?_
                      exact ih5 _ (by omega) (k + 1) _ (by omega) (by (try subst s); (try simp only [hs]); show _ = am_sum (led_moved σ p q) k + led_moved σ p q k; unfold led_moved; (repeat' split) <;> omega) rfl
                    · skip
                      refine am_iload_n (x := q) X (by rfl) dX4_inherit_145 ?_
                      refine am_goto (tgt := 156) X dX4_inherit_146 (by decide) ?_
                      refine am_ast X 18 k sh_18 (by omega) (by omega) dX4_inherit_156 ?_
                      refine am_inc (x := s) (v := (s + 1)) (L' := [some (vr 16), some (vi p), some (vi q), some (vi (s + 1)), some (vi (k : Int)), some (vi 0), some (vi 1)]) X (by rfl) (by omega) (by omega) (by rfl) dX4_inherit_157 ?_
                      refine am_inc (x := (k : Int)) (v := ((k : Int) + 1)) (L' := [some (vr 16), some (vi p), some (vi q), some (vi (s + 1)), some (vi ((k : Int) + 1)), some (vi 0), some (vi 1)]) X (by rfl) (by omega) (by omega) (by rfl) dX4_inherit_160 ?_
                      refine am_goto (tgt := 5) X dX4_inherit_163 (by decide) ?_
                      refine am_fg [true, true, true, true, true, false, false] rfl (L' := [some (vr 16), some (vi p), some (vi q), some (vi (s + 1)), some (vi ((k : Int) + 1)), none, none]) rfl ?_
                      refine am_sg (led_inh p q (k + 1) σ) (by symm; show am_it _ (k + 1) σ = _; rw [am_it_succ]; show led_inh1 p q k (led_inh p q k σ) = _; unfold led_inh1; (repeat' split) <;> first | rfl | (exfalso; omega)) ?_
                      exact ih5 _ (by omega) (k + 1) _ (by omega) (by (try subst s); (try simp only [hs]); show _ = am_sum (led_moved σ p q) k + led_moved σ p q k; unfold led_moved; (repeat' split) <;> omega) rfl
                · skip
                  refine am_aload_n (x := 16) X (by rfl) dX4_inherit_95 ?_
                  refine am_iload (x := (k : Int)) X (by rfl) dX4_inherit_96 ?_
                  refine am_aload_n (x := 16) X (by rfl) dX4_inherit_98 ?_
                  refine am_getr (c1 := 19) X 16 fl_X4_18 (by decide) sh_16 (by decide) (by rfl) dX4_inherit_99 ?_
                  refine am_iload (x := (k : Int)) X (by rfl) dX4_inherit_102 ?_
                  refine am_ald (v := (led_inh p q k σ) 19 k) X 19 k sh_19 (by omega) (by omega) (rfl) dX4_inherit_104 ?_
                  refine am_callVv (ci := 4) X hY lk_X4_45 mf_X4_lessen (m_X4_lessen (k : Int) k (by omega) (by omega) ((led_inh p q k σ) 19 k) (led_inh p q k σ) (by omega)) (by decide) (by decide) (Nat.le_refl _) (Nat.le_refl _) sh_16 rfl rfl rfl (Nat.le_of_ble_eq_true rfl) dX4_inherit_105 (fun sh105 σ105 hp105 => ?_)
                  obtain ⟨rfl, rfl, hq105⟩ := hp105
                  refine am_goto (tgt := 160) X dX4_inherit_108 (by decide) ?_
                  refine am_inc (x := (k : Int)) (v := ((k : Int) + 1)) (L' := [some (vr 16), some (vi p), some (vi q), some (vi s), some (vi ((k : Int) + 1)), some (vi 0), some (vi 1)]) X (by rfl) (by omega) (by omega) (by rfl) dX4_inherit_160 ?_
                  refine am_goto (tgt := 5) X dX4_inherit_163 (by decide) ?_
                  refine am_fg [true, true, true, true, true, false, false] rfl (L' := [some (vr 16), some (vi p), some (vi q), some (vi s), some (vi ((k : Int) + 1)), none, none]) rfl ?_
                  refine am_sg (led_inh p q (k + 1) σ) (by symm; show am_it _ (k + 1) σ = _; rw [am_it_succ]; show led_inh1 p q k (led_inh p q k σ) = _; unfold led_inh1; (repeat' split) <;> first | rfl | (exfalso; omega)) ?_
                  exact ih5 _ (by omega) (k + 1) _ (by omega) (by (try subst s); (try simp only [hs]); show _ = am_sum (led_moved σ p q) k + led_moved σ p q k; unfold led_moved; (repeat' split) <;> omega) rfl
              · skip
                refine am_aload_n (x := 16) X (by rfl) dX4_inherit_74 ?_
                refine am_getr (c1 := 18) X 16 fl_X4_15 (by decide) sh_16 (by decide) (by rfl) dX4_inherit_75 ?_
                refine am_iload (x := (k : Int)) X (by rfl) dX4_inherit_78 ?_
                refine am_ald (v := (led_inh p q k σ) 18 k) X 18 k sh_18 (by omega) (by omega) (rfl) dX4_inherit_80 ?_
                refine am_goto (tgt := 91) X dX4_inherit_81 (by decide) ?_
                refine am_iload_n (x := q) X (by rfl) dX4_inherit_91 ?_
                refine am_icmp_ne (tgt := 111) X dX4_inherit_92 (by decide) (fun h92 => ?_) (fun h92 => ?_)
                · skip
                  refine am_aload_n (x := 16) X (by rfl) dX4_inherit_111 ?_
                  refine am_getr (c1 := 17) X 16 fl_X4_9 (by decide) sh_16 (by decide) (by rfl) dX4_inherit_112 ?_
                  refine am_iload (x := (k : Int)) X (by rfl) dX4_inherit_115 ?_
                  refine am_iload (x := 0) X (by rfl) dX4_inherit_117 ?_
                  refine am_if_eq (tgt := 126) X dX4_inherit_119 (by decide) (fun h119 => ?_) (fun h119 => ?_)
                  · skip
                    refine am_aload_n (x := 16) X (by rfl) dX4_inherit_126 ?_
                    refine am_getr (c1 := 17) X 16 fl_X4_9 (by decide) sh_16 (by decide) (by rfl) dX4_inherit_127 ?_
                    refine am_iload (x := (k : Int)) X (by rfl) dX4_inherit_130 ?_
                    refine am_ald (v := (led_inh p q k σ) 17 k) X 17 k sh_17 (by omega) (by omega) (rfl) dX4_inherit_132 ?_
                    refine am_ast X 17 k sh_17 (by omega) (by omega) dX4_inherit_133 ?_
                    refine am_aload_n (x := 16) X (by rfl) dX4_inherit_134 ?_
                    refine am_getr (c1 := 18) X 16 fl_X4_15 (by decide) sh_16 (by decide) (by rfl) dX4_inherit_135 ?_
                    refine am_iload (x := (k : Int)) X (by rfl) dX4_inherit_138 ?_
                    refine am_iload (x := 1) X (by rfl) dX4_inherit_140 ?_
                    refine am_if_eq (tgt := 149) X dX4_inherit_142 (by decide) (fun h142 => ?_) (fun h142 => ?_)
                    · skip
                      refine am_aload_n (x := 16) X (by rfl) dX4_inherit_149 ?_
                      refine am_getr (c1 := 18) X 16 fl_X4_15 (by decide) sh_16 (by decide) (by rfl) dX4_inherit_150 ?_
                      refine am_iload (x := (k : Int)) X (by rfl) dX4_inherit_153 ?_
                      refine am_ald (v := (led_inh p q k σ) 18 k) X 18 k sh_18 (by omega) (by omega) (by simp [am_up]) dX4_inherit_155 ?_
                      refine am_ast X 18 k sh_18 (by omega) (by omega) dX4_inherit_156 ?_
                      refine am_inc (x := s) (v := (s + 1)) (L' := [some (vr 16), some (vi p), some (vi q), some (vi (s + 1)), some (vi (k : Int)), some (vi 0), some (vi 1)]) X (by rfl) (by omega) (by omega) (by rfl) dX4_inherit_157 ?_
                      refine am_inc (x := (k : Int)) (v := ((k : Int) + 1)) (L' := [some (vr 16), some (vi p), some (vi q), some (vi (s + 1)), some (vi ((k : Int) + 1)), some (vi 0), some (vi 1)]) X (by rfl) (by omega) (by omega) (by rfl) dX4_inherit_160 ?_
                      refine am_goto (tgt := 5) X dX4_inherit_163 (by decide) ?_
                      refine am_fg [true, true, true, true, true, false, false] rfl (L' := [some (vr 16), some (vi p), some (vi q), some (vi (s + 1)), some (vi ((k : Int) + 1)), none, none]) rfl ?_
                      refine am_sg (led_inh p q (k + 1) σ) (by symm; show am_it _ (k + 1) σ = _; rw [am_it_succ]; show led_inh1 p q k (led_inh p q k σ) = _; unfold led_inh1; (repeat' split) <;> first | rfl | (exfalso; omega)) ?_
                      exact ih5 _ (by omega) (k + 1) _ (by omega) (by (try subst s); (try simp only [hs]); show _ = am_sum (led_moved σ p q) k + led_moved σ p q k; unfold led_moved; (repeat' split) <;> omega) rfl
                    · skip
                      refine am_iload_n (x := q) X (by rfl) dX4_inherit_145 ?_
                      refine am_goto (tgt := 156) X dX4_inherit_146 (by decide) ?_
                      refine am_ast X 18 k sh_18 (by omega) (by omega) dX4_inherit_156 ?_
                      refine am_inc (x := s) (v := (s + 1)) (L' := [some (vr 16), some (vi p), some (vi q), some (vi (s + 1)), some (vi (k : Int)), some (vi 0), some (vi 1)]) X (by rfl) (by omega) (by omega) (by rfl) dX4_inherit_157 ?_
                      refine am_inc (x := (k : Int)) (v := ((k : Int) + 1)) (L' := [some (vr 16), some (vi p), some (vi q), some (vi (s + 1)), some (vi ((k : Int) + 1)), some (vi 0), some (vi 1)]) X (by rfl) (by omega) (by omega) (by rfl) dX4_inherit_160 ?_
                      refine am_goto (tgt := 5) X dX4_inherit_163 (by decide) ?_
                      refine am_fg [true, true, true, true, true, false, false] rfl (L' := [some (vr 16), some (vi p), some (vi q), some (vi (s + 1)), some (vi ((k : Int) + 1)), none, none]) rfl ?_
                      refine am_sg (led_inh p q (k + 1) σ) (by symm; show am_it _ (k + 1) σ = _; rw [am_it_succ]; show led_inh1 p q k (led_inh p q k σ) = _; unfold led_inh1; (repeat' split) <;> first | rfl | (exfalso; omega)) ?_
                      exact ih5 _ (by omega) (k + 1) _ (by omega) (by (try subst s); (try simp only [hs]); show _ = am_sum (led_moved σ p q) k + led_moved σ p q k; unfold led_moved; (repeat' split) <;> omega) rfl
                  · skip
                    refine am_iload_n (x := q) X (by rfl) dX4_inherit_122 ?_
                    refine am_goto (tgt := 133) X dX4_inherit_123 (by decide) ?_
                    refine am_ast X 17 k sh_17 (by omega) (by omega) dX4_inherit_133 ?_
                    refine am_aload_n (x := 16) X (by rfl) dX4_inherit_134 ?_
                    refine am_getr (c1 := 18) X 16 fl_X4_15 (by decide) sh_16 (by decide) (by rfl) dX4_inherit_135 ?_
                    refine am_iload (x := (k : Int)) X (by rfl) dX4_inherit_138 ?_
                    refine am_iload (x := 1) X (by rfl) dX4_inherit_140 ?_
                    refine am_if_eq (tgt := 149) X dX4_inherit_142 (by decide) (fun h142 => ?_) (fun h142 => ?_)
                    · skip
                      refine am_aload_n (x := 16) X (by rfl) dX4_inherit_149 ?_
                      refine am_getr (c1 := 18) X 16 fl_X4_15 (by decide) sh_16 (by decide) (by rfl) dX4_inherit_150 ?_
                      refine am_iload (x := (k : Int)) X (by rfl) dX4_inherit_153 ?_
                      refine am_ald (v := (led_inh p q k σ) 18 k) X 18 k sh_18 (by omega) (by omega) (by simp [am_up]) dX4_inherit_155 ?_
                      refine am_ast X 18 k sh_18 (by omega) (by omega) dX4_inherit_156 ?_
                      refine am_inc (x := s) (v := (s + 1)) (L' := [some (vr 16), some (vi p), some (vi q), some (vi (s + 1)), some (vi (k : Int)), some (vi 0), some (vi 1)]) X (by rfl) (by omega) (by omega) (by rfl) dX4_inherit_157 ?_
                      refine am_inc (x := (k : Int)) (v := ((k : Int) + 1)) (L' := [some (vr 16), some (vi p), some (vi q), some (vi (s + 1)), some (vi ((k : Int) + 1)), some (vi 0), some (vi 1)]) X (by rfl) (by omega) (by omega) (by rfl) dX4_inherit_160 ?_
                      refine am_goto (tgt := 5) X dX4_inherit_163 (by decide) ?_
                      refine am_fg [true, true, true, true, true, false, false] rfl (L' := [some (vr 16), some (vi p), some (vi q), some (vi (s + 1)), some (vi ((k : Int) + 1)), none, none]) rfl ?_
                      refine am_sg (led_inh p q (k + 1) σ) (by symm; show am_it _ (k + 1) σ = _; rw [am_it_succ]; show led_inh1 p q k (led_inh p q k σ) = _; unfold led_inh1; (repeat' split) <;> first | rfl | (exfalso; omega)) ?_
                      exact ih5 _ (by omega) (k + 1) _ (by omega) (by (try subst s); (try simp only [hs]); show _ = am_sum (led_moved σ p q) k + led_moved σ p q k; unfold led_moved; (repeat' split) <;> omega) rfl
                    · skip
                      refine am_iload_n (x := q) X (by rfl) dX4_inherit_145 ?_
                      refine am_goto (tgt := 156) X dX4_inherit_146 (by decide) ?_
                      refine am_ast X 18 k sh_18 (by omega) (by omega) dX4_inherit_156 ?_
                      refine am_inc (x := s) (v := (s + 1)) (L' := [some (vr 16), some (vi p), some (vi q), some (vi (s + 1)), some (vi (k : Int)), some (vi 0), some (vi 1)]) X (by rfl) (by omega) (by omega) (by rfl) dX4_inherit_157 ?_
                      refine am_inc (x := (k : Int)) (v := ((k : Int) + 1)) (L' := [some (vr 16), some (vi p), some (vi q), some (vi (s + 1)), some (vi ((k : Int) + 1)), some (vi 0), some (vi 1)]) X (by rfl) (by omega) (by omega) (by rfl) dX4_inherit_160 ?_
                      refine am_goto (tgt := 5) X dX4_inherit_163 (by decide) ?_
                      refine am_fg [true, true, true, true, true, false, false] rfl (L' := [some (vr 16), some (vi p), some (vi q), some (vi (s + 1)), some (vi ((k : Int) + 1)), none, none]) rfl ?_
                      refine am_sg (led_inh p q (k + 1) σ) (by symm; show am_it _ (k + 1) σ = _; rw [am_it_succ]; show led_inh1 p q k (led_inh p q k σ) = _; unfold led_inh1; (repeat' split) <;> first | rfl | (exfalso; omega)) ?_
                      exact ih5 _ (by omega) (k + 1) _ (by omega) (by (try subst s); (try simp only [hs]); show _ = am_sum (led_moved σ p q) k + led_moved σ p q k; unfold led_moved; (repeat' split) <;> omega) rfl
                · skip
                  refine am_aload_n (x := 16) X (by rfl) dX4_inherit_95 ?_
                  refine am_iload (x := (k : Int)) X (by rfl) dX4_inherit_96 ?_
                  refine am_aload_n (x := 16) X (by rfl) dX4_inherit_98 ?_
                  refine am_getr (c1 := 19) X 16 fl_X4_18 (by decide) sh_16 (by decide) (by rfl) dX4_inherit_99 ?_
                  refine am_iload (x := (k : Int)) X (by rfl) dX4_inherit_102 ?_
                  refine am_ald (v := (led_inh p q k σ) 19 k) X 19 k sh_19 (by omega) (by omega) (rfl) dX4_inherit_104 ?_
                  refine am_callVv (ci := 4) X hY lk_X4_45 mf_X4_lessen (m_X4_lessen (k : Int) k (by omega) (by omega) ((led_inh p q k σ) 19 k) (led_inh p q k σ) (by omega)) (by decide) (by decide) (Nat.le_refl _) (Nat.le_refl _) sh_16 rfl rfl rfl (Nat.le_of_ble_eq_true rfl) dX4_inherit_105 (fun sh105 σ105 hp105 => ?_)
                  obtain ⟨rfl, rfl, hq105⟩ := hp105
                  refine am_goto (tgt := 160) X dX4_inherit_108 (by decide) ?_
                  refine am_inc (x := (k : Int)) (v := ((k : Int) + 1)) (L' := [some (vr 16), some (vi p), some (vi q), some (vi s), some (vi ((k : Int) + 1)), some (vi 0), some (vi 1)]) X (by rfl) (by omega) (by omega) (by rfl) dX4_inherit_160 ?_
                  refine am_goto (tgt := 5) X dX4_inherit_163 (by decide) ?_
                  refine am_fg [true, true, true, true, true, false, false] rfl (L' := [some (vr 16), some (vi p), some (vi q), some (vi s), some (vi ((k : Int) + 1)), none, none]) rfl ?_
                  refine am_sg (led_inh p q (k + 1) σ) (by symm; show am_it _ (k + 1) σ = _; rw [am_it_succ]; show led_inh1 p q k (led_inh p q k σ) = _; unfold led_inh1; (repeat' split) <;> first | rfl | (exfalso; omega)) ?_
                  exact ih5 _ (by omega) (k + 1) _ (by omega) (by (try subst s); (try simp only [hs]); show _ = am_sum (led_moved σ p q) k + led_moved σ p q k; unfold led_moved; (repeat' split) <;> omega) rfl
            · skip
              refine am_iload (x := 1) X (by rfl) dX4_inherit_64 ?_
              refine am_if_eq (tgt := 160) X dX4_inherit_66 (by decide) (fun h66 => ?_) (fun h66 => ?_)
              · skip
                refine am_inc (x := (k : Int)) (v := ((k : Int) + 1)) (L' := [some (vr 16), some (vi p), some (vi q), some (vi s), some (vi ((k : Int) + 1)), some (vi 0), some (vi 1)]) X (by rfl) (by omega) (by omega) (by rfl) dX4_inherit_160 ?_
                refine am_goto (tgt := 5) X dX4_inherit_163 (by decide) ?_
                refine am_fg [true, true, true, true, true, false, false] rfl (L' := [some (vr 16), some (vi p), some (vi q), some (vi s), some (vi ((k : Int) + 1)), none, none]) rfl ?_
                refine am_sg (led_inh p q (k + 1) σ) (by symm; show am_it _ (k + 1) σ = _; rw [am_it_succ]; show led_inh1 p q k (led_inh p q k σ) = _; unfold led_inh1; (repeat' split) <;> first | rfl | (exfalso; omega)) ?_
                exact ih5 _ (by omega) (k + 1) _ (by omega) (by (try subst s); (try simp only [hs]); show _ = am_sum (led_moved σ p q) k + led_moved σ p q k; unfold led_moved; (repeat' split) <;> omega) rfl
              · skip
                refine am_iload (x := 0) X (by rfl) dX4_inherit_69 ?_
                refine am_if_eq (tgt := 84) X dX4_inherit_71 (by decide) (fun h71 => ?_) (fun h71 => ?_)
                · skip
                  refine am_aload_n (x := 16) X (by rfl) dX4_inherit_84 ?_
                  refine am_getr (c1 := 17) X 16 fl_X4_9 (by decide) sh_16 (by decide) (by rfl) dX4_inherit_85 ?_
                  refine am_iload (x := (k : Int)) X (by rfl) dX4_inherit_88 ?_
                  refine am_ald (v := (led_inh p q k σ) 17 k) X 17 k sh_17 (by omega) (by omega) (rfl) dX4_inherit_90 ?_
                  refine am_iload_n (x := q) X (by rfl) dX4_inherit_91 ?_
                  refine am_icmp_ne (tgt := 111) X dX4_inherit_92 (by decide) (fun h92 => ?_) (fun h92 => ?_)
                  · skip
                    refine am_aload_n (x := 16) X (by rfl) dX4_inherit_111 ?_
                    refine am_getr (c1 := 17) X 16 fl_X4_9 (by decide) sh_16 (by decide) (by rfl) dX4_inherit_112 ?_
                    refine am_iload (x := (k : Int)) X (by rfl) dX4_inherit_115 ?_
                    refine am_iload (x := 0) X (by rfl) dX4_inherit_117 ?_
                    refine am_if_eq (tgt := 126) X dX4_inherit_119 (by decide) (fun h119 => ?_) (fun h119 => ?_)
                    · skip
                      refine am_aload_n (x := 16) X (by rfl) dX4_inherit_126 ?_
                      refine am_getr (c1 := 17) X 16 fl_X4_9 (by decide) sh_16 (by decide) (by rfl) dX4_inherit_127 ?_
                      refine am_iload (x := (k : Int)) X (by rfl) dX4_inherit_130 ?_
                      refine am_ald (v := (led_inh p q k σ) 17 k) X 17 k sh_17 (by omega) (by omega) (rfl) dX4_inherit_132 ?_
                      refine am_ast X 17 k sh_17 (by omega) (by omega) dX4_inherit_133 ?_
                      refine am_aload_n (x := 16) X (by rfl) dX4_inherit_134 ?_
                      refine am_getr (c1 := 18) X 16 fl_X4_15 (by decide) sh_16 (by decide) (by rfl) dX4_inherit_135 ?_
                      refine am_iload (x := (k : Int)) X (by rfl) dX4_inherit_138 ?_
                      refine am_iload (x := 1) X (by rfl) dX4_inherit_140 ?_
                      refine am_if_eq (tgt := 149) X dX4_inherit_142 (by decide) (fun h142 => ?_) (fun h142 => ?_)
                      · skip
                        refine am_aload_n (x := 16) X (by rfl) dX4_inherit_149 ?_
                        refine am_getr (c1 := 18) X 16 fl_X4_15 (by decide) sh_16 (by decide) (by rfl) dX4_inherit_150 ?_
                        refine am_iload (x := (k : Int)) X (by rfl) dX4_inherit_153 ?_
                        refine am_ald (v := (led_inh p q k σ) 18 k) X 18 k sh_18 (by omega) (by omega) (by simp [am_up]) dX4_inherit_155 ?_
                        refine am_ast X 18 k sh_18 (by omega) (by omega) dX4_inherit_156 ?_
                        refine am_inc (x := s) (v := (s + 1)) (L' := [some (vr 16), some (vi p), some (vi q), some (vi (s + 1)), some (vi (k : Int)), some (vi 0), some (vi 1)]) X (by rfl) (by omega) (by omega) (by rfl) dX4_inherit_157 ?_
                        refine am_inc (x := (k : Int)) (v := ((k : Int) + 1)) (L' := [some (vr 16), some (vi p), some (vi q), some (vi (s + 1)), some (vi ((k : Int) + 1)), some (vi 0), some (vi 1)]) X (by rfl) (by omega) (by omega) (by rfl) dX4_inherit_160 ?_
                        refine am_goto (tgt := 5) X dX4_inherit_163 (by decide) ?_
                        refine am_fg [true, true, true, true, true, false, false] rfl (L' := [some (vr 16), some (vi p), some (vi q), some (vi (s + 1)), some (vi ((k : Int) + 1)), none, none]) rfl ?_
                        refine am_sg (led_inh p q (k + 1) σ) (by symm; show am_it _ (k + 1) σ = _; rw [am_it_succ]; show led_inh1 p q k (led_inh p q k σ) = _; unfold led_inh1; (repeat' split) <;> first | rfl | (exfalso; omega)) ?_
                        exact ih5 _ (by omega) (k + 1) _ (by omega) (by (try subst s); (try simp only [hs]); show _ = am_sum (led_moved σ p q) k + led_moved σ p q k; unfold led_moved; (repeat' split) <;> omega) rfl
                      · skip
                        refine am_iload_n (x := q) X (by rfl) dX4_inherit_145 ?_
                        refine am_goto (tgt := 156) X dX4_inherit_146 (by decide) ?_
                        refine am_ast X 18 k sh_18 (by omega) (by omega) dX4_inherit_156 ?_
                        refine am_inc (x := s) (v := (s + 1)) (L' := [some (vr 16), some (vi p), some (vi q), some (vi (s + 1)), some (vi (k : Int)), some (vi 0), some (vi 1)]) X (by rfl) (by omega) (by omega) (by rfl) dX4_inherit_157 ?_
                        refine am_inc (x := (k : Int)) (v := ((k : Int) + 1)) (L' := [some (vr 16), some (vi p), some (vi q), some (vi (s + 1)), some (vi ((k : Int) + 1)), some (vi 0), some (vi 1)]) X (by rfl) (by omega) (by omega) (by rfl) dX4_inherit_160 ?_
                        refine am_goto (tgt := 5) X dX4_inherit_163 (by decide) ?_
                        refine am_fg [true, true, true, true, true, false, false] rfl (L' := [some (vr 16), some (vi p), some (vi q), some (vi (s + 1)), some (vi ((k : Int) + 1)), none, none]) rfl ?_
                        refine am_sg (led_inh p q (k + 1) σ) (by symm; show am_it _ (k + 1) σ = _; rw [am_it_succ]; show led_inh1 p q k (led_inh p q k σ) = _; unfold led_inh1; (repeat' split) <;> first | rfl | (exfalso; omega)) ?_
                        exact ih5 _ (by omega) (k + 1) _ (by omega) (by (try subst s); (try simp only [hs]); show _ = am_sum (led_moved σ p q) k + led_moved σ p q k; unfold led_moved; (repeat' split) <;> omega) rfl
                    · skip
                      refine am_iload_n (x := q) X (by rfl) dX4_inherit_122 ?_
                      refine am_goto (tgt := 133) X dX4_inherit_123 (by decide) ?_
                      refine am_ast X 17 k sh_17 (by omega) (by omega) dX4_inherit_133 ?_
                      refine am_aload_n (x := 16) X (by rfl) dX4_inherit_134 ?_
                      refine am_getr (c1 := 18) X 16 fl_X4_15 (by decide) sh_16 (by decide) (by rfl) dX4_inherit_135 ?_
                      refine am_iload (x := (k : Int)) X (by rfl) dX4_inherit_138 ?_
                      refine am_iload (x := 1) X (by rfl) dX4_inherit_140 ?_
                      refine am_if_eq (tgt := 149) X dX4_inherit_142 (by decide) (fun h142 => ?_) (fun h142 => ?_)
                      · skip
                        refine am_aload_n (x := 16) X (by rfl) dX4_inherit_149 ?_
                        refine am_getr (c1 := 18) X 16 fl_X4_15 (by decide) sh_16 (by decide) (by rfl) dX4_inherit_150 ?_
                        refine am_iload (x := (k : Int)) X (by rfl) dX4_inherit_153 ?_
                        refine am_ald (v := (led_inh p q k σ) 18 k) X 18 k sh_18 (by omega) (by omega) (by simp [am_up]) dX4_inherit_155 ?_
                        refine am_ast X 18 k sh_18 (by omega) (by omega) dX4_inherit_156 ?_
                        refine am_inc (x := s) (v := (s + 1)) (L' := [some (vr 16), some (vi p), some (vi q), some (vi (s + 1)), some (vi (k : Int)), some (vi 0), some (vi 1)]) X (by rfl) (by omega) (by omega) (by rfl) dX4_inherit_157 ?_
                        refine am_inc (x := (k : Int)) (v := ((k : Int) + 1)) (L' := [some (vr 16), some (vi p), some (vi q), some (vi (s + 1)), some (vi ((k : Int) + 1)), some (vi 0), some (vi 1)]) X (by rfl) (by omega) (by omega) (by rfl) dX4_inherit_160 ?_
                        refine am_goto (tgt := 5) X dX4_inherit_163 (by decide) ?_
                        refine am_fg [true, true, true, true, true, false, false] rfl (L' := [some (vr 16), some (vi p), some (vi q), some (vi (s + 1)), some (vi ((k : Int) + 1)), none, none]) rfl ?_
                        refine am_sg (led_inh p q (k + 1) σ) (by symm; show am_it _ (k + 1) σ = _; rw [am_it_succ]; show led_inh1 p q k (led_inh p q k σ) = _; unfold led_inh1; (repeat' split) <;> first | rfl | (exfalso; omega)) ?_
                        exact ih5 _ (by omega) (k + 1) _ (by omega) (by (try subst s); (try simp only [hs]); show _ = am_sum (led_moved σ p q) k + led_moved σ p q k; unfold led_moved; (repeat' split) <;> omega) rfl
                      · skip
                        refine am_iload_n (x := q) X (by rfl) dX4_inherit_145 ?_
                        refine am_goto (tgt := 156) X dX4_inherit_146 (by decide) ?_
                        refine am_ast X 18 k sh_18 (by omega) (by omega) dX4_inherit_156 ?_
                        refine am_inc (x := s) (v := (s + 1)) (L' := [some (vr 16), some (vi p), some (vi q), some (vi (s + 1)), some (vi (k : Int)), some (vi 0), some (vi 1)]) X (by rfl) (by omega) (by omega) (by rfl) dX4_inherit_157 ?_
                        refine am_inc (x := (k : Int)) (v := ((k : Int) + 1)) (L' := [some (vr 16), some (vi p), some (vi q), some (vi (s + 1)), some (vi ((k : Int) + 1)), some (vi 0), some (vi 1)]) X (by rfl) (by omega) (by omega) (by rfl) dX4_inherit_160 ?_
                        refine am_goto (tgt := 5) X dX4_inherit_163 (by decide) ?_
                        refine am_fg [true, true, true, true, true, false, false] rfl (L' := [some (vr 16), some (vi p), some (vi q), some (vi (s + 1)), some (vi ((k : Int) + 1)), none, none]) rfl ?_
                        refine am_sg (led_inh p q (k + 1) σ) (by symm; show am_it _ (k + 1) σ = _; rw [am_it_succ]; show led_inh1 p q k (led_inh p q k σ) = _; unfold led_inh1; (repeat' split) <;> first | rfl | (exfalso; omega)) ?_
                        exact ih5 _ (by omega) (k + 1) _ (by omega) (by (try subst s); (try simp only [hs]); show _ = am_sum (led_moved σ p q) k + led_moved σ p q k; unfold led_moved; (repeat' split) <;> omega) rfl
                  · skip
                    refine am_aload_n (x := 16) X (by rfl) dX4_inherit_95 ?_
                    refine am_iload (x := (k : Int)) X (by rfl) dX4_inherit_96 ?_
                    refine am_aload_n (x := 16) X (by rfl) dX4_inherit_98 ?_
                    refine am_getr (c1 := 19) X 16 fl_X4_18 (by decide) sh_16 (by decide) (by rfl) dX4_inherit_99 ?_
                    refine am_iload (x := (k : Int)) X (by rfl) dX4_inherit_102 ?_
                    refine am_ald (v := (led_inh p q k σ) 19 k) X 19 k sh_19 (by omega) (by omega) (rfl) dX4_inherit_104 ?_
                    refine am_callVv (ci := 4) X hY lk_X4_45 mf_X4_lessen (m_X4_lessen (k : Int) k (by omega) (by omega) ((led_inh p q k σ) 19 k) (led_inh p q k σ) (by omega)) (by decide) (by decide) (Nat.le_refl _) (Nat.le_refl _) sh_16 rfl rfl rfl (Nat.le_of_ble_eq_true rfl) dX4_inherit_105 (fun sh105 σ105 hp105 => ?_)
                    obtain ⟨rfl, rfl, hq105⟩ := hp105
                    refine am_goto (tgt := 160) X dX4_inherit_108 (by decide) ?_
                    refine am_inc (x := (k : Int)) (v := ((k : Int) + 1)) (L' := [some (vr 16), some (vi p), some (vi q), some (vi s), some (vi ((k : Int) + 1)), some (vi 0), some (vi 1)]) X (by rfl) (by omega) (by omega) (by rfl) dX4_inherit_160 ?_
                    refine am_goto (tgt := 5) X dX4_inherit_163 (by decide) ?_
                    refine am_fg [true, true, true, true, true, false, false] rfl (L' := [some (vr 16), some (vi p), some (vi q), some (vi s), some (vi ((k : Int) + 1)), none, none]) rfl ?_
                    refine am_sg (led_inh p q (k + 1) σ) (by symm; show am_it _ (k + 1) σ = _; rw [am_it_succ]; show led_inh1 p q k (led_inh p q k σ) = _; unfold led_inh1; (repeat' split) <;> first | rfl | (exfalso; omega)) ?_
                    exact ih5 _ (by omega) (k + 1) _ (by omega) (by (try subst s); (try simp only [hs]); show _ = am_sum (led_moved σ p q) k + led_moved σ p q k; unfold led_moved; (repeat' split) <;> omega) rfl
                · skip
                  refine am_aload_n (x := 16) X (by rfl) dX4_inherit_74 ?_
                  refine am_getr (c1 := 18) X 16 fl_X4_15 (by decide) sh_16 (by decide) (by rfl) dX4_inherit_75 ?_
                  refine am_iload (x := (k : Int)) X (by rfl) dX4_inherit_78 ?_
                  refine am_ald (v := (led_inh p q k σ) 18 k) X 18 k sh_18 (by omega) (by omega) (rfl) dX4_inherit_80 ?_
                  refine am_goto (tgt := 91) X dX4_inherit_81 (by decide) ?_
                  refine am_iload_n (x := q) X (by rfl) dX4_inherit_91 ?_
                  refine am_icmp_ne (tgt := 111) X dX4_inherit_92 (by decide) (fun h92 => ?_) (fun h92 => ?_)
                  · skip
                    refine am_aload_n (x := 16) X (by rfl) dX4_inherit_111 ?_
                    refine am_getr (c1 := 17) X 16 fl_X4_9 (by decide) sh_16 (by decide) (by rfl) dX4_inherit_112 ?_
                    refine am_iload (x := (k : Int)) X (by rfl) dX4_inherit_115 ?_
                    refine am_iload (x := 0) X (by rfl) dX4_inherit_117 ?_
                    refine am_if_eq (tgt := 126) X dX4_inherit_119 (by decide) (fun h119 => ?_) (fun h119 => ?_)
                    · skip
                      refine am_aload_n (x := 16) X (by rfl) dX4_inherit_126 ?_
                      refine am_getr (c1 := 17) X 16 fl_X4_9 (by decide) sh_16 (by decide) (by rfl) dX4_inherit_127 ?_
                      refine am_iload (x := (k : Int)) X (by rfl) dX4_inherit_130 ?_
                      refine am_ald (v := (led_inh p q k σ) 17 k) X 17 k sh_17 (by omega) (by omega) (rfl) dX4_inherit_132 ?_
                      refine am_ast X 17 k sh_17 (by omega) (by omega) dX4_inherit_133 ?_
                      refine am_aload_n (x := 16) X (by rfl) dX4_inherit_134 ?_
                      refine am_getr (c1 := 18) X 16 fl_X4_15 (by decide) sh_16 (by decide) (by rfl) dX4_inherit_135 ?_
                      refine am_iload (x := (k : Int)) X (by rfl) dX4_inherit_138 ?_
                      refine am_iload (x := 1) X (by rfl) dX4_inherit_140 ?_
                      refine am_if_eq (tgt := 149) X dX4_inherit_142 (by decide) (fun h142 => ?_) (fun h142 => ?_)
                      · skip
                        refine am_aload_n (x := 16) X (by rfl) dX4_inherit_149 ?_
                        refine am_getr (c1 := 18) X 16 fl_X4_15 (by decide) sh_16 (by decide) (by rfl) dX4_inherit_150 ?_
                        refine am_iload (x := (k : Int)) X (by rfl) dX4_inherit_153 ?_
                        refine am_ald (v := (led_inh p q k σ) 18 k) X 18 k sh_18 (by omega) (by omega) (by simp [am_up]) dX4_inherit_155 ?_
                        refine am_ast X 18 k sh_18 (by omega) (by omega) dX4_inherit_156 ?_
                        refine am_inc (x := s) (v := (s + 1)) (L' := [some (vr 16), some (vi p), some (vi q), some (vi (s + 1)), some (vi (k : Int)), some (vi 0), some (vi 1)]) X (by rfl) (by omega) (by omega) (by rfl) dX4_inherit_157 ?_
                        refine am_inc (x := (k : Int)) (v := ((k : Int) + 1)) (L' := [some (vr 16), some (vi p), some (vi q), some (vi (s + 1)), some (vi ((k : Int) + 1)), some (vi 0), some (vi 1)]) X (by rfl) (by omega) (by omega) (by rfl) dX4_inherit_160 ?_
                        refine am_goto (tgt := 5) X dX4_inherit_163 (by decide) ?_
                        refine am_fg [true, true, true, true, true, false, false] rfl (L' := [some (vr 16), some (vi p), some (vi q), some (vi (s + 1)), some (vi ((k : Int) + 1)), none, none]) rfl ?_
                        refine am_sg (led_inh p q (k + 1) σ) (by symm; show am_it _ (k + 1) σ = _; rw [am_it_succ]; show led_inh1 p q k (led_inh p q k σ) = _; unfold led_inh1; (repeat' split) <;> first | rfl | (exfalso; omega)) ?_
                        exact ih5 _ (by omega) (k + 1) _ (by omega) (by (try subst s); (try simp only [hs]); show _ = am_sum (led_moved σ p q) k + led_moved σ p q k; unfold led_moved; (repeat' split) <;> omega) rfl
                      · skip
                        refine am_iload_n (x := q) X (by rfl) dX4_inherit_145 ?_
                        refine am_goto (tgt := 156) X dX4_inherit_146 (by decide) ?_
                        refine am_ast X 18 k sh_18 (by omega) (by omega) dX4_inherit_156 ?_
                        refine am_inc (x := s) (v := (s + 1)) (L' := [some (vr 16), some (vi p), some (vi q), some (vi (s + 1)), some (vi (k : Int)), some (vi 0), some (vi 1)]) X (by rfl) (by omega) (by omega) (by rfl) dX4_inherit_157 ?_
                        refine am_inc (x := (k : Int)) (v := ((k : Int) + 1)) (L' := [some (vr 16), some (vi p), some (vi q), some (vi (s + 1)), some (vi ((k : Int) + 1)), some (vi 0), some (vi 1)]) X (by rfl) (by omega) (by omega) (by rfl) dX4_inherit_160 ?_
                        refine am_goto (tgt := 5) X dX4_inherit_163 (by decide) ?_
                        refine am_fg [true, true, true, true, true, false, false] rfl (L' := [some (vr 16), some (vi p), some (vi q), some (vi (s + 1)), some (vi ((k : Int) + 1)), none, none]) rfl ?_
                        refine am_sg (led_inh p q (k + 1) σ) (by symm; show am_it _ (k + 1) σ = _; rw [am_it_succ]; show led_inh1 p q k (led_inh p q k σ) = _; unfold led_inh1; (repeat' split) <;> first | rfl | (exfalso; omega)) ?_
                        exact ih5 _ (by omega) (k + 1) _ (by omega) (by (try subst s); (try simp only [hs]); show _ = am_sum (led_moved σ p q) k + led_moved σ p q k; unfold led_moved; (repeat' split) <;> omega) rfl
                    · skip
                      refine am_iload_n (x := q) X (by rfl) dX4_inherit_122 ?_
                      refine am_goto (tgt := 133) X dX4_inherit_123 (by decide) ?_
                      refine am_ast X 17 k sh_17 (by omega) (by omega) dX4_inherit_133 ?_
                      refine am_aload_n (x := 16) X (by rfl) dX4_inherit_134 ?_
                      refine am_getr (c1 := 18) X 16 fl_X4_15 (by decide) sh_16 (by decide) (by rfl) dX4_inherit_135 ?_
                      refine am_iload (x := (k : Int)) X (by rfl) dX4_inherit_138 ?_
                      refine am_iload (x := 1) X (by rfl) dX4_inherit_140 ?_
                      refine am_if_eq (tgt := 149) X dX4_inherit_142 (by decide) (fun h142 => ?_) (fun h142 => ?_)
                      · skip
                        refine am_aload_n (x := 16) X (by rfl) dX4_inherit_149 ?_
                        refine am_getr (c1 := 18) X 16 fl_X4_15 (by decide) sh_16 (by decide) (by rfl) dX4_inherit_150 ?_
                        refine am_iload (x := (k : Int)) X (by rfl) dX4_inherit_153 ?_
                        refine am_ald (v := (led_inh p q k σ) 18 k) X 18 k sh_18 (by omega) (by omega) (by simp [am_up]) dX4_inherit_155 ?_
                        refine am_ast X 18 k sh_18 (by omega) (by omega) dX4_inherit_156 ?_
                        refine am_inc (x := s) (v := (s + 1)) (L' := [some (vr 16), some (vi p), some (vi q), some (vi (s + 1)), some (vi (k : Int)), some (vi 0), some (vi 1)]) X (by rfl) (by omega) (by omega) (by rfl) dX4_inherit_157 ?_
                        refine am_inc (x := (k : Int)) (v := ((k : Int) + 1)) (L' := [some (vr 16), some (vi p), some (vi q), some (vi (s + 1)), some (vi ((k : Int) + 1)), some (vi 0), some (vi 1)]) X (by rfl) (by omega) (by omega) (by rfl) dX4_inherit_160 ?_
                        refine am_goto (tgt := 5) X dX4_inherit_163 (by decide) ?_
                        refine am_fg [true, true, true, true, true, false, false] rfl (L' := [some (vr 16), some (vi p), some (vi q), some (vi (s + 1)), some (vi ((k : Int) + 1)), none, none]) rfl ?_
                        refine am_sg (led_inh p q (k + 1) σ) (by symm; show am_it _ (k + 1) σ = _; rw [am_it_succ]; show led_inh1 p q k (led_inh p q k σ) = _; unfold led_inh1; (repeat' split) <;> first | rfl | (exfalso; omega)) ?_
                        exact ih5 _ (by omega) (k + 1) _ (by omega) (by (try subst s); (try simp only [hs]); show _ = am_sum (led_moved σ p q) k + led_moved σ p q k; unfold led_moved; (repeat' split) <;> omega) rfl
                      · skip
                        refine am_iload_n (x := q) X (by rfl) dX4_inherit_145 ?_
                        refine am_goto (tgt := 156) X dX4_inherit_146 (by decide) ?_
                        refine am_ast X 18 k sh_18 (by omega) (by omega) dX4_inherit_156 ?_
                        refine am_inc (x := s) (v := (s + 1)) (L' := [some (vr 16), some (vi p), some (vi q), some (vi (s + 1)), some (vi (k : Int)), some (vi 0), some (vi 1)]) X (by rfl) (by omega) (by omega) (by rfl) dX4_inherit_157 ?_
                        refine am_inc (x := (k : Int)) (v := ((k : Int) + 1)) (L' := [some (vr 16), some (vi p), some (vi q), some (vi (s + 1)), some (vi ((k : Int) + 1)), some (vi 0), some (vi 1)]) X (by rfl) (by omega) (by omega) (by rfl) dX4_inherit_160 ?_
                        refine am_goto (tgt := 5) X dX4_inherit_163 (by decide) ?_
                        refine am_fg [true, true, true, true, true, false, false] rfl (L' := [some (vr 16), some (vi p), some (vi q), some (vi (s + 1)), some (vi ((k : Int) + 1)), none, none]) rfl ?_
                        refine am_sg (led_inh p q (k + 1) σ) (by symm; show am_it _ (k + 1) σ = _; rw [am_it_succ]; show led_inh1 p q k (led_inh p q k σ) = _; unfold led_inh1; (repeat' split) <;> first | rfl | (exfalso; omega)) ?_
                        exact ih5 _ (by omega) (k + 1) _ (by omega) (by (try subst s); (try simp only [hs]); show _ = am_sum (led_moved σ p q) k + led_moved σ p q k; unfold led_moved; (repeat' split) <;> omega) rfl
                  · skip
                    refine am_aload_n (x := 16) X (by rfl) dX4_inherit_95 ?_
                    refine am_iload (x := (k : Int)) X (by rfl) dX4_inherit_96 ?_
                    refine am_aload_n (x := 16) X (by rfl) dX4_inherit_98 ?_
                    refine am_getr (c1 := 19) X 16 fl_X4_18 (by decide) sh_16 (by decide) (by rfl) dX4_inherit_99 ?_
                    refine am_iload (x := (k : Int)) X (by rfl) dX4_inherit_102 ?_
                    refine am_ald (v := (led_inh p q k σ) 19 k) X 19 k sh_19 (by omega) (by omega) (rfl) dX4_inherit_104 ?_
                    refine am_callVv (ci := 4) X hY lk_X4_45 mf_X4_lessen (m_X4_lessen (k : Int) k (by omega) (by omega) ((led_inh p q k σ) 19 k) (led_inh p q k σ) (by omega)) (by decide) (by decide) (Nat.le_refl _) (Nat.le_refl _) sh_16 rfl rfl rfl (Nat.le_of_ble_eq_true rfl) dX4_inherit_105 (fun sh105 σ105 hp105 => ?_)
                    obtain ⟨rfl, rfl, hq105⟩ := hp105
                    refine am_goto (tgt := 160) X dX4_inherit_108 (by decide) ?_
                    refine am_inc (x := (k : Int)) (v := ((k : Int) + 1)) (L' := [some (vr 16), some (vi p), some (vi q), some (vi s), some (vi ((k : Int) + 1)), some (vi 0), some (vi 1)]) X (by rfl) (by omega) (by omega) (by rfl) dX4_inherit_160 ?_
                    refine am_goto (tgt := 5) X dX4_inherit_163 (by decide) ?_
                    refine am_fg [true, true, true, true, true, false, false] rfl (L' := [some (vr 16), some (vi p), some (vi q), some (vi s), some (vi ((k : Int) + 1)), none, none]) rfl ?_
                    refine am_sg (led_inh p q (k + 1) σ) (by symm; show am_it _ (k + 1) σ = _; rw [am_it_succ]; show led_inh1 p q k (led_inh p q k σ) = _; unfold led_inh1; (repeat' split) <;> first | rfl | (exfalso; omega)) ?_
                    exact ih5 _ (by omega) (k + 1) _ (by omega) (by (try subst s); (try simp only [hs]); show _ = am_sum (led_moved σ p q) k + led_moved σ p q k; unfold led_moved; (repeat' split) <;> omega) rfl
      · skip
        refine am_ic X (by decide) dX4_inherit_25 ?_
        refine am_goto (tgt := 30) X dX4_inherit_26 (by decide) ?_
        refine am_istore (i := 5) (L' := [some (vr 16), some (vi p), some (vi q), some (vi s), some (vi (k : Int)), some (vi 1), none]) X (Nat.le_of_ble_eq_true rfl) (by rfl) dX4_inherit_30 ?_
        refine am_aload_n (x := 16) X (by rfl) dX4_inherit_32 ?_
        refine am_getr (c1 := 18) X 16 fl_X4_15 (by decide) sh_16 (by decide) (by rfl) dX4_inherit_33 ?_
        refine am_iload (x := (k : Int)) X (by rfl) dX4_inherit_36 ?_
        refine am_ald (v := (led_inh p q k σ) 18 k) X 18 k sh_18 (by omega) (by omega) (rfl) dX4_inherit_38 ?_
        refine am_iload_n (x := p) X (by rfl) dX4_inherit_39 ?_
        refine am_icmp_ne (tgt := 47) X dX4_inherit_40 (by decide) (fun h40 => ?_) (fun h40 => ?_)
        · skip
          refine am_ic X (by decide) dX4_inherit_47 ?_
          refine am_istore (i := 6) (L' := [some (vr 16), some (vi p), some (vi q), some (vi s), some (vi (k : Int)), some (vi 1), some (vi 0)]) X (Nat.le_of_ble_eq_true rfl) (by rfl) dX4_inherit_48 ?_
          refine am_aload_n (x := 16) X (by rfl) dX4_inherit_50 ?_
          refine am_iload (x := (k : Int)) X (by rfl) dX4_inherit_51 ?_
          refine am_callVi (ci := 4) X hY lk_X4_49 mf_X4_isOpen (m_X4_isOpen (k : Int) k rfl (led_inh p q k σ) (by rw [e1]; exact hc)) (by decide) (by decide) (Nat.le_refl _) (Nat.le_refl _) sh_16 rfl rfl rfl (Nat.le_of_ble_eq_true rfl) dX4_inherit_53 (fun r53 sh53 σ53 hr53 hp53 => ?_)
          obtain ⟨rfl, rfl, hq53⟩ := hp53
          refine am_if_eq (tgt := 160) X dX4_inherit_56 (by decide) (fun h56 => ?_) (fun h56 => ?_)
          · skip
            refine am_inc (x := (k : Int)) (v := ((k : Int) + 1)) (L' := [some (vr 16), some (vi p), some (vi q), some (vi s), some (vi ((k : Int) + 1)), some (vi 1), some (vi 0)]) X (by rfl) (by omega) (by omega) (by rfl) dX4_inherit_160 ?_
            refine am_goto (tgt := 5) X dX4_inherit_163 (by decide) ?_
            refine am_fg [true, true, true, true, true, false, false] rfl (L' := [some (vr 16), some (vi p), some (vi q), some (vi s), some (vi ((k : Int) + 1)), none, none]) rfl ?_
            refine am_sg (led_inh p q (k + 1) σ) (by symm; show am_it _ (k + 1) σ = _; rw [am_it_succ]; show led_inh1 p q k (led_inh p q k σ) = _; unfold led_inh1; (repeat' split) <;> first | rfl | (exfalso; omega)) ?_
            exact ih5 _ (by omega) (k + 1) _ (by omega) (by (try subst s); (try simp only [hs]); show _ = am_sum (led_moved σ p q) k + led_moved σ p q k; unfold led_moved; (repeat' split) <;> omega) rfl
          · skip
            refine am_iload (x := 1) X (by rfl) dX4_inherit_59 ?_
            refine am_if_ne (tgt := 69) X dX4_inherit_61 (by decide) (fun h61 => ?_) (fun h61 => ?_)
            · skip
              refine am_iload (x := 1) X (by rfl) dX4_inherit_69 ?_
              refine am_if_eq (tgt := 84) X dX4_inherit_71 (by decide) (fun h71 => ?_) (fun h71 => ?_)
              · skip
                refine am_aload_n (x := 16) X (by rfl) dX4_inherit_84 ?_
                refine am_getr (c1 := 17) X 16 fl_X4_9 (by decide) sh_16 (by decide) (by rfl) dX4_inherit_85 ?_
                refine am_iload (x := (k : Int)) X (by rfl) dX4_inherit_88 ?_
                refine am_ald (v := (led_inh p q k σ) 17 k) X 17 k sh_17 (by omega) (by omega) (rfl) dX4_inherit_90 ?_
                refine am_iload_n (x := q) X (by rfl) dX4_inherit_91 ?_
                refine am_icmp_ne (tgt := 111) X dX4_inherit_92 (by decide) (fun h92 => ?_) (fun h92 => ?_)
                · skip
                  refine am_aload_n (x := 16) X (by rfl) dX4_inherit_111 ?_
                  refine am_getr (c1 := 17) X 16 fl_X4_9 (by decide) sh_16 (by decide) (by rfl) dX4_inherit_112 ?_
                  refine am_iload (x := (k : Int)) X (by rfl) dX4_inherit_115 ?_
                  refine am_iload (x := 1) X (by rfl) dX4_inherit_117 ?_
                  refine am_if_eq (tgt := 126) X dX4_inherit_119 (by decide) (fun h119 => ?_) (fun h119 => ?_)
                  · skip
                    refine am_aload_n (x := 16) X (by rfl) dX4_inherit_126 ?_
                    refine am_getr (c1 := 17) X 16 fl_X4_9 (by decide) sh_16 (by decide) (by rfl) dX4_inherit_127 ?_
                    refine am_iload (x := (k : Int)) X (by rfl) dX4_inherit_130 ?_
                    refine am_ald (v := (led_inh p q k σ) 17 k) X 17 k sh_17 (by omega) (by omega) (rfl) dX4_inherit_132 ?_
                    refine am_ast X 17 k sh_17 (by omega) (by omega) dX4_inherit_133 ?_
                    refine am_aload_n (x := 16) X (by rfl) dX4_inherit_134 ?_
                    refine am_getr (c1 := 18) X 16 fl_X4_15 (by decide) sh_16 (by decide) (by rfl) dX4_inherit_135 ?_
                    refine am_iload (x := (k : Int)) X (by rfl) dX4_inherit_138 ?_
                    refine am_iload (x := 0) X (by rfl) dX4_inherit_140 ?_
                    refine am_if_eq (tgt := 149) X dX4_inherit_142 (by decide) (fun h142 => ?_) (fun h142 => ?_)
                    · skip
                      refine am_aload_n (x := 16) X (by rfl) dX4_inherit_149 ?_
                      refine am_getr (c1 := 18) X 16 fl_X4_15 (by decide) sh_16 (by decide) (by rfl) dX4_inherit_150 ?_
                      refine am_iload (x := (k : Int)) X (by rfl) dX4_inherit_153 ?_
                      refine am_ald (v := (led_inh p q k σ) 18 k) X 18 k sh_18 (by omega) (by omega) (by simp [am_up]) dX4_inherit_155 ?_
                      refine am_ast X 18 k sh_18 (by omega) (by omega) dX4_inherit_156 ?_
                      refine am_inc (x := s) (v := (s + 1)) (L' := [some (vr 16), some (vi p), some (vi q), some (vi (s + 1)), some (vi (k : Int)), some (vi 1), some (vi 0)]) X (by rfl) (by omega) (by omega) (by rfl) dX4_inherit_157 ?_
                      refine am_inc (x := (k : Int)) (v := ((k : Int) + 1)) (L' := [some (vr 16), some (vi p), some (vi q), some (vi (s + 1)), some (vi ((k : Int) + 1)), some (vi 1), some (vi 0)]) X (by rfl) (by omega) (by omega) (by rfl) dX4_inherit_160 ?_
                      refine am_goto (tgt := 5) X dX4_inherit_163 (by decide) ?_
                      refine am_fg [true, true, true, true, true, false, false] rfl (L' := [some (vr 16), some (vi p), some (vi q), some (vi (s + 1)), some (vi ((k : Int) + 1)), none, none]) rfl ?_
                      refine am_sg (led_inh p q (k + 1) σ) (by symm; show am_it _ (k + 1) σ = _; rw [am_it_succ]; show led_inh1 p q k (led_inh p q k σ) = _; unfold led_inh1; (repeat' split) <;> first | rfl | (exfalso; omega)) ?_
                      exact ih5 _ (by omega) (k + 1) _ (by omega) (by (try subst s); (try simp only [hs]); show _ = am_sum (led_moved σ p q) k + led_moved σ p q k; unfold led_moved; (repeat' split) <;> omega) rfl
                    · skip
                      refine am_iload_n (x := q) X (by rfl) dX4_inherit_145 ?_
                      refine am_goto (tgt := 156) X dX4_inherit_146 (by decide) ?_
                      refine am_ast X 18 k sh_18 (by omega) (by omega) dX4_inherit_156 ?_
                      refine am_inc (x := s) (v := (s + 1)) (L' := [some (vr 16), some (vi p), some (vi q), some (vi (s + 1)), some (vi (k : Int)), some (vi 1), some (vi 0)]) X (by rfl) (by omega) (by omega) (by rfl) dX4_inherit_157 ?_
                      refine am_inc (x := (k : Int)) (v := ((k : Int) + 1)) (L' := [some (vr 16), some (vi p), some (vi q), some (vi (s + 1)), some (vi ((k : Int) + 1)), some (vi 1), some (vi 0)]) X (by rfl) (by omega) (by omega) (by rfl) dX4_inherit_160 ?_
                      refine am_goto (tgt := 5) X dX4_inherit_163 (by decide) ?_
                      refine am_fg [true, true, true, true, true, false, false] rfl (L' := [some (vr 16), some (vi p), some (vi q), some (vi (s + 1)), some (vi ((k : Int) + 1)), none, none]) rfl ?_
                      refine am_sg (led_inh p q (k + 1) σ) (by symm; show am_it _ (k + 1) σ = _; rw [am_it_succ]; show led_inh1 p q k (led_inh p q k σ) = _; unfold led_inh1; (repeat' split) <;> first | rfl | (exfalso; omega)) ?_
                      exact ih5 _ (by omega) (k + 1) _ (by omega) (by (try subst s); (try simp only [hs]); show _ = am_sum (led_moved σ p q) k + led_moved σ p q k; unfold led_moved; (repeat' split) <;> omega) rfl
                  · skip
                    refine am_iload_n (x := q) X (by rfl) dX4_inherit_122 ?_
                    refine am_goto (tgt := 133) X dX4_inherit_123 (by decide) ?_
                    refine am_ast X 17 k sh_17 (by omega) (by omega) dX4_inherit_133 ?_
                    refine am_aload_n (x := 16) X (by rfl) dX4_inherit_134 ?_
                    refine am_getr (c1 := 18) X 16 fl_X4_15 (by decide) sh_16 (by decide) (by rfl) dX4_inherit_135 ?_
                    refine am_iload (x := (k : Int)) X (by rfl) dX4_inherit_138 ?_
                    refine am_iload (x := 0) X (by rfl) dX4_inherit_140 ?_
                    refine am_if_eq (tgt := 149) X dX4_inherit_142 (by decide) (fun h142 => ?_) (fun h142 => ?_)
                    · skip
                      refine am_aload_n (x := 16) X (by rfl) dX4_inherit_149 ?_
                      refine am_getr (c1 := 18) X 16 fl_X4_15 (by decide) sh_16 (by decide) (by rfl) dX4_inherit_150 ?_
                      refine am_iload (x := (k : Int)) X (by rfl) dX4_inherit_153 ?_
                      refine am_ald (v := (led_inh p q k σ) 18 k) X 18 k sh_18 (by omega) (by omega) (by simp [am_up]) dX4_inherit_155 ?_
                      refine am_ast X 18 k sh_18 (by omega) (by omega) dX4_inherit_156 ?_
                      refine am_inc (x := s) (v := (s + 1)) (L' := [some (vr 16), some (vi p), some (vi q), some (vi (s + 1)), some (vi (k : Int)), some (vi 1), some (vi 0)]) X (by rfl) (by omega) (by omega) (by rfl) dX4_inherit_157 ?_
                      refine am_inc (x := (k : Int)) (v := ((k : Int) + 1)) (L' := [some (vr 16), some (vi p), some (vi q), some (vi (s + 1)), some (vi ((k : Int) + 1)), some (vi 1), some (vi 0)]) X (by rfl) (by omega) (by omega) (by rfl) dX4_inherit_160 ?_
                      refine am_goto (tgt := 5) X dX4_inherit_163 (by decide) ?_
                      refine am_fg [true, true, true, true, true, false, false] rfl (L' := [some (vr 16), some (vi p), some (vi q), some (vi (s + 1)), some (vi ((k : Int) + 1)), none, none]) rfl ?_
                      refine am_sg (led_inh p q (k + 1) σ) (by symm; show am_it _ (k + 1) σ = _; rw [am_it_succ]; show led_inh1 p q k (led_inh p q k σ) = _; unfold led_inh1; (repeat' split) <;> first | rfl | (exfalso; omega)) ?_
                      exact ih5 _ (by omega) (k + 1) _ (by omega) (by (try subst s); (try simp only [hs]); show _ = am_sum (led_moved σ p q) k + led_moved σ p q k; unfold led_moved; (repeat' split) <;> omega) rfl
                    · skip
                      refine am_iload_n (x := q) X (by rfl) dX4_inherit_145 ?_
                      refine am_goto (tgt := 156) X dX4_inherit_146 (by decide) ?_
                      refine am_ast X 18 k sh_18 (by omega) (by omega) dX4_inherit_156 ?_
                      refine am_inc (x := s) (v := (s + 1)) (L' := [some (vr 16), some (vi p), some (vi q), some (vi (s + 1)), some (vi (k : Int)), some (vi 1), some (vi 0)]) X (by rfl) (by omega) (by omega) (by rfl) dX4_inherit_157 ?_
                      refine am_inc (x := (k : Int)) (v := ((k : Int) + 1)) (L' := [some (vr 16), some (vi p), some (vi q), some (vi (s + 1)), some (vi ((k : Int) + 1)), some (vi 1), some (vi 0)]) X (by rfl) (by omega) (by omega) (by rfl) dX4_inherit_160 ?_
                      refine am_goto (tgt := 5) X dX4_inherit_163 (by decide) ?_
                      refine am_fg [true, true, true, true, true, false, false] rfl (L' := [some (vr 16), some (vi p), some (vi q), some (vi (s + 1)), some (vi ((k : Int) + 1)), none, none]) rfl ?_
                      refine am_sg (led_inh p q (k + 1) σ) (by symm; show am_it _ (k + 1) σ = _; rw [am_it_succ]; show led_inh1 p q k (led_inh p q k σ) = _; unfold led_inh1; (repeat' split) <;> first | rfl | (exfalso; omega)) ?_
                      exact ih5 _ (by omega) (k + 1) _ (by omega) (by (try subst s); (try simp only [hs]); show _ = am_sum (led_moved σ p q) k + led_moved σ p q k; unfold led_moved; (repeat' split) <;> omega) rfl
                · skip
                  refine am_aload_n (x := 16) X (by rfl) dX4_inherit_95 ?_
                  refine am_iload (x := (k : Int)) X (by rfl) dX4_inherit_96 ?_
                  refine am_aload_n (x := 16) X (by rfl) dX4_inherit_98 ?_
                  refine am_getr (c1 := 19) X 16 fl_X4_18 (by decide) sh_16 (by decide) (by rfl) dX4_inherit_99 ?_
                  refine am_iload (x := (k : Int)) X (by rfl) dX4_inherit_102 ?_
                  refine am_ald (v := (led_inh p q k σ) 19 k) X 19 k sh_19 (by omega) (by omega) (rfl) dX4_inherit_104 ?_
                  refine am_callVv (ci := 4) X hY lk_X4_45 mf_X4_lessen (m_X4_lessen (k : Int) k (by omega) (by omega) ((led_inh p q k σ) 19 k) (led_inh p q k σ) (by omega)) (by decide) (by decide) (Nat.le_refl _) (Nat.le_refl _) sh_16 rfl rfl rfl (Nat.le_of_ble_eq_true rfl) dX4_inherit_105 (fun sh105 σ105 hp105 => ?_)
                  obtain ⟨rfl, rfl, hq105⟩ := hp105
                  refine am_goto (tgt := 160) X dX4_inherit_108 (by decide) ?_
                  refine am_inc (x := (k : Int)) (v := ((k : Int) + 1)) (L' := [some (vr 16), some (vi p), some (vi q), some (vi s), some (vi ((k : Int) + 1)), some (vi 1), some (vi 0)]) X (by rfl) (by omega) (by omega) (by rfl) dX4_inherit_160 ?_
                  refine am_goto (tgt := 5) X dX4_inherit_163 (by decide) ?_
                  refine am_fg [true, true, true, true, true, false, false] rfl (L' := [some (vr 16), some (vi p), some (vi q), some (vi s), some (vi ((k : Int) + 1)), none, none]) rfl ?_
                  refine am_sg (led_inh p q (k + 1) σ) (by symm; show am_it _ (k + 1) σ = _; rw [am_it_succ]; show led_inh1 p q k (led_inh p q k σ) = _; unfold led_inh1; (repeat' split) <;> first | rfl | (exfalso; omega)) ?_
                  exact ih5 _ (by omega) (k + 1) _ (by omega) (by (try subst s); (try simp only [hs]); show _ = am_sum (led_moved σ p q) k + led_moved σ p q k; unfold led_moved; (repeat' split) <;> omega) rfl
              · skip
                refine am_aload_n (x := 16) X (by rfl) dX4_inherit_74 ?_
                refine am_getr (c1 := 18) X 16 fl_X4_15 (by decide) sh_16 (by decide) (by rfl) dX4_inherit_75 ?_
                refine am_iload (x := (k : Int)) X (by rfl) dX4_inherit_78 ?_
                refine am_ald (v := (led_inh p q k σ) 18 k) X 18 k sh_18 (by omega) (by omega) (rfl) dX4_inherit_80 ?_
                refine am_goto (tgt := 91) X dX4_inherit_81 (by decide) ?_
                refine am_iload_n (x := q) X (by rfl) dX4_inherit_91 ?_
                refine am_icmp_ne (tgt := 111) X dX4_inherit_92 (by decide) (fun h92 => ?_) (fun h92 => ?_)
                · skip
                  refine am_aload_n (x := 16) X (by rfl) dX4_inherit_111 ?_
                  refine am_getr (c1 := 17) X 16 fl_X4_9 (by decide) sh_16 (by decide) (by rfl) dX4_inherit_112 ?_
                  refine am_iload (x := (k : Int)) X (by rfl) dX4_inherit_115 ?_
                  refine am_iload (x := 1) X (by rfl) dX4_inherit_117 ?_
                  refine am_if_eq (tgt := 126) X dX4_inherit_119 (by decide) (fun h119 => ?_) (fun h119 => ?_)
                  · skip
                    refine am_aload_n (x := 16) X (by rfl) dX4_inherit_126 ?_
                    refine am_getr (c1 := 17) X 16 fl_X4_9 (by decide) sh_16 (by decide) (by rfl) dX4_inherit_127 ?_
                    refine am_iload (x := (k : Int)) X (by rfl) dX4_inherit_130 ?_
                    refine am_ald (v := (led_inh p q k σ) 17 k) X 17 k sh_17 (by omega) (by omega) (rfl) dX4_inherit_132 ?_
                    refine am_ast X 17 k sh_17 (by omega) (by omega) dX4_inherit_133 ?_
                    refine am_aload_n (x := 16) X (by rfl) dX4_inherit_134 ?_
                    refine am_getr (c1 := 18) X 16 fl_X4_15 (by decide) sh_16 (by decide) (by rfl) dX4_inherit_135 ?_
                    refine am_iload (x := (k : Int)) X (by rfl) dX4_inherit_138 ?_
                    refine am_iload (x := 0) X (by rfl) dX4_inherit_140 ?_
                    refine am_if_eq (tgt := 149) X dX4_inherit_142 (by decide) (fun h142 => ?_) (fun h142 => ?_)
                    · skip
                      refine am_aload_n (x := 16) X (by rfl) dX4_inherit_149 ?_
                      refine am_getr (c1 := 18) X 16 fl_X4_15 (by decide) sh_16 (by decide) (by rfl) dX4_inherit_150 ?_
                      refine am_iload (x := (k : Int)) X (by rfl) dX4_inherit_153 ?_
                      refine am_ald (v := (led_inh p q k σ) 18 k) X 18 k sh_18 (by omega) (by omega) (by simp [am_up]) dX4_inherit_155 ?_
                      refine am_ast X 18 k sh_18 (by omega) (by omega) dX4_inherit_156 ?_
                      refine am_inc (x := s) (v := (s + 1)) (L' := [some (vr 16), some (vi p), some (vi q), some (vi (s + 1)), some (vi (k : Int)), some (vi 1), some (vi 0)]) X (by rfl) (by omega) (by omega) (by rfl) dX4_inherit_157 ?_
                      refine am_inc (x := (k : Int)) (v := ((k : Int) + 1)) (L' := [some (vr 16), some (vi p), some (vi q), some (vi (s + 1)), some (vi ((k : Int) + 1)), some (vi 1), some (vi 0)]) X (by rfl) (by omega) (by omega) (by rfl) dX4_inherit_160 ?_
                      refine am_goto (tgt := 5) X dX4_inherit_163 (by decide) ?_
                      refine am_fg [true, true, true, true, true, false, false] rfl (L' := [some (vr 16), some (vi p), some (vi q), some (vi (s + 1)), some (vi ((k : Int) + 1)), none, none]) rfl ?_
                      refine am_sg (led_inh p q (k + 1) σ) (by symm; show am_it _ (k + 1) σ = _; rw [am_it_succ]; show led_inh1 p q k (led_inh p q k σ) = _; unfold led_inh1; (repeat' split) <;> first | rfl | (exfalso; omega)) ?_
                      exact ih5 _ (by omega) (k + 1) _ (by omega) (by (try subst s); (try simp only [hs]); show _ = am_sum (led_moved σ p q) k + led_moved σ p q k; unfold led_moved; (repeat' split) <;> omega) rfl
                    · skip
                      refine am_iload_n (x := q) X (by rfl) dX4_inherit_145 ?_
                      refine am_goto (tgt := 156) X dX4_inherit_146 (by decide) ?_
                      refine am_ast X 18 k sh_18 (by omega) (by omega) dX4_inherit_156 ?_
                      refine am_inc (x := s) (v := (s + 1)) (L' := [some (vr 16), some (vi p), some (vi q), some (vi (s + 1)), some (vi (k : Int)), some (vi 1), some (vi 0)]) X (by rfl) (by omega) (by omega) (by rfl) dX4_inherit_157 ?_
                      refine am_inc (x := (k : Int)) (v := ((k : Int) + 1)) (L' := [some (vr 16), some (vi p), some (vi q), some (vi (s + 1)), some (vi ((k : Int) + 1)), some (vi 1), some (vi 0)]) X (by rfl) (by omega) (by omega) (by rfl) dX4_inherit_160 ?_
                      refine am_goto (tgt := 5) X dX4_inherit_163 (by decide) ?_
                      refine am_fg [true, true, true, true, true, false, false] rfl (L' := [some (vr 16), some (vi p), some (vi q), some (vi (s + 1)), some (vi ((k : Int) + 1)), none, none]) rfl ?_
                      refine am_sg (led_inh p q (k + 1) σ) (by symm; show am_it _ (k + 1) σ = _; rw [am_it_succ]; show led_inh1 p q k (led_inh p q k σ) = _; unfold led_inh1; (repeat' split) <;> first | rfl | (exfalso; omega)) ?_
                      exact ih5 _ (by omega) (k + 1) _ (by omega) (by (try subst s); (try simp only [hs]); show _ = am_sum (led_moved σ p q) k + led_moved σ p q k; unfold led_moved; (repeat' split) <;> omega) rfl
                  · skip
                    refine am_iload_n (x := q) X (by rfl) dX4_inherit_122 ?_
                    refine am_goto (tgt := 133) X dX4_inherit_123 (by decide) ?_
                    refine am_ast X 17 k sh_17 (by omega) (by omega) dX4_inherit_133 ?_
                    refine am_aload_n (x := 16) X (by rfl) dX4_inherit_134 ?_
                    refine am_getr (c1 := 18) X 16 fl_X4_15 (by decide) sh_16 (by decide) (by rfl) dX4_inherit_135 ?_
                    refine am_iload (x := (k : Int)) X (by rfl) dX4_inherit_138 ?_
                    refine am_iload (x := 0) X (by rfl) dX4_inherit_140 ?_
                    refine am_if_eq (tgt := 149) X dX4_inherit_142 (by decide) (fun h142 => ?_) (fun h142 => ?_)
                    · skip
                      refine am_aload_n (x := 16) X (by rfl) dX4_inherit_149 ?_
                      refine am_getr (c1 := 18) X 16 fl_X4_15 (by decide) sh_16 (by decide) (by rfl) dX4_inherit_150 ?_
                      refine am_iload (x := (k : Int)) X (by rfl) dX4_inherit_153 ?_
                      refine am_ald (v := (led_inh p q k σ) 18 k) X 18 k sh_18 (by omega) (by omega) (by simp [am_up]) dX4_inherit_155 ?_
                      refine am_ast X 18 k sh_18 (by omega) (by omega) dX4_inherit_156 ?_
                      refine am_inc (x := s) (v := (s + 1)) (L' := [some (vr 16), some (vi p), some (vi q), some (vi (s + 1)), some (vi (k : Int)), some (vi 1), some (vi 0)]) X (by rfl) (by omega) (by omega) (by rfl) dX4_inherit_157 ?_
                      refine am_inc (x := (k : Int)) (v := ((k : Int) + 1)) (L' := [some (vr 16), some (vi p), some (vi q), some (vi (s + 1)), some (vi ((k : Int) + 1)), some (vi 1), some (vi 0)]) X (by rfl) (by omega) (by omega) (by rfl) dX4_inherit_160 ?_
                      refine am_goto (tgt := 5) X dX4_inherit_163 (by decide) ?_
                      refine am_fg [true, true, true, true, true, false, false] rfl (L' := [some (vr 16), some (vi p), some (vi q), some (vi (s + 1)), some (vi ((k : Int) + 1)), none, none]) rfl ?_
                      refine am_sg (led_inh p q (k + 1) σ) (by symm; show am_it _ (k + 1) σ = _; rw [am_it_succ]; show led_inh1 p q k (led_inh p q k σ) = _; unfold led_inh1; (repeat' split) <;> first | rfl | (exfalso; omega)) ?_
                      exact ih5 _ (by omega) (k + 1) _ (by omega) (by (try subst s); (try simp only [hs]); show _ = am_sum (led_moved σ p q) k + led_moved σ p q k; unfold led_moved; (repeat' split) <;> omega) rfl
                    · skip
                      refine am_iload_n (x := q) X (by rfl) dX4_inherit_145 ?_
                      refine am_goto (tgt := 156) X dX4_inherit_146 (by decide) ?_
                      refine am_ast X 18 k sh_18 (by omega) (by omega) dX4_inherit_156 ?_
                      refine am_inc (x := s) (v := (s + 1)) (L' := [some (vr 16), some (vi p), some (vi q), some (vi (s + 1)), some (vi (k : Int)), some (vi 1), some (vi 0)]) X (by rfl) (by omega) (by omega) (by rfl) dX4_inherit_157 ?_
                      refine am_inc (x := (k : Int)) (v := ((k : Int) + 1)) (L' := [some (vr 16), some (vi p), some (vi q), some (vi (s + 1)), some (vi ((k : Int) + 1)), some (vi 1), some (vi 0)]) X (by rfl) (by omega) (by omega) (by rfl) dX4_inherit_160 ?_
                      refine am_goto (tgt := 5) X dX4_inherit_163 (by decide) ?_
                      refine am_fg [true, true, true, true, true, false, false] rfl (L' := [some (vr 16), some (vi p), some (vi q), some (vi (s + 1)), some (vi ((k : Int) + 1)), none, none]) rfl ?_
                      refine am_sg (led_inh p q (k + 1) σ) (by symm; show am_it _ (k + 1) σ = _; rw [am_it_succ]; show led_inh1 p q k (led_inh p q k σ) = _; unfold led_inh1; (repeat' split) <;> first | rfl | (exfalso; omega)) ?_
                      exact ih5 _ (by omega) (k + 1) _ (by omega) (by (try subst s); (try simp only [hs]); show _ = am_sum (led_moved σ p q) k + led_moved σ p q k; unfold led_moved; (repeat' split) <;> omega) rfl
                · skip
                  refine am_aload_n (x := 16) X (by rfl) dX4_inherit_95 ?_
                  refine am_iload (x := (k : Int)) X (by rfl) dX4_inherit_96 ?_
                  refine am_aload_n (x := 16) X (by rfl) dX4_inherit_98 ?_
                  refine am_getr (c1 := 19) X 16 fl_X4_18 (by decide) sh_16 (by decide) (by rfl) dX4_inherit_99 ?_
                  refine am_iload (x := (k : Int)) X (by rfl) dX4_inherit_102 ?_
                  refine am_ald (v := (led_inh p q k σ) 19 k) X 19 k sh_19 (by omega) (by omega) (rfl) dX4_inherit_104 ?_
                  refine am_callVv (ci := 4) X hY lk_X4_45 mf_X4_lessen (m_X4_lessen (k : Int) k (by omega) (by omega) ((led_inh p q k σ) 19 k) (led_inh p q k σ) (by omega)) (by decide) (by decide) (Nat.le_refl _) (Nat.le_refl _) sh_16 rfl rfl rfl (Nat.le_of_ble_eq_true rfl) dX4_inherit_105 (fun sh105 σ105 hp105 => ?_)
                  obtain ⟨rfl, rfl, hq105⟩ := hp105
                  refine am_goto (tgt := 160) X dX4_inherit_108 (by decide) ?_
                  refine am_inc (x := (k : Int)) (v := ((k : Int) + 1)) (L' := [some (vr 16), some (vi p), some (vi q), some (vi s), some (vi ((k : Int) + 1)), some (vi 1), some (vi 0)]) X (by rfl) (by omega) (by omega) (by rfl) dX4_inherit_160 ?_
                  refine am_goto (tgt := 5) X dX4_inherit_163 (by decide) ?_
                  refine am_fg [true, true, true, true, true, false, false] rfl (L' := [some (vr 16), some (vi p), some (vi q), some (vi s), some (vi ((k : Int) + 1)), none, none]) rfl ?_
                  refine am_sg (led_inh p q (k + 1) σ) (by symm; show am_it _ (k + 1) σ = _; rw [am_it_succ]; show led_inh1 p q k (led_inh p q k σ) = _; unfold led_inh1; (repeat' split) <;> first | rfl | (exfalso; omega)) ?_
                  exact ih5 _ (by omega) (k + 1) _ (by omega) (by (try subst s); (try simp only [hs]); show _ = am_sum (led_moved σ p q) k + led_moved σ p q k; unfold led_moved; (repeat' split) <;> omega) rfl
            · skip
              refine am_iload (x := 0) X (by rfl) dX4_inherit_64 ?_
              refine am_if_eq (tgt := 160) X dX4_inherit_66 (by decide) (fun h66 => ?_) (fun h66 => ?_)
              · skip
                refine am_inc (x := (k : Int)) (v := ((k : Int) + 1)) (L' := [some (vr 16), some (vi p), some (vi q), some (vi s), some (vi ((k : Int) + 1)), some (vi 1), some (vi 0)]) X (by rfl) (by omega) (by omega) (by rfl) dX4_inherit_160 ?_
                refine am_goto (tgt := 5) X dX4_inherit_163 (by decide) ?_
                refine am_fg [true, true, true, true, true, false, false] rfl (L' := [some (vr 16), some (vi p), some (vi q), some (vi s), some (vi ((k : Int) + 1)), none, none]) rfl ?_
                refine am_sg (led_inh p q (k + 1) σ) (by symm; show am_it _ (k + 1) σ = _; rw [am_it_succ]; show led_inh1 p q k (led_inh p q k σ) = _; unfold led_inh1; (repeat' split) <;> first | rfl | (exfalso; omega)) ?_
                exact ih5 _ (by omega) (k + 1) _ (by omega) (by (try subst s); (try simp only [hs]); show _ = am_sum (led_moved σ p q) k + led_moved σ p q k; unfold led_moved; (repeat' split) <;> omega) rfl
              · skip
                refine am_iload (x := 1) X (by rfl) dX4_inherit_69 ?_
                refine am_if_eq (tgt := 84) X dX4_inherit_71 (by decide) (fun h71 => ?_) (fun h71 => ?_)
                · skip
                  refine am_aload_n (x := 16) X (by rfl) dX4_inherit_84 ?_
                  refine am_getr (c1 := 17) X 16 fl_X4_9 (by decide) sh_16 (by decide) (by rfl) dX4_inherit_85 ?_
                  refine am_iload (x := (k : Int)) X (by rfl) dX4_inherit_88 ?_
                  refine am_ald (v := (led_inh p q k σ) 17 k) X 17 k sh_17 (by omega) (by omega) (rfl) dX4_inherit_90 ?_
                  refine am_iload_n (x := q) X (by rfl) dX4_inherit_91 ?_
                  refine am_icmp_ne (tgt := 111) X dX4_inherit_92 (by decide) (fun h92 => ?_) (fun h92 => ?_)
                  · skip
                    refine am_aload_n (x := 16) X (by rfl) dX4_inherit_111 ?_
                    refine am_getr (c1 := 17) X 16 fl_X4_9 (by decide) sh_16 (by decide) (by rfl) dX4_inherit_112 ?_
                    refine am_iload (x := (k : Int)) X (by rfl) dX4_inherit_115 ?_
                    refine am_iload (x := 1) X (by rfl) dX4_inherit_117 ?_
                    refine am_if_eq (tgt := 126) X dX4_inherit_119 (by decide) (fun h119 => ?_) (fun h119 => ?_)
                    · skip
                      refine am_aload_n (x := 16) X (by rfl) dX4_inherit_126 ?_
                      refine am_getr (c1 := 17) X 16 fl_X4_9 (by decide) sh_16 (by decide) (by rfl) dX4_inherit_127 ?_
                      refine am_iload (x := (k : Int)) X (by rfl) dX4_inherit_130 ?_
                      refine am_ald (v := (led_inh p q k σ) 17 k) X 17 k sh_17 (by omega) (by omega) (rfl) dX4_inherit_132 ?_
                      refine am_ast X 17 k sh_17 (by omega) (by omega) dX4_inherit_133 ?_
                      refine am_aload_n (x := 16) X (by rfl) dX4_inherit_134 ?_
                      refine am_getr (c1 := 18) X 16 fl_X4_15 (by decide) sh_16 (by decide) (by rfl) dX4_inherit_135 ?_
                      refine am_iload (x := (k : Int)) X (by rfl) dX4_inherit_138 ?_
                      refine am_iload (x := 0) X (by rfl) dX4_inherit_140 ?_
                      refine am_if_eq (tgt := 149) X dX4_inherit_142 (by decide) (fun h142 => ?_) (fun h142 => ?_)
                      · skip
                        refine am_aload_n (x := 16) X (by rfl) dX4_inherit_149 ?_
                        refine am_getr (c1 := 18) X 16 fl_X4_15 (by decide) sh_16 (by decide) (by rfl) dX4_inherit_150 ?_
                        refine am_iload (x := (k : Int)) X (by rfl) dX4_inherit_153 ?_
                        refine am_ald (v := (led_inh p q k σ) 18 k) X 18 k sh_18 (by omega) (by omega) (by simp [am_up]) dX4_inherit_155 ?_
                        refine am_ast X 18 k sh_18 (by omega) (by omega) dX4_inherit_156 ?_
                        refine am_inc (x := s) (v := (s + 1)) (L' := [some (vr 16), some (vi p), some (vi q), some (vi (s + 1)), some (vi (k : Int)), some (vi 1), some (vi 0)]) X (by rfl) (by omega) (by omega) (by rfl) dX4_inherit_157 ?_
                        refine am_inc (x := (k : Int)) (v := ((k : Int) + 1)) (L' := [some (vr 16), some (vi p), some (vi q), some (vi (s + 1)), some (vi ((k : Int) + 1)), some (vi 1), some (vi 0)]) X (by rfl) (by omega) (by omega) (by rfl) dX4_inherit_160 ?_
                        refine am_goto (tgt := 5) X dX4_inherit_163 (by decide) ?_
                        refine am_fg [true, true, true, true, true, false, false] rfl (L' := [some (vr 16), some (vi p), some (vi q), some (vi (s + 1)), some (vi ((k : Int) + 1)), none, none]) rfl ?_
                        refine am_sg (led_inh p q (k + 1) σ) (by symm; show am_it _ (k + 1) σ = _; rw [am_it_succ]; show led_inh1 p q k (led_inh p q k σ) = _; unfold led_inh1; (repeat' split) <;> first | rfl | (exfalso; omega)) ?_
                        exact ih5 _ (by omega) (k + 1) _ (by omega) (by (try subst s); (try simp only [hs]); show _ = am_sum (led_moved σ p q) k + led_moved σ p q k; unfold led_moved; (repeat' split) <;> omega) rfl
                      · skip
                        refine am_iload_n (x := q) X (by rfl) dX4_inherit_145 ?_
                        refine am_goto (tgt := 156) X dX4_inherit_146 (by decide) ?_
                        refine am_ast X 18 k sh_18 (by omega) (by omega) dX4_inherit_156 ?_
                        refine am_inc (x := s) (v := (s + 1)) (L' := [some (vr 16), some (vi p), some (vi q), some (vi (s + 1)), some (vi (k : Int)), some (vi 1), some (vi 0)]) X (by rfl) (by omega) (by omega) (by rfl) dX4_inherit_157 ?_
                        refine am_inc (x := (k : Int)) (v := ((k : Int) + 1)) (L' := [some (vr 16), some (vi p), some (vi q), some (vi (s + 1)), some (vi ((k : Int) + 1)), some (vi 1), some (vi 0)]) X (by rfl) (by omega) (by omega) (by rfl) dX4_inherit_160 ?_
                        refine am_goto (tgt := 5) X dX4_inherit_163 (by decide) ?_
                        refine am_fg [true, true, true, true, true, false, false] rfl (L' := [some (vr 16), some (vi p), some (vi q), some (vi (s + 1)), some (vi ((k : Int) + 1)), none, none]) rfl ?_
                        refine am_sg (led_inh p q (k + 1) σ) (by symm; show am_it _ (k + 1) σ = _; rw [am_it_succ]; show led_inh1 p q k (led_inh p q k σ) = _; unfold led_inh1; (repeat' split) <;> first | rfl | (exfalso; omega)) ?_
                        exact ih5 _ (by omega) (k + 1) _ (by omega) (by (try subst s); (try simp only [hs]); show _ = am_sum (led_moved σ p q) k + led_moved σ p q k; unfold led_moved; (repeat' split) <;> omega) rfl
                    · skip
                      refine am_iload_n (x := q) X (by rfl) dX4_inherit_122 ?_
                      refine am_goto (tgt := 133) X dX4_inherit_123 (by decide) ?_
                      refine am_ast X 17 k sh_17 (by omega) (by omega) dX4_inherit_133 ?_
                      refine am_aload_n (x := 16) X (by rfl) dX4_inherit_134 ?_
                      refine am_getr (c1 := 18) X 16 fl_X4_15 (by decide) sh_16 (by decide) (by rfl) dX4_inherit_135 ?_
                      refine am_iload (x := (k : Int)) X (by rfl) dX4_inherit_138 ?_
                      refine am_iload (x := 0) X (by rfl) dX4_inherit_140 ?_
                      refine am_if_eq (tgt := 149) X dX4_inherit_142 (by decide) (fun h142 => ?_) (fun h142 => ?_)
                      · skip
                        refine am_aload_n (x := 16) X (by rfl) dX4_inherit_149 ?_
                        refine am_getr (c1 := 18) X 16 fl_X4_15 (by decide) sh_16 (by decide) (by rfl) dX4_inherit_150 ?_
                        refine am_iload (x := (k : Int)) X (by rfl) dX4_inherit_153 ?_
                        refine am_ald (v := (led_inh p q k σ) 18 k) X 18 k sh_18 (by omega) (by omega) (by simp [am_up]) dX4_inherit_155 ?_
                        refine am_ast X 18 k sh_18 (by omega) (by omega) dX4_inherit_156 ?_
                        refine am_inc (x := s) (v := (s + 1)) (L' := [some (vr 16), some (vi p), some (vi q), some (vi (s + 1)), some (vi (k : Int)), some (vi 1), some (vi 0)]) X (by rfl) (by omega) (by omega) (by rfl) dX4_inherit_157 ?_
                        refine am_inc (x := (k : Int)) (v := ((k : Int) + 1)) (L' := [some (vr 16), some (vi p), some (vi q), some (vi (s + 1)), some (vi ((k : Int) + 1)), some (vi 1), some (vi 0)]) X (by rfl) (by omega) (by omega) (by rfl) dX4_inherit_160 ?_
                        refine am_goto (tgt := 5) X dX4_inherit_163 (by decide) ?_
                        refine am_fg [true, true, true, true, true, false, false] rfl (L' := [some (vr 16), some (vi p), some (vi q), some (vi (s + 1)), some (vi ((k : Int) + 1)), none, none]) rfl ?_
                        refine am_sg (led_inh p q (k + 1) σ) (by symm; show am_it _ (k + 1) σ = _; rw [am_it_succ]; show led_inh1 p q k (led_inh p q k σ) = _; unfold led_inh1; (repeat' split) <;> first | rfl | (exfalso; omega)) ?_
                        exact ih5 _ (by omega) (k + 1) _ (by omega) (by (try subst s); (try simp only [hs]); show _ = am_sum (led_moved σ p q) k + led_moved σ p q k; unfold led_moved; (repeat' split) <;> omega) rfl
                      · skip
                        refine am_iload_n (x := q) X (by rfl) dX4_inherit_145 ?_
                        refine am_goto (tgt := 156) X dX4_inherit_146 (by decide) ?_
                        refine am_ast X 18 k sh_18 (by omega) (by omega) dX4_inherit_156 ?_
                        refine am_inc (x := s) (v := (s + 1)) (L' := [some (vr 16), some (vi p), some (vi q), some (vi (s + 1)), some (vi (k : Int)), some (vi 1), some (vi 0)]) X (by rfl) (by omega) (by omega) (by rfl) dX4_inherit_157 ?_
                        refine am_inc (x := (k : Int)) (v := ((k : Int) + 1)) (L' := [some (vr 16), some (vi p), some (vi q), some (vi (s + 1)), some (vi ((k : Int) + 1)), some (vi 1), some (vi 0)]) X (by rfl) (by omega) (by omega) (by rfl) dX4_inherit_160 ?_
                        refine am_goto (tgt := 5) X dX4_inherit_163 (by decide) ?_
                        refine am_fg [true, true, true, true, true, false, false] rfl (L' := [some (vr 16), some (vi p), some (vi q), some (vi (s + 1)), some (vi ((k : Int) + 1)), none, none]) rfl ?_
                        refine am_sg (led_inh p q (k + 1) σ) (by symm; show am_it _ (k + 1) σ = _; rw [am_it_succ]; show led_inh1 p q k (led_inh p q k σ) = _; unfold led_inh1; (repeat' split) <;> first | rfl | (exfalso; omega)) ?_
                        exact ih5 _ (by omega) (k + 1) _ (by omega) (by (try subst s); (try simp only [hs]); show _ = am_sum (led_moved σ p q) k + led_moved σ p q k; unfold led_moved; (repeat' split) <;> omega) rfl
                  · skip
                    refine am_aload_n (x := 16) X (by rfl) dX4_inherit_95 ?_
                    refine am_iload (x := (k : Int)) X (by rfl) dX4_inherit_96 ?_
                    refine am_aload_n (x := 16) X (by rfl) dX4_inherit_98 ?_
                    refine am_getr (c1 := 19) X 16 fl_X4_18 (by decide) sh_16 (by decide) (by rfl) dX4_inherit_99 ?_
                    refine am_iload (x := (k : Int)) X (by rfl) dX4_inherit_102 ?_
                    refine am_ald (v := (led_inh p q k σ) 19 k) X 19 k sh_19 (by omega) (by omega) (rfl) dX4_inherit_104 ?_
                    refine am_callVv (ci := 4) X hY lk_X4_45 mf_X4_lessen (m_X4_lessen (k : Int) k (by omega) (by omega) ((led_inh p q k σ) 19 k) (led_inh p q k σ) (by omega)) (by decide) (by decide) (Nat.le_refl _) (Nat.le_refl _) sh_16 rfl rfl rfl (Nat.le_of_ble_eq_true rfl) dX4_inherit_105 (fun sh105 σ105 hp105 => ?_)
                    obtain ⟨rfl, rfl, hq105⟩ := hp105
                    refine am_goto (tgt := 160) X dX4_inherit_108 (by decide) ?_
                    refine am_inc (x := (k : Int)) (v := ((k : Int) + 1)) (L' := [some (vr 16), some (vi p), some (vi q), some (vi s), some (vi ((k : Int) + 1)), some (vi 1), some (vi 0)]) X (by rfl) (by omega) (by omega) (by rfl) dX4_inherit_160 ?_
                    refine am_goto (tgt := 5) X dX4_inherit_163 (by decide) ?_
                    refine am_fg [true, true, true, true, true, false, false] rfl (L' := [some (vr 16), some (vi p), some (vi q), some (vi s), some (vi ((k : Int) + 1)), none, none]) rfl ?_
                    refine am_sg (led_inh p q (k + 1) σ) (by symm; show am_it _ (k + 1) σ = _; rw [am_it_succ]; show led_inh1 p q k (led_inh p q k σ) = _; unfold led_inh1; (repeat' split) <;> first | rfl | (exfalso; omega)) ?_
                    exact ih5 _ (by omega) (k + 1) _ (by omega) (by (try subst s); (try simp only [hs]); show _ = am_sum (led_moved σ p q) k + led_moved σ p q k; unfold led_moved; (repeat' split) <;> omega) rfl
                · skip
                  refine am_aload_n (x := 16) X (by rfl) dX4_inherit_74 ?_
                  refine am_getr (c1 := 18) X 16 fl_X4_15 (by decide) sh_16 (by decide) (by rfl) dX4_inherit_75 ?_
                  refine am_iload (x := (k : Int)) X (by rfl) dX4_inherit_78 ?_
                  refine am_ald (v := (led_inh p q k σ) 18 k) X 18 k sh_18 (by omega) (by omega) (rfl) dX4_inherit_80 ?_
                  refine am_goto (tgt := 91) X dX4_inherit_81 (by decide) ?_
                  refine am_iload_n (x := q) X (by rfl) dX4_inherit_91 ?_
                  refine am_icmp_ne (tgt := 111) X dX4_inherit_92 (by decide) (fun h92 => ?_) (fun h92 => ?_)
                  · skip
                    refine am_aload_n (x := 16) X (by rfl) dX4_inherit_111 ?_
                    refine am_getr (c1 := 17) X 16 fl_X4_9 (by decide) sh_16 (by decide) (by rfl) dX4_inherit_112 ?_
                    refine am_iload (x := (k : Int)) X (by rfl) dX4_inherit_115 ?_
                    refine am_iload (x := 1) X (by rfl) dX4_inherit_117 ?_
                    refine am_if_eq (tgt := 126) X dX4_inherit_119 (by decide) (fun h119 => ?_) (fun h119 => ?_)
                    · skip
                      refine am_aload_n (x := 16) X (by rfl) dX4_inherit_126 ?_
                      refine am_getr (c1 := 17) X 16 fl_X4_9 (by decide) sh_16 (by decide) (by rfl) dX4_inherit_127 ?_
                      refine am_iload (x := (k : Int)) X (by rfl) dX4_inherit_130 ?_
                      refine am_ald (v := (led_inh p q k σ) 17 k) X 17 k sh_17 (by omega) (by omega) (rfl) dX4_inherit_132 ?_
                      refine am_ast X 17 k sh_17 (by omega) (by omega) dX4_inherit_133 ?_
                      refine am_aload_n (x := 16) X (by rfl) dX4_inherit_134 ?_
                      refine am_getr (c1 := 18) X 16 fl_X4_15 (by decide) sh_16 (by decide) (by rfl) dX4_inherit_135 ?_
                      refine am_iload (x := (k : Int)) X (by rfl) dX4_inherit_138 ?_
                      refine am_iload (x := 0) X (by rfl) dX4_inherit_140 ?_
                      refine am_if_eq (tgt := 149) X dX4_inherit_142 (by decide) (fun h142 => ?_) (fun h142 => ?_)
                      · skip
                        refine am_aload_n (x := 16) X (by rfl) dX4_inherit_149 ?_
                        refine am_getr (c1 := 18) X 16 fl_X4_15 (by decide) sh_16 (by decide) (by rfl) dX4_inherit_150 ?_
                        refine am_iload (x := (k : Int)) X (by rfl) dX4_inherit_153 ?_
                        refine am_ald (v := (led_inh p q k σ) 18 k) X 18 k sh_18 (by omega) (by omega) (by simp [am_up]) dX4_inherit_155 ?_
                        refine am_ast X 18 k sh_18 (by omega) (by omega) dX4_inherit_156 ?_
                        refine am_inc (x := s) (v := (s + 1)) (L' := [some (vr 16), some (vi p), some (vi q), some (vi (s + 1)), some (vi (k : Int)), some (vi 1), some (vi 0)]) X (by rfl) (by omega) (by omega) (by rfl) dX4_inherit_157 ?_
                        refine am_inc (x := (k : Int)) (v := ((k : Int) + 1)) (L' := [some (vr 16), some (vi p), some (vi q), some (vi (s + 1)), some (vi ((k : Int) + 1)), some (vi 1), some (vi 0)]) X (by rfl) (by omega) (by omega) (by rfl) dX4_inherit_160 ?_
                        refine am_goto (tgt := 5) X dX4_inherit_163 (by decide) ?_
                        refine am_fg [true, true, true, true, true, false, false] rfl (L' := [some (vr 16), some (vi p), some (vi q), some (vi (s + 1)), some (vi ((k : Int) + 1)), none, none]) rfl ?_
                        refine am_sg (led_inh p q (k + 1) σ) (by symm; show am_it _ (k + 1) σ = _; rw [am_it_succ]; show led_inh1 p q k (led_inh p q k σ) = _; unfold led_inh1; (repeat' split) <;> first | rfl | (exfalso; omega)) ?_
                        exact ih5 _ (by omega) (k + 1) _ (by omega) (by (try subst s); (try simp only [hs]); show _ = am_sum (led_moved σ p q) k + led_moved σ p q k; unfold led_moved; (repeat' split) <;> omega) rfl
                      · skip
                        refine am_iload_n (x := q) X (by rfl) dX4_inherit_145 ?_
                        refine am_goto (tgt := 156) X dX4_inherit_146 (by decide) ?_
                        refine am_ast X 18 k sh_18 (by omega) (by omega) dX4_inherit_156 ?_
                        refine am_inc (x := s) (v := (s + 1)) (L' := [some (vr 16), some (vi p), some (vi q), some (vi (s + 1)), some (vi (k : Int)), some (vi 1), some (vi 0)]) X (by rfl) (by omega) (by omega) (by rfl) dX4_inherit_157 ?_
                        refine am_inc (x := (k : Int)) (v := ((k : Int) + 1)) (L' := [some (vr 16), some (vi p), some (vi q), some (vi (s + 1)), some (vi ((k : Int) + 1)), some (vi 1), some (vi 0)]) X (by rfl) (by omega) (by omega) (by rfl) dX4_inherit_160 ?_
                        refine am_goto (tgt := 5) X dX4_inherit_163 (by decide) ?_
                        refine am_fg [true, true, true, true, true, false, false] rfl (L' := [some (vr 16), some (vi p), some (vi q), some (vi (s + 1)), some (vi ((k : Int) + 1)), none, none]) rfl ?_
                        refine am_sg (led_inh p q (k + 1) σ) (by symm; show am_it _ (k + 1) σ = _; rw [am_it_succ]; show led_inh1 p q k (led_inh p q k σ) = _; unfold led_inh1; (repeat' split) <;> first | rfl | (exfalso; omega)) ?_
                        exact ih5 _ (by omega) (k + 1) _ (by omega) (by (try subst s); (try simp only [hs]); show _ = am_sum (led_moved σ p q) k + led_moved σ p q k; unfold led_moved; (repeat' split) <;> omega) rfl
                    · skip
                      refine am_iload_n (x := q) X (by rfl) dX4_inherit_122 ?_
                      refine am_goto (tgt := 133) X dX4_inherit_123 (by decide) ?_
                      refine am_ast X 17 k sh_17 (by omega) (by omega) dX4_inherit_133 ?_
                      refine am_aload_n (x := 16) X (by rfl) dX4_inherit_134 ?_
                      refine am_getr (c1 := 18) X 16 fl_X4_15 (by decide) sh_16 (by decide) (by rfl) dX4_inherit_135 ?_
                      refine am_iload (x := (k : Int)) X (by rfl) dX4_inherit_138 ?_
                      refine am_iload (x := 0) X (by rfl) dX4_inherit_140 ?_
                      refine am_if_eq (tgt := 149) X dX4_inherit_142 (by decide) (fun h142 => ?_) (fun h142 => ?_)
                      · skip
                        refine am_aload_n (x := 16) X (by rfl) dX4_inherit_149 ?_
                        refine am_getr (c1 := 18) X 16 fl_X4_15 (by decide) sh_16 (by decide) (by rfl) dX4_inherit_150 ?_
                        refine am_iload (x := (k : Int)) X (by rfl) dX4_inherit_153 ?_
                        refine am_ald (v := (led_inh p q k σ) 18 k) X 18 k sh_18 (by omega) (by omega) (by simp [am_up]) dX4_inherit_155 ?_
                        refine am_ast X 18 k sh_18 (by omega) (by omega) dX4_inherit_156 ?_
                        refine am_inc (x := s) (v := (s + 1)) (L' := [some (vr 16), some (vi p), some (vi q), some (vi (s + 1)), some (vi (k : Int)), some (vi 1), some (vi 0)]) X (by rfl) (by omega) (by omega) (by rfl) dX4_inherit_157 ?_
                        refine am_inc (x := (k : Int)) (v := ((k : Int) + 1)) (L' := [some (vr 16), some (vi p), some (vi q), some (vi (s + 1)), some (vi ((k : Int) + 1)), some (vi 1), some (vi 0)]) X (by rfl) (by omega) (by omega) (by rfl) dX4_inherit_160 ?_
                        refine am_goto (tgt := 5) X dX4_inherit_163 (by decide) ?_
                        refine am_fg [true, true, true, true, true, false, false] rfl (L' := [some (vr 16), some (vi p), some (vi q), some (vi (s + 1)), some (vi ((k : Int) + 1)), none, none]) rfl ?_
                        refine am_sg (led_inh p q (k + 1) σ) (by symm; show am_it _ (k + 1) σ = _; rw [am_it_succ]; show led_inh1 p q k (led_inh p q k σ) = _; unfold led_inh1; (repeat' split) <;> first | rfl | (exfalso; omega)) ?_
                        exact ih5 _ (by omega) (k + 1) _ (by omega) (by (try subst s); (try simp only [hs]); show _ = am_sum (led_moved σ p q) k + led_moved σ p q k; unfold led_moved; (repeat' split) <;> omega) rfl
                      · skip
                        refine am_iload_n (x := q) X (by rfl) dX4_inherit_145 ?_
                        refine am_goto (tgt := 156) X dX4_inherit_146 (by decide) ?_
                        refine am_ast X 18 k sh_18 (by omega) (by omega) dX4_inherit_156 ?_
                        refine am_inc (x := s) (v := (s + 1)) (L' := [some (vr 16), some (vi p), some (vi q), some (vi (s + 1)), some (vi (k : Int)), some (vi 1), some (vi 0)]) X (by rfl) (by omega) (by omega) (by rfl) dX4_inherit_157 ?_
                        refine am_inc (x := (k : Int)) (v := ((k : Int) + 1)) (L' := [some (vr 16), some (vi p), some (vi q), some (vi (s + 1)), some (vi ((k : Int) + 1)), some (vi 1), some (vi 0)]) X (by rfl) (by omega) (by omega) (by rfl) dX4_inherit_160 ?_
                        refine am_goto (tgt := 5) X dX4_inherit_163 (by decide) ?_
                        refine am_fg [true, true, true, true, true, false, false] rfl (L' := [some (vr 16), some (vi p), some (vi q), some (vi (s + 1)), some (vi ((k : Int) + 1)), none, none]) rfl ?_
                        refine am_sg (led_inh p q (k + 1) σ) (by symm; show am_it _ (k + 1) σ = _; rw [am_it_succ]; show led_inh1 p q k (led_inh p q k σ) = _; unfold led_inh1; (repeat' split) <;> first | rfl | (exfalso; omega)) ?_
                        exact ih5 _ (by omega) (k + 1) _ (by omega) (by (try subst s); (try simp only [hs]); show _ = am_sum (led_moved σ p q) k + led_moved σ p q k; unfold led_moved; (repeat' split) <;> omega) rfl
                  · skip
                    refine am_aload_n (x := 16) X (by rfl) dX4_inherit_95 ?_
                    refine am_iload (x := (k : Int)) X (by rfl) dX4_inherit_96 ?_
                    refine am_aload_n (x := 16) X (by rfl) dX4_inherit_98 ?_
                    refine am_getr (c1 := 19) X 16 fl_X4_18 (by decide) sh_16 (by decide) (by rfl) dX4_inherit_99 ?_
                    refine am_iload (x := (k : Int)) X (by rfl) dX4_inherit_102 ?_
                    refine am_ald (v := (led_inh p q k σ) 19 k) X 19 k sh_19 (by omega) (by omega) (rfl) dX4_inherit_104 ?_
                    refine am_callVv (ci := 4) X hY lk_X4_45 mf_X4_lessen (m_X4_lessen (k : Int) k (by omega) (by omega) ((led_inh p q k σ) 19 k) (led_inh p q k σ) (by omega)) (by decide) (by decide) (Nat.le_refl _) (Nat.le_refl _) sh_16 rfl rfl rfl (Nat.le_of_ble_eq_true rfl) dX4_inherit_105 (fun sh105 σ105 hp105 => ?_)
                    obtain ⟨rfl, rfl, hq105⟩ := hp105
                    refine am_goto (tgt := 160) X dX4_inherit_108 (by decide) ?_
                    refine am_inc (x := (k : Int)) (v := ((k : Int) + 1)) (L' := [some (vr 16), some (vi p), some (vi q), some (vi s), some (vi ((k : Int) + 1)), some (vi 1), some (vi 0)]) X (by rfl) (by omega) (by omega) (by rfl) dX4_inherit_160 ?_
                    refine am_goto (tgt := 5) X dX4_inherit_163 (by decide) ?_
                    refine am_fg [true, true, true, true, true, false, false] rfl (L' := [some (vr 16), some (vi p), some (vi q), some (vi s), some (vi ((k : Int) + 1)), none, none]) rfl ?_
                    refine am_sg (led_inh p q (k + 1) σ) (by symm; show am_it _ (k + 1) σ = _; rw [am_it_succ]; show led_inh1 p q k (led_inh p q k σ) = _; unfold led_inh1; (repeat' split) <;> first | rfl | (exfalso; omega)) ?_
                    exact ih5 _ (by omega) (k + 1) _ (by omega) (by (try subst s); (try simp only [hs]); show _ = am_sum (led_moved σ p q) k + led_moved σ p q k; unfold led_moved; (repeat' split) <;> omega) rfl
        · skip
          refine am_ic X (by decide) dX4_inherit_43 ?_
          refine am_goto (tgt := 48) X dX4_inherit_44 (by decide) ?_
          refine am_istore (i := 6) (L' := [some (vr 16), some (vi p), some (vi q), some (vi s), some (vi (k : Int)), some (vi 1), some (vi 1)]) X (Nat.le_of_ble_eq_true rfl) (by rfl) dX4_inherit_48 ?_
          refine am_aload_n (x := 16) X (by rfl) dX4_inherit_50 ?_
          refine am_iload (x := (k : Int)) X (by rfl) dX4_inherit_51 ?_
          refine am_callVi (ci := 4) X hY lk_X4_49 mf_X4_isOpen (m_X4_isOpen (k : Int) k rfl (led_inh p q k σ) (by rw [e1]; exact hc)) (by decide) (by decide) (Nat.le_refl _) (Nat.le_refl _) sh_16 rfl rfl rfl (Nat.le_of_ble_eq_true rfl) dX4_inherit_53 (fun r53 sh53 σ53 hr53 hp53 => ?_)
          obtain ⟨rfl, rfl, hq53⟩ := hp53
          refine am_if_eq (tgt := 160) X dX4_inherit_56 (by decide) (fun h56 => ?_) (fun h56 => ?_)
          · skip
            refine am_inc (x := (k : Int)) (v := ((k : Int) + 1)) (L' := [some (vr 16), some (vi p), some (vi q), some (vi s), some (vi ((k : Int) + 1)), some (vi 1), some (vi 1)]) X (by rfl) (by omega) (by omega) (by rfl) dX4_inherit_160 ?_
            refine am_goto (tgt := 5) X dX4_inherit_163 (by decide) ?_
            refine am_fg [true, true, true, true, true, false, false] rfl (L' := [some (vr 16), some (vi p), some (vi q), some (vi s), some (vi ((k : Int) + 1)), none, none]) rfl ?_
            refine am_sg (led_inh p q (k + 1) σ) (by symm; show am_it _ (k + 1) σ = _; rw [am_it_succ]; show led_inh1 p q k (led_inh p q k σ) = _; unfold led_inh1; (repeat' split) <;> first | rfl | (exfalso; omega)) ?_
            exact ih5 _ (by omega) (k + 1) _ (by omega) (by (try subst s); (try simp only [hs]); show _ = am_sum (led_moved σ p q) k + led_moved σ p q k; unfold led_moved; (repeat' split) <;> omega) rfl
          · skip
            refine am_iload (x := 1) X (by rfl) dX4_inherit_59 ?_
            refine am_if_ne (tgt := 69) X dX4_inherit_61 (by decide) (fun h61 => ?_) (fun h61 => ?_)
            · skip
              refine am_iload (x := 1) X (by rfl) dX4_inherit_69 ?_
              refine am_if_eq (tgt := 84) X dX4_inherit_71 (by decide) (fun h71 => ?_) (fun h71 => ?_)
              · skip
                refine am_aload_n (x := 16) X (by rfl) dX4_inherit_84 ?_
                refine am_getr (c1 := 17) X 16 fl_X4_9 (by decide) sh_16 (by decide) (by rfl) dX4_inherit_85 ?_
                refine am_iload (x := (k : Int)) X (by rfl) dX4_inherit_88 ?_
                refine am_ald (v := (led_inh p q k σ) 17 k) X 17 k sh_17 (by omega) (by omega) (rfl) dX4_inherit_90 ?_
                refine am_iload_n (x := q) X (by rfl) dX4_inherit_91 ?_
                refine am_icmp_ne (tgt := 111) X dX4_inherit_92 (by decide) (fun h92 => ?_) (fun h92 => ?_)
                · skip
                  refine am_aload_n (x := 16) X (by rfl) dX4_inherit_111 ?_
                  refine am_getr (c1 := 17) X 16 fl_X4_9 (by decide) sh_16 (by decide) (by rfl) dX4_inherit_112 ?_
                  refine am_iload (x := (k : Int)) X (by rfl) dX4_inherit_115 ?_
                  refine am_iload (x := 1) X (by rfl) dX4_inherit_117 ?_
                  refine am_if_eq (tgt := 126) X dX4_inherit_119 (by decide) (fun h119 => ?_) (fun h119 => ?_)
                  · skip
                    refine am_aload_n (x := 16) X (by rfl) dX4_inherit_126 ?_
                    refine am_getr (c1 := 17) X 16 fl_X4_9 (by decide) sh_16 (by decide) (by rfl) dX4_inherit_127 ?_
                    refine am_iload (x := (k : Int)) X (by rfl) dX4_inherit_130 ?_
                    refine am_ald (v := (led_inh p q k σ) 17 k) X 17 k sh_17 (by omega) (by omega) (rfl) dX4_inherit_132 ?_
                    refine am_ast X 17 k sh_17 (by omega) (by omega) dX4_inherit_133 ?_
                    refine am_aload_n (x := 16) X (by rfl) dX4_inherit_134 ?_
                    refine am_getr (c1 := 18) X 16 fl_X4_15 (by decide) sh_16 (by decide) (by rfl) dX4_inherit_135 ?_
                    refine am_iload (x := (k : Int)) X (by rfl) dX4_inherit_138 ?_
                    refine am_iload (x := 1) X (by rfl) dX4_inherit_140 ?_
                    refine am_if_eq (tgt := 149) X dX4_inherit_142 (by decide) (fun h142 => ?_) (fun h142 => ?_)
                    · skip
                      refine am_aload_n (x := 16) X (by rfl) dX4_inherit_149 ?_
                      refine am_getr (c1 := 18) X 16 fl_X4_15 (by decide) sh_16 (by decide) (by rfl) dX4_inherit_150 ?_
                      refine am_iload (x := (k : Int)) X (by rfl) dX4_inherit_153 ?_
                      refine am_ald (v := (led_inh p q k σ) 18 k) X 18 k sh_18 (by omega) (by omega) (by simp [am_up]) dX4_inherit_155 ?_
                      refine am_ast X 18 k sh_18 (by omega) (by omega) dX4_inherit_156 ?_
                      refine am_inc (x := s) (v := (s + 1)) (L' := [some (vr 16), some (vi p), some (vi q), some (vi (s + 1)), some (vi (k : Int)), some (vi 1), some (vi 1)]) X (by rfl) (by omega) (by omega) (by rfl) dX4_inherit_157 ?_
                      refine am_inc (x := (k : Int)) (v := ((k : Int) + 1)) (L' := [some (vr 16), some (vi p), some (vi q), some (vi (s + 1)), some (vi ((k : Int) + 1)), some (vi 1), some (vi 1)]) X (by rfl) (by omega) (by omega) (by rfl) dX4_inherit_160 ?_
                      refine am_goto (tgt := 5) X dX4_inherit_163 (by decide) ?_
                      refine am_fg [true, true, true, true, true, false, false] rfl (L' := [some (vr 16), some (vi p), some (vi q), some (vi (s + 1)), some (vi ((k : Int) + 1)), none, none]) rfl ?_
                      refine am_sg (led_inh p q (k + 1) σ) (by symm; show am_it _ (k + 1) σ = _; rw [am_it_succ]; show led_inh1 p q k (led_inh p q k σ) = _; unfold led_inh1; (repeat' split) <;> first | rfl | (exfalso; omega)) ?_
                      exact ih5 _ (by omega) (k + 1) _ (by omega) (by (try subst s); (try simp only [hs]); show _ = am_sum (led_moved σ p q) k + led_moved σ p q k; unfold led_moved; (repeat' split) <;> omega) rfl
                    · skip
                      refine am_iload_n (x := q) X (by rfl) dX4_inherit_145 ?_
                      refine am_goto (tgt := 156) X dX4_inherit_146 (by decide) ?_
                      refine am_ast X 18 k sh_18 (by omega) (by omega) dX4_inherit_156 ?_
                      refine am_inc (x := s) (v := (s + 1)) (L' := [some (vr 16), some (vi p), some (vi q), some (vi (s + 1)), some (vi (k : Int)), some (vi 1), some (vi 1)]) X (by rfl) (by omega) (by omega) (by rfl) dX4_inherit_157 ?_
                      refine am_inc (x := (k : Int)) (v := ((k : Int) + 1)) (L' := [some (vr 16), some (vi p), some (vi q), some (vi (s + 1)), some (vi ((k : Int) + 1)), some (vi 1), some (vi 1)]) X (by rfl) (by omega) (by omega) (by rfl) dX4_inherit_160 ?_
                      refine am_goto (tgt := 5) X dX4_inherit_163 (by decide) ?_
                      refine am_fg [true, true, true, true, true, false, false] rfl (L' := [some (vr 16), some (vi p), some (vi q), some (vi (s + 1)), some (vi ((k : Int) + 1)), none, none]) rfl ?_
                      refine am_sg (led_inh p q (k + 1) σ) (by symm; show am_it _ (k + 1) σ = _; rw [am_it_succ]; show led_inh1 p q k (led_inh p q k σ) = _; unfold led_inh1; (repeat' split) <;> first | rfl | (exfalso; omega)) ?_
                      exact ih5 _ (by omega) (k + 1) _ (by omega) (by (try subst s); (try simp only [hs]); show _ = am_sum (led_moved σ p q) k + led_moved σ p q k; unfold led_moved; (repeat' split) <;> omega) rfl
                  · skip
                    refine am_iload_n (x := q) X (by rfl) dX4_inherit_122 ?_
                    refine am_goto (tgt := 133) X dX4_inherit_123 (by decide) ?_
                    refine am_ast X 17 k sh_17 (by omega) (by omega) dX4_inherit_133 ?_
                    refine am_aload_n (x := 16) X (by rfl) dX4_inherit_134 ?_
                    refine am_getr (c1 := 18) X 16 fl_X4_15 (by decide) sh_16 (by decide) (by rfl) dX4_inherit_135 ?_
                    refine am_iload (x := (k : Int)) X (by rfl) dX4_inherit_138 ?_
                    refine am_iload (x := 1) X (by rfl) dX4_inherit_140 ?_
                    refine am_if_eq (tgt := 149) X dX4_inherit_142 (by decide) (fun h142 => ?_) (fun h142 => ?_)
                    · skip
                      refine am_aload_n (x := 16) X (by rfl) dX4_inherit_149 ?_
                      refine am_getr (c1 := 18) X 16 fl_X4_15 (by decide) sh_16 (by decide) (by rfl) dX4_inherit_150 ?_
                      refine am_iload (x := (k : Int)) X (by rfl) dX4_inherit_153 ?_
                      refine am_ald (v := (led_inh p q k σ) 18 k) X 18 k sh_18 (by omega) (by omega) (by simp [am_up]) dX4_inherit_155 ?_
                      refine am_ast X 18 k sh_18 (by omega) (by omega) dX4_inherit_156 ?_
                      refine am_inc (x := s) (v := (s + 1)) (L' := [some (vr 16), some (vi p), some (vi q), some (vi (s + 1)), some (vi (k : Int)), some (vi 1), some (vi 1)]) X (by rfl) (by omega) (by omega) (by rfl) dX4_inherit_157 ?_
                      refine am_inc (x := (k : Int)) (v := ((k : Int) + 1)) (L' := [some (vr 16), some (vi p), some (vi q), some (vi (s + 1)), some (vi ((k : Int) + 1)), some (vi 1), some (vi 1)]) X (by rfl) (by omega) (by omega) (by rfl) dX4_inherit_160 ?_
                      refine am_goto (tgt := 5) X dX4_inherit_163 (by decide) ?_
                      refine am_fg [true, true, true, true, true, false, false] rfl (L' := [some (vr 16), some (vi p), some (vi q), some (vi (s + 1)), some (vi ((k : Int) + 1)), none, none]) rfl ?_
                      refine am_sg (led_inh p q (k + 1) σ) (by symm; show am_it _ (k + 1) σ = _; rw [am_it_succ]; show led_inh1 p q k (led_inh p q k σ) = _; unfold led_inh1; (repeat' split) <;> first | rfl | (exfalso; omega)) ?_
                      exact ih5 _ (by omega) (k + 1) _ (by omega) (by (try subst s); (try simp only [hs]); show _ = am_sum (led_moved σ p q) k + led_moved σ p q k; unfold led_moved; (repeat' split) <;> omega) rfl
                    · skip
                      refine am_iload_n (x := q) X (by rfl) dX4_inherit_145 ?_
                      refine am_goto (tgt := 156) X dX4_inherit_146 (by decide) ?_
                      refine am_ast X 18 k sh_18 (by omega) (by omega) dX4_inherit_156 ?_
                      refine am_inc (x := s) (v := (s + 1)) (L' := [some (vr 16), some (vi p), some (vi q), some (vi (s + 1)), some (vi (k : Int)), some (vi 1), some (vi 1)]) X (by rfl) (by omega) (by omega) (by rfl) dX4_inherit_157 ?_
                      refine am_inc (x := (k : Int)) (v := ((k : Int) + 1)) (L' := [some (vr 16), some (vi p), some (vi q), some (vi (s + 1)), some (vi ((k : Int) + 1)), some (vi 1), some (vi 1)]) X (by rfl) (by omega) (by omega) (by rfl) dX4_inherit_160 ?_
                      refine am_goto (tgt := 5) X dX4_inherit_163 (by decide) ?_
                      refine am_fg [true, true, true, true, true, false, false] rfl (L' := [some (vr 16), some (vi p), some (vi q), some (vi (s + 1)), some (vi ((k : Int) + 1)), none, none]) rfl ?_
                      refine am_sg (led_inh p q (k + 1) σ) (by symm; show am_it _ (k + 1) σ = _; rw [am_it_succ]; show led_inh1 p q k (led_inh p q k σ) = _; unfold led_inh1; (repeat' split) <;> first | rfl | (exfalso; omega)) ?_
                      exact ih5 _ (by omega) (k + 1) _ (by omega) (by (try subst s); (try simp only [hs]); show _ = am_sum (led_moved σ p q) k + led_moved σ p q k; unfold led_moved; (repeat' split) <;> omega) rfl
                · skip
                  refine am_aload_n (x := 16) X (by rfl) dX4_inherit_95 ?_
                  refine am_iload (x := (k : Int)) X (by rfl) dX4_inherit_96 ?_
                  refine am_aload_n (x := 16) X (by rfl) dX4_inherit_98 ?_
                  refine am_getr (c1 := 19) X 16 fl_X4_18 (by decide) sh_16 (by decide) (by rfl) dX4_inherit_99 ?_
                  refine am_iload (x := (k : Int)) X (by rfl) dX4_inherit_102 ?_
                  refine am_ald (v := (led_inh p q k σ) 19 k) X 19 k sh_19 (by omega) (by omega) (rfl) dX4_inherit_104 ?_
                  refine am_callVv (ci := 4) X hY lk_X4_45 mf_X4_lessen (m_X4_lessen (k : Int) k (by omega) (by omega) ((led_inh p q k σ) 19 k) (led_inh p q k σ) (by omega)) (by decide) (by decide) (Nat.le_refl _) (Nat.le_refl _) sh_16 rfl rfl rfl (Nat.le_of_ble_eq_true rfl) dX4_inherit_105 (fun sh105 σ105 hp105 => ?_)
                  obtain ⟨rfl, rfl, hq105⟩ := hp105
                  refine am_goto (tgt := 160) X dX4_inherit_108 (by decide) ?_
                  refine am_inc (x := (k : Int)) (v := ((k : Int) + 1)) (L' := [some (vr 16), some (vi p), some (vi q), some (vi s), some (vi ((k : Int) + 1)), some (vi 1), some (vi 1)]) X (by rfl) (by omega) (by omega) (by rfl) dX4_inherit_160 ?_
                  refine am_goto (tgt := 5) X dX4_inherit_163 (by decide) ?_
                  refine am_fg [true, true, true, true, true, false, false] rfl (L' := [some (vr 16), some (vi p), some (vi q), some (vi s), some (vi ((k : Int) + 1)), none, none]) rfl ?_
                  refine am_sg (led_inh p q (k + 1) σ) (by symm; show am_it _ (k + 1) σ = _; rw [am_it_succ]; show led_inh1 p q k (led_inh p q k σ) = _; unfold led_inh1; (repeat' split) <;> first | rfl | (exfalso; omega)) ?_
                  exact ih5 _ (by omega) (k + 1) _ (by omega) (by (try subst s); (try simp only [hs]); show _ = am_sum (led_moved σ p q) k + led_moved σ p q k; unfold led_moved; (repeat' split) <;> omega) rfl
              · skip
                refine am_aload_n (x := 16) X (by rfl) dX4_inherit_74 ?_
                refine am_getr (c1 := 18) X 16 fl_X4_15 (by decide) sh_16 (by decide) (by rfl) dX4_inherit_75 ?_
                refine am_iload (x := (k : Int)) X (by rfl) dX4_inherit_78 ?_
                refine am_ald (v := (led_inh p q k σ) 18 k) X 18 k sh_18 (by omega) (by omega) (rfl) dX4_inherit_80 ?_
                refine am_goto (tgt := 91) X dX4_inherit_81 (by decide) ?_
                refine am_iload_n (x := q) X (by rfl) dX4_inherit_91 ?_
                refine am_icmp_ne (tgt := 111) X dX4_inherit_92 (by decide) (fun h92 => ?_) (fun h92 => ?_)
                · skip
                  refine am_aload_n (x := 16) X (by rfl) dX4_inherit_111 ?_
                  refine am_getr (c1 := 17) X 16 fl_X4_9 (by decide) sh_16 (by decide) (by rfl) dX4_inherit_112 ?_
                  refine am_iload (x := (k : Int)) X (by rfl) dX4_inherit_115 ?_
                  refine am_iload (x := 1) X (by rfl) dX4_inherit_117 ?_
                  refine am_if_eq (tgt := 126) X dX4_inherit_119 (by decide) (fun h119 => ?_) (fun h119 => ?_)
                  · skip
                    refine am_aload_n (x := 16) X (by rfl) dX4_inherit_126 ?_
                    refine am_getr (c1 := 17) X 16 fl_X4_9 (by decide) sh_16 (by decide) (by rfl) dX4_inherit_127 ?_
                    refine am_iload (x := (k : Int)) X (by rfl) dX4_inherit_130 ?_
                    refine am_ald (v := (led_inh p q k σ) 17 k) X 17 k sh_17 (by omega) (by omega) (rfl) dX4_inherit_132 ?_
                    refine am_ast X 17 k sh_17 (by omega) (by omega) dX4_inherit_133 ?_
                    refine am_aload_n (x := 16) X (by rfl) dX4_inherit_134 ?_
                    refine am_getr (c1 := 18) X 16 fl_X4_15 (by decide) sh_16 (by decide) (by rfl) dX4_inherit_135 ?_
                    refine am_iload (x := (k : Int)) X (by rfl) dX4_inherit_138 ?_
                    refine am_iload (x := 1) X (by rfl) dX4_inherit_140 ?_
                    refine am_if_eq (tgt := 149) X dX4_inherit_142 (by decide) (fun h142 => ?_) (fun h142 => ?_)
                    · skip
                      refine am_aload_n (x := 16) X (by rfl) dX4_inherit_149 ?_
                      refine am_getr (c1 := 18) X 16 fl_X4_15 (by decide) sh_16 (by decide) (by rfl) dX4_inherit_150 ?_
                      refine am_iload (x := (k : Int)) X (by rfl) dX4_inherit_153 ?_
                      refine am_ald (v := (led_inh p q k σ) 18 k) X 18 k sh_18 (by omega) (by omega) (by simp [am_up]) dX4_inherit_155 ?_
                      refine am_ast X 18 k sh_18 (by omega) (by omega) dX4_inherit_156 ?_
                      refine am_inc (x := s) (v := (s + 1)) (L' := [some (vr 16), some (vi p), some (vi q), some (vi (s + 1)), some (vi (k : Int)), some (vi 1), some (vi 1)]) X (by rfl) (by omega) (by omega) (by rfl) dX4_inherit_157 ?_
                      refine am_inc (x := (k : Int)) (v := ((k : Int) + 1)) (L' := [some (vr 16), some (vi p), some (vi q), some (vi (s + 1)), some (vi ((k : Int) + 1)), some (vi 1), some (vi 1)]) X (by rfl) (by omega) (by omega) (by rfl) dX4_inherit_160 ?_
                      refine am_goto (tgt := 5) X dX4_inherit_163 (by decide) ?_
                      refine am_fg [true, true, true, true, true, false, false] rfl (L' := [some (vr 16), some (vi p), some (vi q), some (vi (s + 1)), some (vi ((k : Int) + 1)), none, none]) rfl ?_
                      refine am_sg (led_inh p q (k + 1) σ) (by symm; show am_it _ (k + 1) σ = _; rw [am_it_succ]; show led_inh1 p q k (led_inh p q k σ) = _; unfold led_inh1; (repeat' split) <;> first | rfl | (exfalso; omega)) ?_
                      exact ih5 _ (by omega) (k + 1) _ (by omega) (by (try subst s); (try simp only [hs]); show _ = am_sum (led_moved σ p q) k + led_moved σ p q k; unfold led_moved; (repeat' split) <;> omega) rfl
                    · skip
                      refine am_iload_n (x := q) X (by rfl) dX4_inherit_145 ?_
                      refine am_goto (tgt := 156) X dX4_inherit_146 (by decide) ?_
                      refine am_ast X 18 k sh_18 (by omega) (by omega) dX4_inherit_156 ?_
                      refine am_inc (x := s) (v := (s + 1)) (L' := [some (vr 16), some (vi p), some (vi q), some (vi (s + 1)), some (vi (k : Int)), some (vi 1), some (vi 1)]) X (by rfl) (by omega) (by omega) (by rfl) dX4_inherit_157 ?_
                      refine am_inc (x := (k : Int)) (v := ((k : Int) + 1)) (L' := [some (vr 16), some (vi p), some (vi q), some (vi (s + 1)), some (vi ((k : Int) + 1)), some (vi 1), some (vi 1)]) X (by rfl) (by omega) (by omega) (by rfl) dX4_inherit_160 ?_
                      refine am_goto (tgt := 5) X dX4_inherit_163 (by decide) ?_
                      refine am_fg [true, true, true, true, true, false, false] rfl (L' := [some (vr 16), some (vi p), some (vi q), some (vi (s + 1)), some (vi ((k : Int) + 1)), none, none]) rfl ?_
                      refine am_sg (led_inh p q (k + 1) σ) (by symm; show am_it _ (k + 1) σ = _; rw [am_it_succ]; show led_inh1 p q k (led_inh p q k σ) = _; unfold led_inh1; (repeat' split) <;> first | rfl | (exfalso; omega)) ?_
                      exact ih5 _ (by omega) (k + 1) _ (by omega) (by (try subst s); (try simp only [hs]); show _ = am_sum (led_moved σ p q) k + led_moved σ p q k; unfold led_moved; (repeat' split) <;> omega) rfl
                  · skip
                    refine am_iload_n (x := q) X (by rfl) dX4_inherit_122 ?_
                    refine am_goto (tgt := 133) X dX4_inherit_123 (by decide) ?_
                    refine am_ast X 17 k sh_17 (by omega) (by omega) dX4_inherit_133 ?_
                    refine am_aload_n (x := 16) X (by rfl) dX4_inherit_134 ?_
                    refine am_getr (c1 := 18) X 16 fl_X4_15 (by decide) sh_16 (by decide) (by rfl) dX4_inherit_135 ?_
                    refine am_iload (x := (k : Int)) X (by rfl) dX4_inherit_138 ?_
                    refine am_iload (x := 1) X (by rfl) dX4_inherit_140 ?_
                    refine am_if_eq (tgt := 149) X dX4_inherit_142 (by decide) (fun h142 => ?_) (fun h142 => ?_)
                    · skip
                      refine am_aload_n (x := 16) X (by rfl) dX4_inherit_149 ?_
                      refine am_getr (c1 := 18) X 16 fl_X4_15 (by decide) sh_16 (by decide) (by rfl) dX4_inherit_150 ?_
                      refine am_iload (x := (k : Int)) X (by rfl) dX4_inherit_153 ?_
                      refine am_ald (v := (led_inh p q k σ) 18 k) X 18 k sh_18 (by omega) (by omega) (by simp [am_up]) dX4_inherit_155 ?_
                      refine am_ast X 18 k sh_18 (by omega) (by omega) dX4_inherit_156 ?_
                      refine am_inc (x := s) (v := (s + 1)) (L' := [some (vr 16), some (vi p), some (vi q), some (vi (s + 1)), some (vi (k : Int)), some (vi 1), some (vi 1)]) X (by rfl) (by omega) (by omega) (by rfl) dX4_inherit_157 ?_
                      refine am_inc (x := (k : Int)) (v := ((k : Int) + 1)) (L' := [some (vr 16), some (vi p), some (vi q), some (vi (s + 1)), some (vi ((k : Int) + 1)), some (vi 1), some (vi 1)]) X (by rfl) (by omega) (by omega) (by rfl) dX4_inherit_160 ?_
                      refine am_goto (tgt := 5) X dX4_inherit_163 (by decide) ?_
                      refine am_fg [true, true, true, true, true, false, false] rfl (L' := [some (vr 16), some (vi p), some (vi q), some (vi (s + 1)), some (vi ((k : Int) + 1)), none, none]) rfl ?_
                      refine am_sg (led_inh p q (k + 1) σ) (by symm; show am_it _ (k + 1) σ = _; rw [am_it_succ]; show led_inh1 p q k (led_inh p q k σ) = _; unfold led_inh1; (repeat' split) <;> first | rfl | (exfalso; omega)) ?_
                      exact ih5 _ (by omega) (k + 1) _ (by omega) (by (try subst s); (try simp only [hs]); show _ = am_sum (led_moved σ p q) k + led_moved σ p q k; unfold led_moved; (repeat' split) <;> omega) rfl
                    · skip
                      refine am_iload_n (x := q) X (by rfl) dX4_inherit_145 ?_
                      refine am_goto (tgt := 156) X dX4_inherit_146 (by decide) ?_
                      refine am_ast X 18 k sh_18 (by omega) (by omega) dX4_inherit_156 ?_
                      refine am_inc (x := s) (v := (s + 1)) (L' := [some (vr 16), some (vi p), some (vi q), some (vi (s + 1)), some (vi (k : Int)), some (vi 1), some (vi 1)]) X (by rfl) (by omega) (by omega) (by rfl) dX4_inherit_157 ?_
                      refine am_inc (x := (k : Int)) (v := ((k : Int) + 1)) (L' := [some (vr 16), some (vi p), some (vi q), some (vi (s + 1)), some (vi ((k : Int) + 1)), some (vi 1), some (vi 1)]) X (by rfl) (by omega) (by omega) (by rfl) dX4_inherit_160 ?_
                      refine am_goto (tgt := 5) X dX4_inherit_163 (by decide) ?_
                      refine am_fg [true, true, true, true, true, false, false] rfl (L' := [some (vr 16), some (vi p), some (vi q), some (vi (s + 1)), some (vi ((k : Int) + 1)), none, none]) rfl ?_
                      refine am_sg (led_inh p q (k + 1) σ) (by symm; show am_it _ (k + 1) σ = _; rw [am_it_succ]; show led_inh1 p q k (led_inh p q k σ) = _; unfold led_inh1; (repeat' split) <;> first | rfl | (exfalso; omega)) ?_
                      exact ih5 _ (by omega) (k + 1) _ (by omega) (by (try subst s); (try simp only [hs]); show _ = am_sum (led_moved σ p q) k + led_moved σ p q k; unfold led_moved; (repeat' split) <;> omega) rfl
                · skip
                  refine am_aload_n (x := 16) X (by rfl) dX4_inherit_95 ?_
                  refine am_iload (x := (k : Int)) X (by rfl) dX4_inherit_96 ?_
                  refine am_aload_n (x := 16) X (by rfl) dX4_inherit_98 ?_
                  refine am_getr (c1 := 19) X 16 fl_X4_18 (by decide) sh_16 (by decide) (by rfl) dX4_inherit_99 ?_
                  refine am_iload (x := (k : Int)) X (by rfl) dX4_inherit_102 ?_
                  refine am_ald (v := (led_inh p q k σ) 19 k) X 19 k sh_19 (by omega) (by omega) (rfl) dX4_inherit_104 ?_
                  refine am_callVv (ci := 4) X hY lk_X4_45 mf_X4_lessen (m_X4_lessen (k : Int) k (by omega) (by omega) ((led_inh p q k σ) 19 k) (led_inh p q k σ) (by omega)) (by decide) (by decide) (Nat.le_refl _) (Nat.le_refl _) sh_16 rfl rfl rfl (Nat.le_of_ble_eq_true rfl) dX4_inherit_105 (fun sh105 σ105 hp105 => ?_)
                  obtain ⟨rfl, rfl, hq105⟩ := hp105
                  refine am_goto (tgt := 160) X dX4_inherit_108 (by decide) ?_
                  refine am_inc (x := (k : Int)) (v := ((k : Int) + 1)) (L' := [some (vr 16), some (vi p), some (vi q), some (vi s), some (vi ((k : Int) + 1)), some (vi 1), some (vi 1)]) X (by rfl) (by omega) (by omega) (by rfl) dX4_inherit_160 ?_
                  refine am_goto (tgt := 5) X dX4_inherit_163 (by decide) ?_
                  refine am_fg [true, true, true, true, true, false, false] rfl (L' := [some (vr 16), some (vi p), some (vi q), some (vi s), some (vi ((k : Int) + 1)), none, none]) rfl ?_
                  refine am_sg (led_inh p q (k + 1) σ) (by symm; show am_it _ (k + 1) σ = _; rw [am_it_succ]; show led_inh1 p q k (led_inh p q k σ) = _; unfold led_inh1; (repeat' split) <;> first | rfl | (exfalso; omega)) ?_
                  exact ih5 _ (by omega) (k + 1) _ (by omega) (by (try subst s); (try simp only [hs]); show _ = am_sum (led_moved σ p q) k + led_moved σ p q k; unfold led_moved; (repeat' split) <;> omega) rfl
            · skip
              refine am_iload (x := 1) X (by rfl) dX4_inherit_64 ?_
              refine am_if_eq (tgt := 160) X dX4_inherit_66 (by decide) (fun h66 => ?_) (fun h66 => ?_)
              · skip
                refine am_inc (x := (k : Int)) (v := ((k : Int) + 1)) (L' := [some (vr 16), some (vi p), some (vi q), some (vi s), some (vi ((k : Int) + 1)), some (vi 1), some (vi 1)]) X (by rfl) (by omega) (by omega) (by rfl) dX4_inherit_160 ?_
                refine am_goto (tgt := 5) X dX4_inherit_163 (by decide) ?_
                refine am_fg [true, true, true, true, true, false, false] rfl (L' := [some (vr 16), some (vi p), some (vi q), some (vi s), some (vi ((k : Int) + 1)), none, none]) rfl ?_
                refine am_sg (led_inh p q (k + 1) σ) (by symm; show am_it _ (k + 1) σ = _; rw [am_it_succ]; show led_inh1 p q k (led_inh p q k σ) = _; unfold led_inh1; (repeat' split) <;> first | rfl | (exfalso; omega)) ?_
                exact ih5 _ (by omega) (k + 1) _ (by omega) (by (try subst s); (try simp only [hs]); show _ = am_sum (led_moved σ p q) k + led_moved σ p q k; unfold led_moved; (repeat' split) <;> omega) rfl
              · skip
                refine am_iload (x := 1) X (by rfl) dX4_inherit_69 ?_
                refine am_if_eq (tgt := 84) X dX4_inherit_71 (by decide) (fun h71 => ?_) (fun h71 => ?_)
                · skip
                  refine am_aload_n (x := 16) X (by rfl) dX4_inherit_84 ?_
                  refine am_getr (c1 := 17) X 16 fl_X4_9 (by decide) sh_16 (by decide) (by rfl) dX4_inherit_85 ?_
                  refine am_iload (x := (k : Int)) X (by rfl) dX4_inherit_88 ?_
                  refine am_ald (v := (led_inh p q k σ) 17 k) X 17 k sh_17 (by omega) (by omega) (rfl) dX4_inherit_90 ?_
                  refine am_iload_n (x := q) X (by rfl) dX4_inherit_91 ?_
                  refine am_icmp_ne (tgt := 111) X dX4_inherit_92 (by decide) (fun h92 => ?_) (fun h92 => ?_)
                  · skip
                    refine am_aload_n (x := 16) X (by rfl) dX4_inherit_111 ?_
                    refine am_getr (c1 := 17) X 16 fl_X4_9 (by decide) sh_16 (by decide) (by rfl) dX4_inherit_112 ?_
                    refine am_iload (x := (k : Int)) X (by rfl) dX4_inherit_115 ?_
                    refine am_iload (x := 1) X (by rfl) dX4_inherit_117 ?_
                    refine am_if_eq (tgt := 126) X dX4_inherit_119 (by decide) (fun h119 => ?_) (fun h119 => ?_)
                    · skip
                      refine am_aload_n (x := 16) X (by rfl) dX4_inherit_126 ?_
                      refine am_getr (c1 := 17) X 16 fl_X4_9 (by decide) sh_16 (by decide) (by rfl) dX4_inherit_127 ?_
                      refine am_iload (x := (k : Int)) X (by rfl) dX4_inherit_130 ?_
                      refine am_ald (v := (led_inh p q k σ) 17 k) X 17 k sh_17 (by omega) (by omega) (rfl) dX4_inherit_132 ?_
                      refine am_ast X 17 k sh_17 (by omega) (by omega) dX4_inherit_133 ?_
                      refine am_aload_n (x := 16) X (by rfl) dX4_inherit_134 ?_
                      refine am_getr (c1 := 18) X 16 fl_X4_15 (by decide) sh_16 (by decide) (by rfl) dX4_inherit_135 ?_
                      refine am_iload (x := (k : Int)) X (by rfl) dX4_inherit_138 ?_
                      refine am_iload (x := 1) X (by rfl) dX4_inherit_140 ?_
                      refine am_if_eq (tgt := 149) X dX4_inherit_142 (by decide) (fun h142 => ?_) (fun h142 => ?_)
                      · skip
                        refine am_aload_n (x := 16) X (by rfl) dX4_inherit_149 ?_
                        refine am_getr (c1 := 18) X 16 fl_X4_15 (by decide) sh_16 (by decide) (by rfl) dX4_inherit_150 ?_
                        refine am_iload (x := (k : Int)) X (by rfl) dX4_inherit_153 ?_
                        refine am_ald (v := (led_inh p q k σ) 18 k) X 18 k sh_18 (by omega) (by omega) (by simp [am_up]) dX4_inherit_155 ?_
                        refine am_ast X 18 k sh_18 (by omega) (by omega) dX4_inherit_156 ?_
                        refine am_inc (x := s) (v := (s + 1)) (L' := [some (vr 16), some (vi p), some (vi q), some (vi (s + 1)), some (vi (k : Int)), some (vi 1), some (vi 1)]) X (by rfl) (by omega) (by omega) (by rfl) dX4_inherit_157 ?_
                        refine am_inc (x := (k : Int)) (v := ((k : Int) + 1)) (L' := [some (vr 16), some (vi p), some (vi q), some (vi (s + 1)), some (vi ((k : Int) + 1)), some (vi 1), some (vi 1)]) X (by rfl) (by omega) (by omega) (by rfl) dX4_inherit_160 ?_
                        refine am_goto (tgt := 5) X dX4_inherit_163 (by decide) ?_
                        refine am_fg [true, true, true, true, true, false, false] rfl (L' := [some (vr 16), some (vi p), some (vi q), some (vi (s + 1)), some (vi ((k : Int) + 1)), none, none]) rfl ?_
                        refine am_sg (led_inh p q (k + 1) σ) (by symm; show am_it _ (k + 1) σ = _; rw [am_it_succ]; show led_inh1 p q k (led_inh p q k σ) = _; unfold led_inh1; (repeat' split) <;> first | rfl | (exfalso; omega)) ?_
                        exact ih5 _ (by omega) (k + 1) _ (by omega) (by (try subst s); (try simp only [hs]); show _ = am_sum (led_moved σ p q) k + led_moved σ p q k; unfold led_moved; (repeat' split) <;> omega) rfl
                      · skip
                        refine am_iload_n (x := q) X (by rfl) dX4_inherit_145 ?_
                        refine am_goto (tgt := 156) X dX4_inherit_146 (by decide) ?_
                        refine am_ast X 18 k sh_18 (by omega) (by omega) dX4_inherit_156 ?_
                        refine am_inc (x := s) (v := (s + 1)) (L' := [some (vr 16), some (vi p), some (vi q), some (vi (s + 1)), some (vi (k : Int)), some (vi 1), some (vi 1)]) X (by rfl) (by omega) (by omega) (by rfl) dX4_inherit_157 ?_
                        refine am_inc (x := (k : Int)) (v := ((k : Int) + 1)) (L' := [some (vr 16), some (vi p), some (vi q), some (vi (s + 1)), some (vi ((k : Int) + 1)), some (vi 1), some (vi 1)]) X (by rfl) (by omega) (by omega) (by rfl) dX4_inherit_160 ?_
                        refine am_goto (tgt := 5) X dX4_inherit_163 (by decide) ?_
                        refine am_fg [true, true, true, true, true, false, false] rfl (L' := [some (vr 16), some (vi p), some (vi q), some (vi (s + 1)), some (vi ((k : Int) + 1)), none, none]) rfl ?_
                        refine am_sg (led_inh p q (k + 1) σ) (by symm; show am_it _ (k + 1) σ = _; rw [am_it_succ]; show led_inh1 p q k (led_inh p q k σ) = _; unfold led_inh1; (repeat' split) <;> first | rfl | (exfalso; omega)) ?_
                        exact ih5 _ (by omega) (k + 1) _ (by omega) (by (try subst s); (try simp only [hs]); show _ = am_sum (led_moved σ p q) k + led_moved σ p q k; unfold led_moved; (repeat' split) <;> omega) rfl
                    · skip
                      refine am_iload_n (x := q) X (by rfl) dX4_inherit_122 ?_
                      refine am_goto (tgt := 133) X dX4_inherit_123 (by decide) ?_
                      refine am_ast X 17 k sh_17 (by omega) (by omega) dX4_inherit_133 ?_
                      refine am_aload_n (x := 16) X (by rfl) dX4_inherit_134 ?_
                      refine am_getr (c1 := 18) X 16 fl_X4_15 (by decide) sh_16 (by decide) (by rfl) dX4_inherit_135 ?_
                      refine am_iload (x := (k : Int)) X (by rfl) dX4_inherit_138 ?_
                      refine am_iload (x := 1) X (by rfl) dX4_inherit_140 ?_
                      refine am_if_eq (tgt := 149) X dX4_inherit_142 (by decide) (fun h142 => ?_) (fun h142 => ?_)
                      · skip
                        refine am_aload_n (x := 16) X (by rfl) dX4_inherit_149 ?_
                        refine am_getr (c1 := 18) X 16 fl_X4_15 (by decide) sh_16 (by decide) (by rfl) dX4_inherit_150 ?_
                        refine am_iload (x := (k : Int)) X (by rfl) dX4_inherit_153 ?_
                        refine am_ald (v := (led_inh p q k σ) 18 k) X 18 k sh_18 (by omega) (by omega) (by simp [am_up]) dX4_inherit_155 ?_
                        refine am_ast X 18 k sh_18 (by omega) (by omega) dX4_inherit_156 ?_
                        refine am_inc (x := s) (v := (s + 1)) (L' := [some (vr 16), some (vi p), some (vi q), some (vi (s + 1)), some (vi (k : Int)), some (vi 1), some (vi 1)]) X (by rfl) (by omega) (by omega) (by rfl) dX4_inherit_157 ?_
                        refine am_inc (x := (k : Int)) (v := ((k : Int) + 1)) (L' := [some (vr 16), some (vi p), some (vi q), some (vi (s + 1)), some (vi ((k : Int) + 1)), some (vi 1), some (vi 1)]) X (by rfl) (by omega) (by omega) (by rfl) dX4_inherit_160 ?_
                        refine am_goto (tgt := 5) X dX4_inherit_163 (by decide) ?_
                        refine am_fg [true, true, true, true, true, false, false] rfl (L' := [some (vr 16), some (vi p), some (vi q), some (vi (s + 1)), some (vi ((k : Int) + 1)), none, none]) rfl ?_
                        refine am_sg (led_inh p q (k + 1) σ) (by symm; show am_it _ (k + 1) σ = _; rw [am_it_succ]; show led_inh1 p q k (led_inh p q k σ) = _; unfold led_inh1; (repeat' split) <;> first | rfl | (exfalso; omega)) ?_
                        exact ih5 _ (by omega) (k + 1) _ (by omega) (by (try subst s); (try simp only [hs]); show _ = am_sum (led_moved σ p q) k + led_moved σ p q k; unfold led_moved; (repeat' split) <;> omega) rfl
                      · skip
                        refine am_iload_n (x := q) X (by rfl) dX4_inherit_145 ?_
                        refine am_goto (tgt := 156) X dX4_inherit_146 (by decide) ?_
                        refine am_ast X 18 k sh_18 (by omega) (by omega) dX4_inherit_156 ?_
                        refine am_inc (x := s) (v := (s + 1)) (L' := [some (vr 16), some (vi p), some (vi q), some (vi (s + 1)), some (vi (k : Int)), some (vi 1), some (vi 1)]) X (by rfl) (by omega) (by omega) (by rfl) dX4_inherit_157 ?_
                        refine am_inc (x := (k : Int)) (v := ((k : Int) + 1)) (L' := [some (vr 16), some (vi p), some (vi q), some (vi (s + 1)), some (vi ((k : Int) + 1)), some (vi 1), some (vi 1)]) X (by rfl) (by omega) (by omega) (by rfl) dX4_inherit_160 ?_
                        refine am_goto (tgt := 5) X dX4_inherit_163 (by decide) ?_
                        refine am_fg [true, true, true, true, true, false, false] rfl (L' := [some (vr 16), some (vi p), some (vi q), some (vi (s + 1)), some (vi ((k : Int) + 1)), none, none]) rfl ?_
                        refine am_sg (led_inh p q (k + 1) σ) (by symm; show am_it _ (k + 1) σ = _; rw [am_it_succ]; show led_inh1 p q k (led_inh p q k σ) = _; unfold led_inh1; (repeat' split) <;> first | rfl | (exfalso; omega)) ?_
                        exact ih5 _ (by omega) (k + 1) _ (by omega) (by (try subst s); (try simp only [hs]); show _ = am_sum (led_moved σ p q) k + led_moved σ p q k; unfold led_moved; (repeat' split) <;> omega) rfl
                  · skip
                    refine am_aload_n (x := 16) X (by rfl) dX4_inherit_95 ?_
                    refine am_iload (x := (k : Int)) X (by rfl) dX4_inherit_96 ?_
                    refine am_aload_n (x := 16) X (by rfl) dX4_inherit_98 ?_
                    refine am_getr (c1 := 19) X 16 fl_X4_18 (by decide) sh_16 (by decide) (by rfl) dX4_inherit_99 ?_
                    refine am_iload (x := (k : Int)) X (by rfl) dX4_inherit_102 ?_
                    refine am_ald (v := (led_inh p q k σ) 19 k) X 19 k sh_19 (by omega) (by omega) (rfl) dX4_inherit_104 ?_
                    refine am_callVv (ci := 4) X hY lk_X4_45 mf_X4_lessen (m_X4_lessen (k : Int) k (by omega) (by omega) ((led_inh p q k σ) 19 k) (led_inh p q k σ) (by omega)) (by decide) (by decide) (Nat.le_refl _) (Nat.le_refl _) sh_16 rfl rfl rfl (Nat.le_of_ble_eq_true rfl) dX4_inherit_105 (fun sh105 σ105 hp105 => ?_)
                    obtain ⟨rfl, rfl, hq105⟩ := hp105
                    refine am_goto (tgt := 160) X dX4_inherit_108 (by decide) ?_
                    refine am_inc (x := (k : Int)) (v := ((k : Int) + 1)) (L' := [some (vr 16), some (vi p), some (vi q), some (vi s), some (vi ((k : Int) + 1)), some (vi 1), some (vi 1)]) X (by rfl) (by omega) (by omega) (by rfl) dX4_inherit_160 ?_
                    refine am_goto (tgt := 5) X dX4_inherit_163 (by decide) ?_
                    refine am_fg [true, true, true, true, true, false, false] rfl (L' := [some (vr 16), some (vi p), some (vi q), some (vi s), some (vi ((k : Int) + 1)), none, none]) rfl ?_
                    refine am_sg (led_inh p q (k + 1) σ) (by symm; show am_it _ (k + 1) σ = _; rw [am_it_succ]; show led_inh1 p q k (led_inh p q k σ) = _; unfold led_inh1; (repeat' split) <;> first | rfl | (exfalso; omega)) ?_
                    exact ih5 _ (by omega) (k + 1) _ (by omega) (by (try subst s); (try simp only [hs]); show _ = am_sum (led_moved σ p q) k + led_moved σ p q k; unfold led_moved; (repeat' split) <;> omega) rfl
                · skip
                  refine am_aload_n (x := 16) X (by rfl) dX4_inherit_74 ?_
                  refine am_getr (c1 := 18) X 16 fl_X4_15 (by decide) sh_16 (by decide) (by rfl) dX4_inherit_75 ?_
                  refine am_iload (x := (k : Int)) X (by rfl) dX4_inherit_78 ?_
                  refine am_ald (v := (led_inh p q k σ) 18 k) X 18 k sh_18 (by omega) (by omega) (rfl) dX4_inherit_80 ?_
                  refine am_goto (tgt := 91) X dX4_inherit_81 (by decide) ?_
                  refine am_iload_n (x := q) X (by rfl) dX4_inherit_91 ?_
                  refine am_icmp_ne (tgt := 111) X dX4_inherit_92 (by decide) (fun h92 => ?_) (fun h92 => ?_)
                  · skip
                    refine am_aload_n (x := 16) X (by rfl) dX4_inherit_111 ?_
                    refine am_getr (c1 := 17) X 16 fl_X4_9 (by decide) sh_16 (by decide) (by rfl) dX4_inherit_112 ?_
                    refine am_iload (x := (k : Int)) X (by rfl) dX4_inherit_115 ?_
                    refine am_iload (x := 1) X (by rfl) dX4_inherit_117 ?_
                    refine am_if_eq (tgt := 126) X dX4_inherit_119 (by decide) (fun h119 => ?_) (fun h119 => ?_)
                    · skip
                      refine am_aload_n (x := 16) X (by rfl) dX4_inherit_126 ?_
                      refine am_getr (c1 := 17) X 16 fl_X4_9 (by decide) sh_16 (by decide) (by rfl) dX4_inherit_127 ?_
                      refine am_iload (x := (k : Int)) X (by rfl) dX4_inherit_130 ?_
                      refine am_ald (v := (led_inh p q k σ) 17 k) X 17 k sh_17 (by omega) (by omega) (rfl) dX4_inherit_132 ?_
                      refine am_ast X 17 k sh_17 (by omega) (by omega) dX4_inherit_133 ?_
                      refine am_aload_n (x := 16) X (by rfl) dX4_inherit_134 ?_
                      refine am_getr (c1 := 18) X 16 fl_X4_15 (by decide) sh_16 (by decide) (by rfl) dX4_inherit_135 ?_
                      refine am_iload (x := (k : Int)) X (by rfl) dX4_inherit_138 ?_
                      refine am_iload (x := 1) X (by rfl) dX4_inherit_140 ?_
                      refine am_if_eq (tgt := 149) X dX4_inherit_142 (by decide) (fun h142 => ?_) (fun h142 => ?_)
                      · skip
                        refine am_aload_n (x := 16) X (by rfl) dX4_inherit_149 ?_
                        refine am_getr (c1 := 18) X 16 fl_X4_15 (by decide) sh_16 (by decide) (by rfl) dX4_inherit_150 ?_
                        refine am_iload (x := (k : Int)) X (by rfl) dX4_inherit_153 ?_
                        refine am_ald (v := (led_inh p q k σ) 18 k) X 18 k sh_18 (by omega) (by omega) (by simp [am_up]) dX4_inherit_155 ?_
                        refine am_ast X 18 k sh_18 (by omega) (by omega) dX4_inherit_156 ?_
                        refine am_inc (x := s) (v := (s + 1)) (L' := [some (vr 16), some (vi p), some (vi q), some (vi (s + 1)), some (vi (k : Int)), some (vi 1), some (vi 1)]) X (by rfl) (by omega) (by omega) (by rfl) dX4_inherit_157 ?_
                        refine am_inc (x := (k : Int)) (v := ((k : Int) + 1)) (L' := [some (vr 16), some (vi p), some (vi q), some (vi (s + 1)), some (vi ((k : Int) + 1)), some (vi 1), some (vi 1)]) X (by rfl) (by omega) (by omega) (by rfl) dX4_inherit_160 ?_
                        refine am_goto (tgt := 5) X dX4_inherit_163 (by decide) ?_
                        refine am_fg [true, true, true, true, true, false, false] rfl (L' := [some (vr 16), some (vi p), some (vi q), some (vi (s + 1)), some (vi ((k : Int) + 1)), none, none]) rfl ?_
                        refine am_sg (led_inh p q (k + 1) σ) (by symm; show am_it _ (k + 1) σ = _; rw [am_it_succ]; show led_inh1 p q k (led_inh p q k σ) = _; unfold led_inh1; (repeat' split) <;> first | rfl | (exfalso; omega)) ?_
                        exact ih5 _ (by omega) (k + 1) _ (by omega) (by (try subst s); (try simp only [hs]); show _ = am_sum (led_moved σ p q) k + led_moved σ p q k; unfold led_moved; (repeat' split) <;> omega) rfl
                      · skip
                        refine am_iload_n (x := q) X (by rfl) dX4_inherit_145 ?_
                        refine am_goto (tgt := 156) X dX4_inherit_146 (by decide) ?_
                        refine am_ast X 18 k sh_18 (by omega) (by omega) dX4_inherit_156 ?_
                        refine am_inc (x := s) (v := (s + 1)) (L' := [some (vr 16), some (vi p), some (vi q), some (vi (s + 1)), some (vi (k : Int)), some (vi 1), some (vi 1)]) X (by rfl) (by omega) (by omega) (by rfl) dX4_inherit_157 ?_
                        refine am_inc (x := (k : Int)) (v := ((k : Int) + 1)) (L' := [some (vr 16), some (vi p), some (vi q), some (vi (s + 1)), some (vi ((k : Int) + 1)), some (vi 1), some (vi 1)]) X (by rfl) (by omega) (by omega) (by rfl) dX4_inherit_160 ?_
                        refine am_goto (tgt := 5) X dX4_inherit_163 (by decide) ?_
                        refine am_fg [true, true, true, true, true, false, false] rfl (L' := [some (vr 16), some (vi p), some (vi q), some (vi (s + 1)), some (vi ((k : Int) + 1)), none, none]) rfl ?_
                        refine am_sg (led_inh p q (k + 1) σ) (by symm; show am_it _ (k + 1) σ = _; rw [am_it_succ]; show led_inh1 p q k (led_inh p q k σ) = _; unfold led_inh1; (repeat' split) <;> first | rfl | (exfalso; omega)) ?_
                        exact ih5 _ (by omega) (k + 1) _ (by omega) (by (try subst s); (try simp only [hs]); show _ = am_sum (led_moved σ p q) k + led_moved σ p q k; unfold led_moved; (repeat' split) <;> omega) rfl
                    · skip
                      refine am_iload_n (x := q) X (by rfl) dX4_inherit_122 ?_
                      refine am_goto (tgt := 133) X dX4_inherit_123 (by decide) ?_
                      refine am_ast X 17 k sh_17 (by omega) (by omega) dX4_inherit_133 ?_
                      refine am_aload_n (x := 16) X (by rfl) dX4_inherit_134 ?_
                      refine am_getr (c1 := 18) X 16 fl_X4_15 (by decide) sh_16 (by decide) (by rfl) dX4_inherit_135 ?_
                      refine am_iload (x := (k : Int)) X (by rfl) dX4_inherit_138 ?_
                      refine am_iload (x := 1) X (by rfl) dX4_inherit_140 ?_
                      refine am_if_eq (tgt := 149) X dX4_inherit_142 (by decide) (fun h142 => ?_) (fun h142 => ?_)
                      · skip
                        refine am_aload_n (x := 16) X (by rfl) dX4_inherit_149 ?_
                        refine am_getr (c1 := 18) X 16 fl_X4_15 (by decide) sh_16 (by decide) (by rfl) dX4_inherit_150 ?_
                        refine am_iload (x := (k : Int)) X (by rfl) dX4_inherit_153 ?_
                        refine am_ald (v := (led_inh p q k σ) 18 k) X 18 k sh_18 (by omega) (by omega) (by simp [am_up]) dX4_inherit_155 ?_
                        refine am_ast X 18 k sh_18 (by omega) (by omega) dX4_inherit_156 ?_
                        refine am_inc (x := s) (v := (s + 1)) (L' := [some (vr 16), some (vi p), some (vi q), some (vi (s + 1)), some (vi (k : Int)), some (vi 1), some (vi 1)]) X (by rfl) (by omega) (by omega) (by rfl) dX4_inherit_157 ?_
                        refine am_inc (x := (k : Int)) (v := ((k : Int) + 1)) (L' := [some (vr 16), some (vi p), some (vi q), some (vi (s + 1)), some (vi ((k : Int) + 1)), some (vi 1), some (vi 1)]) X (by rfl) (by omega) (by omega) (by rfl) dX4_inherit_160 ?_
                        refine am_goto (tgt := 5) X dX4_inherit_163 (by decide) ?_
                        refine am_fg [true, true, true, true, true, false, false] rfl (L' := [some (vr 16), some (vi p), some (vi q), some (vi (s + 1)), some (vi ((k : Int) + 1)), none, none]) rfl ?_
                        refine am_sg (led_inh p q (k + 1) σ) (by symm; show am_it _ (k + 1) σ = _; rw [am_it_succ]; show led_inh1 p q k (led_inh p q k σ) = _; unfold led_inh1; (repeat' split) <;> first | rfl | (exfalso; omega)) ?_
                        exact ih5 _ (by omega) (k + 1) _ (by omega) (by (try subst s); (try simp only [hs]); show _ = am_sum (led_moved σ p q) k + led_moved σ p q k; unfold led_moved; (repeat' split) <;> omega) rfl
                      · skip
                        refine am_iload_n (x := q) X (by rfl) dX4_inherit_145 ?_
                        refine am_goto (tgt := 156) X dX4_inherit_146 (by decide) ?_
                        refine am_ast X 18 k sh_18 (by omega) (by omega) dX4_inherit_156 ?_
                        refine am_inc (x := s) (v := (s + 1)) (L' := [some (vr 16), some (vi p), some (vi q), some (vi (s + 1)), some (vi (k : Int)), some (vi 1), some (vi 1)]) X (by rfl) (by omega) (by omega) (by rfl) dX4_inherit_157 ?_
                        refine am_inc (x := (k : Int)) (v := ((k : Int) + 1)) (L' := [some (vr 16), some (vi p), some (vi q), some (vi (s + 1)), some (vi ((k : Int) + 1)), some (vi 1), some (vi 1)]) X (by rfl) (by omega) (by omega) (by rfl) dX4_inherit_160 ?_
                        refine am_goto (tgt := 5) X dX4_inherit_163 (by decide) ?_
                        refine am_fg [true, true, true, true, true, false, false] rfl (L' := [some (vr 16), some (vi p), some (vi q), some (vi (s + 1)), some (vi ((k : Int) + 1)), none, none]) rfl ?_
                        refine am_sg (led_inh p q (k + 1) σ) (by symm; show am_it _ (k + 1) σ = _; rw [am_it_succ]; show led_inh1 p q k (led_inh p q k σ) = _; unfold led_inh1; (repeat' split) <;> first | rfl | (exfalso; omega)) ?_
                        exact ih5 _ (by omega) (k + 1) _ (by omega) (by (try subst s); (try simp only [hs]); show _ = am_sum (led_moved σ p q) k + led_moved σ p q k; unfold led_moved; (repeat' split) <;> omega) rfl
                  · skip
                    refine am_aload_n (x := 16) X (by rfl) dX4_inherit_95 ?_
                    refine am_iload (x := (k : Int)) X (by rfl) dX4_inherit_96 ?_
                    refine am_aload_n (x := 16) X (by rfl) dX4_inherit_98 ?_
                    refine am_getr (c1 := 19) X 16 fl_X4_18 (by decide) sh_16 (by decide) (by rfl) dX4_inherit_99 ?_
                    refine am_iload (x := (k : Int)) X (by rfl) dX4_inherit_102 ?_
                    refine am_ald (v := (led_inh p q k σ) 19 k) X 19 k sh_19 (by omega) (by omega) (rfl) dX4_inherit_104 ?_
                    refine am_callVv (ci := 4) X hY lk_X4_45 mf_X4_lessen (m_X4_lessen (k : Int) k (by omega) (by omega) ((led_inh p q k σ) 19 k) (led_inh p q k σ) (by omega)) (by decide) (by decide) (Nat.le_refl _) (Nat.le_refl _) sh_16 rfl rfl rfl (Nat.le_of_ble_eq_true rfl) dX4_inherit_105 (fun sh105 σ105 hp105 => ?_)
                    obtain ⟨rfl, rfl, hq105⟩ := hp105
                    refine am_goto (tgt := 160) X dX4_inherit_108 (by decide) ?_
                    refine am_inc (x := (k : Int)) (v := ((k : Int) + 1)) (L' := [some (vr 16), some (vi p), some (vi q), some (vi s), some (vi ((k : Int) + 1)), some (vi 1), some (vi 1)]) X (by rfl) (by omega) (by omega) (by rfl) dX4_inherit_160 ?_
                    refine am_goto (tgt := 5) X dX4_inherit_163 (by decide) ?_
                    refine am_fg [true, true, true, true, true, false, false] rfl (L' := [some (vr 16), some (vi p), some (vi q), some (vi s), some (vi ((k : Int) + 1)), none, none]) rfl ?_
                    refine am_sg (led_inh p q (k + 1) σ) (by symm; show am_it _ (k + 1) σ = _; rw [am_it_succ]; show led_inh1 p q k (led_inh p q k σ) = _; unfold led_inh1; (repeat' split) <;> first | rfl | (exfalso; omega)) ?_
                    exact ih5 _ (by omega) (k + 1) _ (by omega) (by (try subst s); (try simp only [hs]); show _ = am_sum (led_moved σ p q) k + led_moved σ p q k; unfold led_moved; (repeat' split) <;> omega) rfl
  exact hL5 _ 0 0 (by omega) (rfl) rfl
