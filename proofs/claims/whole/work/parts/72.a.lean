set_option maxHeartbeats 4000000 in
set_option maxRecDepth 100000 in
theorem m_X10_begins (n : Int) (σ : am_H) (hr : 0 ≤ σ 63 42 ∧ σ 63 42 < 2000) : am_Mv yX10_begins cX10_begins 2 none 0 0 0 [vr 63, vi n] SH σ (fun sh' σ' => SH = sh' ∧ md_note σ n = σ' ∧ True) := by
  refine am_Mv_of (by decide +kernel) (Nat.le_of_ble_eq_true rfl) (fun K X hY hI hret => ?_)
  show am_G K 0 [some (vr 63), some (vi n)] [] SH σ
  refine am_aload_n (x := 63) X (by rfl) dX10_begins_0 ?_
  refine am_get (v := σ 63 42) X 63 fl_X10_314 (by decide) sh_63 (by decide) (rfl) dX10_begins_1 ?_
  refine am_bipush X (by decide) dX10_begins_4 ?_
  refine am_icmp_ge (tgt := 19) X dX10_begins_6 (by decide) (fun h6 => ?_) (fun h6 => ?_)
  · skip
    refine am_aload_n (x := 63) X (by rfl) dX10_begins_19 ?_
    refine am_dup X (Nat.ne_of_beq_eq_false rfl) dX10_begins_20 ?_
    refine am_get (v := σ 63 42) X 63 fl_X10_314 (by decide) sh_63 (by decide) (rfl) dX10_begins_21 ?_
    refine am_ic X (by decide) dX10_begins_24 ?_
    refine am_add (v := (σ 63 42 + 1)) X (by first | rfl | omega) (by omega) dX10_begins_25 ?_
    refine am_puti X 63 fl_X10_314 rfl rfl sh_63 (by decide) dX10_begins_26 ?_
    exact hret _ _ _ _ dX10_begins_29 rfl rfl (by refine ⟨rfl, ?_, trivial⟩; unfold md_note; first | rw [if_pos (by omega)] | rw [if_neg (by omega)])
  · skip
    refine am_aload_n (x := 63) X (by rfl) dX10_begins_9 ?_
    refine am_getr (c1 := 85) X 63 fl_X10_74 (by decide) sh_63 (by decide) (by rfl) dX10_begins_10 ?_
    refine am_aload_n (x := 63) X (by rfl) dX10_begins_13 ?_
    refine am_get (v := σ 63 42) X 63 fl_X10_314 (by decide) sh_63 (by decide) (rfl) dX10_begins_14 ?_
    refine am_iload_n (x := n) X (by rfl) dX10_begins_17 ?_
    refine am_ast X 85 ((σ 63 42).toNat) sh_85 (by omega) (by omega) dX10_begins_18 ?_
    refine am_aload_n (x := 63) X (by rfl) dX10_begins_19 ?_
    refine am_dup X (Nat.ne_of_beq_eq_false rfl) dX10_begins_20 ?_
    refine am_get (v := σ 63 42) X 63 fl_X10_314 (by decide) sh_63 (by decide) (by simp [am_up]) dX10_begins_21 ?_
    refine am_ic X (by decide) dX10_begins_24 ?_
    refine am_add (v := (σ 63 42 + 1)) X (by first | rfl | omega) (by omega) dX10_begins_25 ?_
    refine am_puti X 63 fl_X10_314 rfl rfl sh_63 (by decide) dX10_begins_26 ?_
    exact hret _ _ _ _ dX10_begins_29 rfl rfl (by refine ⟨rfl, ?_, trivial⟩; unfold md_note; first | rw [if_pos (by omega)] | rw [if_neg (by omega)])

set_option maxHeartbeats 4000000 in
set_option maxRecDepth 100000 in
theorem m_d0_0_0 (x : Int) (σ : am_H) (ac : Nat) (hac : σ 63 44 = (ac : Int)) (hK : σ 63 43 = 0) (hr : 0 ≤ σ 63 42 ∧ σ 63 42 ≤ 299) : am_Mi yX10_owesAs cX10_owesAs 3 (some .int) 1 0 0 [vr 63, vi 0, vi x] SH σ (fun r sh' σ' => SH = sh' ∧ (mn [1] σ) = σ' ∧ r = (w32 (x + (ac : Int)))) := by
  refine am_Mi_of (by decide +kernel) (Nat.le_of_ble_eq_true rfl) (fun K X hY hI hret => ?_)
  show am_G K 0 [some (vr 63), some (vi 0), some (vi x)] [] SH σ
  refine am_iload_n (x := 0) X (by rfl) dX10_owesAs_0 ?_
  refine am_ic X (by decide) dX10_owesAs_1 ?_
  refine am_icmp_eq (tgt := 16) X dX10_owesAs_2 (by decide) (fun h => absurd h (by decide)) (fun _ => ?_)
  refine am_iload_n (x := 0) X (by rfl) dX10_owesAs_5 ?_
  refine am_ic X (by decide) dX10_owesAs_6 ?_
  refine am_icmp_eq (tgt := 16) X dX10_owesAs_7 (by decide) (fun h => absurd h (by decide)) (fun _ => ?_)
  refine am_iload_n (x := 0) X (by rfl) dX10_owesAs_10 ?_
  refine am_bipush X (by decide) dX10_owesAs_11 ?_
  refine am_icmp_ne (tgt := 31) X dX10_owesAs_13 (by decide) (fun _ => ?_) (fun h => absurd h (by decide))
  refine am_iload_n (x := 0) X (by rfl) dX10_owesAs_31 ?_
  refine am_bipush X (by decide) dX10_owesAs_32 ?_
  refine am_icmp_ne (tgt := 52) X dX10_owesAs_34 (by decide) (fun _ => ?_) (fun h => absurd h (by decide))
  refine am_aload_n (x := 63) X (by rfl) dX10_owesAs_52 ?_
  refine am_ic X (by decide) dX10_owesAs_53 ?_
  refine am_callVv (ci := 9) X hY lk_X10_317 mf_X10_begins (m_X10_begins 1 σ (by omega)) (by decide) (by decide) (Nat.le_refl _) (Nat.le_refl _) sh_63 rfl rfl rfl (Nat.le_of_ble_eq_true rfl) dX10_owesAs_54 (fun sh54 σ54 hp54 => ?_)
  obtain ⟨rfl, rfl, hq54⟩ := hp54
  refine am_sg (mn [1] σ) rfl ?_
  refine am_iload_n (x := x) X (by rfl) dX10_owesAs_57 ?_
  refine am_aload_n (x := 63) X (by rfl) dX10_owesAs_58 ?_
  refine am_get (v := (ac : Int)) X 63 fl_X10_324 (by decide) sh_63 (by decide) ((mn_at [1] (by decide) (Or.inr (by decide))).trans hac) dX10_owesAs_59 ?_
  refine am_iadd X dX10_owesAs_62 ?_
  exact hret _ _ _ _ _ dX10_owesAs_63 rfl rfl (by subst_vars; exact ⟨rfl, rfl, rfl⟩)

set_option maxHeartbeats 4000000 in
set_option maxRecDepth 100000 in
theorem m_d0_1_0 (x : Int) (σ : am_H) (ac : Nat) (hac : σ 63 44 = (ac : Int)) (hK : σ 63 43 = 0) (hr : 0 ≤ σ 63 42 ∧ σ 63 42 ≤ 298) : am_Mi yX10_worksAs cX10_worksAs 4 (some .int) 2 0 0 [vr 63, vi 0, vi x] SH σ (fun r sh' σ' => SH = sh' ∧ (mn [10, 1] σ) = σ' ∧ r = (w32 ((w32 (x + (ac : Int))) * 2))) := by
  refine am_Mi_of (by decide +kernel) (Nat.le_of_ble_eq_true rfl) (fun K X hY hI hret => ?_)
  show am_G K 0 [some (vr 63), some (vi 0), some (vi x), none] [] SH σ
  refine am_iload_n (x := 0) X (by rfl) dX10_worksAs_0 ?_
  refine am_ic X (by decide) dX10_worksAs_1 ?_
  refine am_icmp_eq (tgt := 10) X dX10_worksAs_2 (by decide) (fun h => absurd h (by decide)) (fun _ => ?_)
  refine am_iload_n (x := 0) X (by rfl) dX10_worksAs_5 ?_
  refine am_ic X (by decide) dX10_worksAs_6 ?_
  refine am_icmp_ne (tgt := 25) X dX10_worksAs_7 (by decide) (fun _ => ?_) (fun h => absurd h (by decide))
  refine am_iload_n (x := 0) X (by rfl) dX10_worksAs_25 ?_
  refine am_ic X (by decide) dX10_worksAs_26 ?_
  refine am_icmp_ne (tgt := 44) X dX10_worksAs_27 (by decide) (fun _ => ?_) (fun h => absurd h (by decide))
  refine am_iload_n (x := 0) X (by rfl) dX10_worksAs_44 ?_
  refine am_bipush X (by decide) dX10_worksAs_45 ?_
  refine am_icmp_ne (tgt := 75) X dX10_worksAs_47 (by decide) (fun _ => ?_) (fun h => absurd h (by decide))
  refine am_aload_n (x := 63) X (by rfl) dX10_worksAs_75 ?_
  refine am_bipush X (by decide) dX10_worksAs_76 ?_
  refine am_callVv (ci := 9) X hY lk_X10_317 mf_X10_begins (m_X10_begins 10 σ (by omega)) (by decide) (by decide) (Nat.le_refl _) (Nat.le_refl _) sh_63 rfl rfl rfl (Nat.le_of_ble_eq_true rfl) dX10_worksAs_78 (fun sh78 σ78 hp78 => ?_)
  obtain ⟨rfl, rfl, hq78⟩ := hp78
  refine am_sg (mn [10] σ) rfl ?_
  refine am_aload_n (x := 63) X (by rfl) dX10_worksAs_81 ?_
  refine am_aload_n (x := 63) X (by rfl) dX10_worksAs_82 ?_
  refine am_get (v := 0) X 63 fl_X10_330 (by decide) sh_63 (by decide) ((mn_at [10] (by decide) (Or.inr (by decide))).trans hK) dX10_worksAs_83 ?_
  refine am_iload_n (x := x) X (by rfl) dX10_worksAs_86 ?_
  refine am_callVi (ci := 9) X hY lk_X10_321 mf_X10_owesAs (m_d0_0_0 x (mn [10] σ) ac ((mn_at [10] (by decide) (Or.inr (by decide))).trans hac) ((mn_at [10] (by decide) (Or.inr (by decide))).trans hK) (by rw [mn_3]; show 0 ≤ σ 63 42 + 1 ∧ σ 63 42 + 1 ≤ _; omega)) (by decide) (by decide) (Nat.le_refl _) (Nat.le_refl _) sh_63 rfl rfl rfl (Nat.le_of_ble_eq_true rfl) dX10_worksAs_87 (fun r87 sh87 σ87 hr87 hp87 => ?_)
  obtain ⟨rfl, rfl, hq87⟩ := hp87
  refine am_sg (mn [10, 1] σ) (mn_app [10] [1] σ) ?_
  refine am_ic X (by decide) dX10_worksAs_90 ?_
  refine am_imul X dX10_worksAs_91 ?_
  exact hret _ _ _ _ _ dX10_worksAs_92 rfl rfl (by subst_vars; exact ⟨rfl, rfl, rfl⟩)

set_option maxHeartbeats 4000000 in
set_option maxRecDepth 100000 in
theorem m_d0_2_0 (x : Int) (σ : am_H) (ac : Nat) (hac : σ 63 44 = (ac : Int)) (hK : σ 63 43 = 0) (hr : 0 ≤ σ 63 42 ∧ σ 63 42 ≤ 299) : am_Mi yX10_asksAs cX10_asksAs 4 (some .int) 1 0 0 [vr 63, vi 0, vi x] SH σ (fun r sh' σ' => SH = sh' ∧ (mn [11] σ) = σ' ∧ r = (am_xor x (ac : Int))) := by
  refine am_Mi_of (by decide +kernel) (Nat.le_of_ble_eq_true rfl) (fun K X hY hI hret => ?_)
  show am_G K 0 [some (vr 63), some (vi 0), some (vi x), none] [] SH σ
  refine am_iload_n (x := 0) X (by rfl) dX10_asksAs_0 ?_
  refine am_ic X (by decide) dX10_asksAs_1 ?_
  refine am_icmp_eq (tgt := 10) X dX10_asksAs_2 (by decide) (fun h => absurd h (by decide)) (fun _ => ?_)
  refine am_iload_n (x := 0) X (by rfl) dX10_asksAs_5 ?_
  refine am_ic X (by decide) dX10_asksAs_6 ?_
  refine am_icmp_ne (tgt := 25) X dX10_asksAs_7 (by decide) (fun _ => ?_) (fun h => absurd h (by decide))
  refine am_iload_n (x := 0) X (by rfl) dX10_asksAs_25 ?_
  refine am_ic X (by decide) dX10_asksAs_26 ?_
  refine am_icmp_eq (tgt := 36) X dX10_asksAs_27 (by decide) (fun h => absurd h (by decide)) (fun _ => ?_)
  refine am_iload_n (x := 0) X (by rfl) dX10_asksAs_30 ?_
  refine am_bipush X (by decide) dX10_asksAs_31 ?_
  refine am_icmp_ne (tgt := 61) X dX10_asksAs_33 (by decide) (fun _ => ?_) (fun h => absurd h (by decide))
  refine am_aload_n (x := 63) X (by rfl) dX10_asksAs_61 ?_
  refine am_bipush X (by decide) dX10_asksAs_62 ?_
  refine am_callVv (ci := 9) X hY lk_X10_317 mf_X10_begins (m_X10_begins 11 σ (by omega)) (by decide) (by decide) (Nat.le_refl _) (Nat.le_refl _) sh_63 rfl rfl rfl (Nat.le_of_ble_eq_true rfl) dX10_asksAs_64 (fun sh64 σ64 hp64 => ?_)
  obtain ⟨rfl, rfl, hq64⟩ := hp64
  refine am_sg (mn [11] σ) rfl ?_
  refine am_iload_n (x := x) X (by rfl) dX10_asksAs_67 ?_
  refine am_aload_n (x := 63) X (by rfl) dX10_asksAs_68 ?_
  refine am_get (v := (ac : Int)) X 63 fl_X10_324 (by decide) sh_63 (by decide) ((mn_at [11] (by decide) (Or.inr (by decide))).trans hac) dX10_asksAs_69 ?_
  refine am_ixor X dX10_asksAs_72 ?_
  exact hret _ _ _ _ _ dX10_asksAs_73 rfl rfl (by subst_vars; exact ⟨rfl, rfl, rfl⟩)

set_option maxHeartbeats 4000000 in
set_option maxRecDepth 100000 in
theorem m_d0_3_0 (x : Int) (σ : am_H) (ac : Nat) (hac : σ 63 44 = (ac : Int)) (hK : σ 63 43 = 0) (hr : 0 ≤ σ 63 42 ∧ σ 63 42 ≤ 296) : am_Mi yX10_tellsAs cX10_tellsAs 4 (some .int) 3 0 0 [vr 63, vi 0, vi x] SH σ (fun r sh' σ' => SH = sh' ∧ (mn [2, 10, 1, 11] σ) = σ' ∧ r = (w32 ((w32 ((w32 (x + (ac : Int))) * 2)) - (am_xor 1 (ac : Int))))) := by
  refine am_Mi_of (by decide +kernel) (Nat.le_of_ble_eq_true rfl) (fun K X hY hI hret => ?_)
  show am_G K 0 [some (vr 63), some (vi 0), some (vi x), none] [] SH σ
  refine am_iload_n (x := 0) X (by rfl) dX10_tellsAs_0 ?_
  refine am_ic X (by decide) dX10_tellsAs_1 ?_
  refine am_icmp_ne (tgt := 20) X dX10_tellsAs_2 (by decide) (fun _ => ?_) (fun h => absurd h (by decide))
  refine am_iload_n (x := 0) X (by rfl) dX10_tellsAs_20 ?_
  refine am_bipush X (by decide) dX10_tellsAs_21 ?_
  refine am_icmp_ne (tgt := 41) X dX10_tellsAs_23 (by decide) (fun _ => ?_) (fun h => absurd h (by decide))
  refine am_aload_n (x := 63) X (by rfl) dX10_tellsAs_41 ?_
  refine am_ic X (by decide) dX10_tellsAs_42 ?_
  refine am_callVv (ci := 9) X hY lk_X10_317 mf_X10_begins (m_X10_begins 2 σ (by omega)) (by decide) (by decide) (Nat.le_refl _) (Nat.le_refl _) sh_63 rfl rfl rfl (Nat.le_of_ble_eq_true rfl) dX10_tellsAs_43 (fun sh43 σ43 hp43 => ?_)
  obtain ⟨rfl, rfl, hq43⟩ := hp43
  refine am_sg (mn [2] σ) rfl ?_
  refine am_aload_n (x := 63) X (by rfl) dX10_tellsAs_46 ?_
  refine am_aload_n (x := 63) X (by rfl) dX10_tellsAs_47 ?_
  refine am_get (v := 0) X 63 fl_X10_330 (by decide) sh_63 (by decide) ((mn_at [2] (by decide) (Or.inr (by decide))).trans hK) dX10_tellsAs_48 ?_
  refine am_iload_n (x := x) X (by rfl) dX10_tellsAs_51 ?_
  refine am_callVi (ci := 9) X hY lk_X10_327 mf_X10_worksAs (m_d0_1_0 x (mn [2] σ) ac ((mn_at [2] (by decide) (Or.inr (by decide))).trans hac) ((mn_at [2] (by decide) (Or.inr (by decide))).trans hK) (by rw [mn_3]; show 0 ≤ σ 63 42 + 1 ∧ σ 63 42 + 1 ≤ _; omega)) (by decide) (by decide) (Nat.le_refl _) (Nat.le_refl _) sh_63 rfl rfl rfl (Nat.le_of_ble_eq_true rfl) dX10_tellsAs_52 (fun r52 sh52 σ52 hr52 hp52 => ?_)
  obtain ⟨rfl, rfl, hq52⟩ := hp52
  refine am_sg (mn [2, 10, 1] σ) (mn_app [2] [10, 1] σ) ?_
  refine am_istore_n (i := 3) (L' := [some (vr 63), some (vi 0), some (vi x), some (vi r52)]) X rfl (Nat.le_of_ble_eq_true rfl) (by rfl) dX10_tellsAs_55 ?_
  refine am_iload_n (x := r52) X (by rfl) dX10_tellsAs_56 ?_
  refine am_aload_n (x := 63) X (by rfl) dX10_tellsAs_57 ?_
  refine am_aload_n (x := 63) X (by rfl) dX10_tellsAs_58 ?_
  refine am_get (v := 0) X 63 fl_X10_330 (by decide) sh_63 (by decide) ((mn_at [2, 10, 1] (by decide) (Or.inr (by decide))).trans hK) dX10_tellsAs_59 ?_
  refine am_ic X (by decide) dX10_tellsAs_62 ?_
  refine am_callVi (ci := 9) X hY lk_X10_333 mf_X10_asksAs (m_d0_2_0 1 (mn [2, 10, 1] σ) ac ((mn_at [2, 10, 1] (by decide) (Or.inr (by decide))).trans hac) ((mn_at [2, 10, 1] (by decide) (Or.inr (by decide))).trans hK) (by rw [mn_3]; show 0 ≤ σ 63 42 + 3 ∧ σ 63 42 + 3 ≤ _; omega)) (by decide) (by decide) (Nat.le_refl _) (Nat.le_refl _) sh_63 rfl rfl rfl (Nat.le_of_ble_eq_true rfl) dX10_tellsAs_63 (fun r63 sh63 σ63 hr63 hp63 => ?_)
  obtain ⟨rfl, rfl, hq63⟩ := hp63
  refine am_sg (mn [2, 10, 1, 11] σ) (mn_app [2, 10, 1] [11] σ) ?_
  refine am_isub X dX10_tellsAs_66 ?_
  exact hret _ _ _ _ _ dX10_tellsAs_67 rfl rfl (by subst_vars; exact ⟨rfl, rfl, rfl⟩)

set_option maxHeartbeats 4000000 in
set_option maxRecDepth 100000 in
theorem m_d1_0_0 (x : Int) (σ : am_H) (ac : Nat) (hac : σ 63 44 = (ac : Int)) (hK : σ 63 43 = 1) (hr : 0 ≤ σ 63 42 ∧ σ 63 42 ≤ 299) : am_Mi yX10_owesAs cX10_owesAs 3 (some .int) 1 0 0 [vr 63, vi 0, vi x] SH σ (fun r sh' σ' => SH = sh' ∧ (mn [1] σ) = σ' ∧ r = (w32 (x + (ac : Int)))) := by
  refine am_Mi_of (by decide +kernel) (Nat.le_of_ble_eq_true rfl) (fun K X hY hI hret => ?_)
  show am_G K 0 [some (vr 63), some (vi 0), some (vi x)] [] SH σ
  refine am_iload_n (x := 0) X (by rfl) dX10_owesAs_0 ?_
  refine am_ic X (by decide) dX10_owesAs_1 ?_
  refine am_icmp_eq (tgt := 16) X dX10_owesAs_2 (by decide) (fun h => absurd h (by decide)) (fun _ => ?_)
  refine am_iload_n (x := 0) X (by rfl) dX10_owesAs_5 ?_
  refine am_ic X (by decide) dX10_owesAs_6 ?_
  refine am_icmp_eq (tgt := 16) X dX10_owesAs_7 (by decide) (fun h => absurd h (by decide)) (fun _ => ?_)
  refine am_iload_n (x := 0) X (by rfl) dX10_owesAs_10 ?_
  refine am_bipush X (by decide) dX10_owesAs_11 ?_
  refine am_icmp_ne (tgt := 31) X dX10_owesAs_13 (by decide) (fun _ => ?_) (fun h => absurd h (by decide))
  refine am_iload_n (x := 0) X (by rfl) dX10_owesAs_31 ?_
  refine am_bipush X (by decide) dX10_owesAs_32 ?_
  refine am_icmp_ne (tgt := 52) X dX10_owesAs_34 (by decide) (fun _ => ?_) (fun h => absurd h (by decide))
  refine am_aload_n (x := 63) X (by rfl) dX10_owesAs_52 ?_
  refine am_ic X (by decide) dX10_owesAs_53 ?_
  refine am_callVv (ci := 9) X hY lk_X10_317 mf_X10_begins (m_X10_begins 1 σ (by omega)) (by decide) (by decide) (Nat.le_refl _) (Nat.le_refl _) sh_63 rfl rfl rfl (Nat.le_of_ble_eq_true rfl) dX10_owesAs_54 (fun sh54 σ54 hp54 => ?_)
  obtain ⟨rfl, rfl, hq54⟩ := hp54
  refine am_sg (mn [1] σ) rfl ?_
  refine am_iload_n (x := x) X (by rfl) dX10_owesAs_57 ?_
  refine am_aload_n (x := 63) X (by rfl) dX10_owesAs_58 ?_
  refine am_get (v := (ac : Int)) X 63 fl_X10_324 (by decide) sh_63 (by decide) ((mn_at [1] (by decide) (Or.inr (by decide))).trans hac) dX10_owesAs_59 ?_
  refine am_iadd X dX10_owesAs_62 ?_
  exact hret _ _ _ _ _ dX10_owesAs_63 rfl rfl (by subst_vars; exact ⟨rfl, rfl, rfl⟩)

set_option maxHeartbeats 4000000 in
set_option maxRecDepth 100000 in
theorem m_d1_0_1 (x : Int) (σ : am_H) (ac : Nat) (hac : σ 63 44 = (ac : Int)) (hK : σ 63 43 = 1) (hr : 0 ≤ σ 63 42 ∧ σ 63 42 ≤ 298) : am_Mi yX10_owesAs cX10_owesAs 3 (some .int) 2 0 0 [vr 63, vi 1, vi x] SH σ (fun r sh' σ' => SH = sh' ∧ (mn [20, 1] σ) = σ' ∧ r = (w32 ((w32 (x + (ac : Int))) + 3))) := by
  refine am_Mi_of (by decide +kernel) (Nat.le_of_ble_eq_true rfl) (fun K X hY hI hret => ?_)
  show am_G K 0 [some (vr 63), some (vi 1), some (vi x)] [] SH σ
  refine am_iload_n (x := 1) X (by rfl) dX10_owesAs_0 ?_
  refine am_ic X (by decide) dX10_owesAs_1 ?_
  refine am_icmp_eq (tgt := 16) X dX10_owesAs_2 (by decide) (fun _ => ?_) (fun h => absurd h (by decide))
  refine am_aload_n (x := 63) X (by rfl) dX10_owesAs_16 ?_
  refine am_bipush X (by decide) dX10_owesAs_17 ?_
  refine am_callVv (ci := 9) X hY lk_X10_317 mf_X10_begins (m_X10_begins 20 σ (by omega)) (by decide) (by decide) (Nat.le_refl _) (Nat.le_refl _) sh_63 rfl rfl rfl (Nat.le_of_ble_eq_true rfl) dX10_owesAs_19 (fun sh19 σ19 hp19 => ?_)
  obtain ⟨rfl, rfl, hq19⟩ := hp19
  refine am_sg (mn [20] σ) rfl ?_
  refine am_aload_n (x := 63) X (by rfl) dX10_owesAs_22 ?_
  refine am_ic X (by decide) dX10_owesAs_23 ?_
  refine am_iload_n (x := x) X (by rfl) dX10_owesAs_24 ?_
  refine am_callVi (ci := 9) X hY lk_X10_321 mf_X10_owesAs (m_d1_0_0 x (mn [20] σ) ac ((mn_at [20] (by decide) (Or.inr (by decide))).trans hac) ((mn_at [20] (by decide) (Or.inr (by decide))).trans hK) (by rw [mn_3]; show 0 ≤ σ 63 42 + 1 ∧ σ 63 42 + 1 ≤ _; omega)) (by decide) (by decide) (Nat.le_refl _) (Nat.le_refl _) sh_63 rfl rfl rfl (Nat.le_of_ble_eq_true rfl) dX10_owesAs_25 (fun r25 sh25 σ25 hr25 hp25 => ?_)
  obtain ⟨rfl, rfl, hq25⟩ := hp25
  refine am_sg (mn [20, 1] σ) (mn_app [20] [1] σ) ?_
  refine am_ic X (by decide) dX10_owesAs_28 ?_
  refine am_iadd X dX10_owesAs_29 ?_
  exact hret _ _ _ _ _ dX10_owesAs_30 rfl rfl (by subst_vars; exact ⟨rfl, rfl, rfl⟩)

set_option maxHeartbeats 4000000 in
set_option maxRecDepth 100000 in
theorem m_d1_1_1 (x : Int) (σ : am_H) (ac : Nat) (hac : σ 63 44 = (ac : Int)) (hK : σ 63 43 = 1) (hr : 0 ≤ σ 63 42 ∧ σ 63 42 ≤ 297) : am_Mi yX10_worksAs cX10_worksAs 4 (some .int) 3 0 0 [vr 63, vi 1, vi x] SH σ (fun r sh' σ' => SH = sh' ∧ (mn [10, 20, 1] σ) = σ' ∧ r = (w32 ((w32 ((w32 (x + (ac : Int))) + 3)) * 2))) := by
  refine am_Mi_of (by decide +kernel) (Nat.le_of_ble_eq_true rfl) (fun K X hY hI hret => ?_)
  show am_G K 0 [some (vr 63), some (vi 1), some (vi x), none] [] SH σ
  refine am_iload_n (x := 1) X (by rfl) dX10_worksAs_0 ?_
  refine am_ic X (by decide) dX10_worksAs_1 ?_
  refine am_icmp_eq (tgt := 10) X dX10_worksAs_2 (by decide) (fun h => absurd h (by decide)) (fun _ => ?_)
  refine am_iload_n (x := 1) X (by rfl) dX10_worksAs_5 ?_
  refine am_ic X (by decide) dX10_worksAs_6 ?_
  refine am_icmp_ne (tgt := 25) X dX10_worksAs_7 (by decide) (fun _ => ?_) (fun h => absurd h (by decide))
  refine am_iload_n (x := 1) X (by rfl) dX10_worksAs_25 ?_
  refine am_ic X (by decide) dX10_worksAs_26 ?_
  refine am_icmp_ne (tgt := 44) X dX10_worksAs_27 (by decide) (fun _ => ?_) (fun h => absurd h (by decide))
  refine am_iload_n (x := 1) X (by rfl) dX10_worksAs_44 ?_
  refine am_bipush X (by decide) dX10_worksAs_45 ?_
  refine am_icmp_ne (tgt := 75) X dX10_worksAs_47 (by decide) (fun _ => ?_) (fun h => absurd h (by decide))
  refine am_aload_n (x := 63) X (by rfl) dX10_worksAs_75 ?_
  refine am_bipush X (by decide) dX10_worksAs_76 ?_
  refine am_callVv (ci := 9) X hY lk_X10_317 mf_X10_begins (m_X10_begins 10 σ (by omega)) (by decide) (by decide) (Nat.le_refl _) (Nat.le_refl _) sh_63 rfl rfl rfl (Nat.le_of_ble_eq_true rfl) dX10_worksAs_78 (fun sh78 σ78 hp78 => ?_)
  obtain ⟨rfl, rfl, hq78⟩ := hp78
  refine am_sg (mn [10] σ) rfl ?_
  refine am_aload_n (x := 63) X (by rfl) dX10_worksAs_81 ?_
  refine am_aload_n (x := 63) X (by rfl) dX10_worksAs_82 ?_
  refine am_get (v := 1) X 63 fl_X10_330 (by decide) sh_63 (by decide) ((mn_at [10] (by decide) (Or.inr (by decide))).trans hK) dX10_worksAs_83 ?_
  refine am_iload_n (x := x) X (by rfl) dX10_worksAs_86 ?_
  refine am_callVi (ci := 9) X hY lk_X10_321 mf_X10_owesAs (m_d1_0_1 x (mn [10] σ) ac ((mn_at [10] (by decide) (Or.inr (by decide))).trans hac) ((mn_at [10] (by decide) (Or.inr (by decide))).trans hK) (by rw [mn_3]; show 0 ≤ σ 63 42 + 1 ∧ σ 63 42 + 1 ≤ _; omega)) (by decide) (by decide) (Nat.le_refl _) (Nat.le_refl _) sh_63 rfl rfl rfl (Nat.le_of_ble_eq_true rfl) dX10_worksAs_87 (fun r87 sh87 σ87 hr87 hp87 => ?_)
  obtain ⟨rfl, rfl, hq87⟩ := hp87
  refine am_sg (mn [10, 20, 1] σ) (mn_app [10] [20, 1] σ) ?_
  refine am_ic X (by decide) dX10_worksAs_90 ?_
  refine am_imul X dX10_worksAs_91 ?_
  exact hret _ _ _ _ _ dX10_worksAs_92 rfl rfl (by subst_vars; exact ⟨rfl, rfl, rfl⟩)

set_option maxHeartbeats 4000000 in
set_option maxRecDepth 100000 in
theorem m_d1_2_1 (x : Int) (σ : am_H) (ac : Nat) (hac : σ 63 44 = (ac : Int)) (hK : σ 63 43 = 1) (hr : 0 ≤ σ 63 42 ∧ σ 63 42 ≤ 299) : am_Mi yX10_asksAs cX10_asksAs 4 (some .int) 1 0 0 [vr 63, vi 1, vi x] SH σ (fun r sh' σ' => SH = sh' ∧ (mn [11] σ) = σ' ∧ r = (am_xor x (ac : Int))) := by
  refine am_Mi_of (by decide +kernel) (Nat.le_of_ble_eq_true rfl) (fun K X hY hI hret => ?_)
  show am_G K 0 [some (vr 63), some (vi 1), some (vi x), none] [] SH σ
  refine am_iload_n (x := 1) X (by rfl) dX10_asksAs_0 ?_
  refine am_ic X (by decide) dX10_asksAs_1 ?_
  refine am_icmp_eq (tgt := 10) X dX10_asksAs_2 (by decide) (fun h => absurd h (by decide)) (fun _ => ?_)
  refine am_iload_n (x := 1) X (by rfl) dX10_asksAs_5 ?_
  refine am_ic X (by decide) dX10_asksAs_6 ?_
  refine am_icmp_ne (tgt := 25) X dX10_asksAs_7 (by decide) (fun _ => ?_) (fun h => absurd h (by decide))
  refine am_iload_n (x := 1) X (by rfl) dX10_asksAs_25 ?_
  refine am_ic X (by decide) dX10_asksAs_26 ?_
  refine am_icmp_eq (tgt := 36) X dX10_asksAs_27 (by decide) (fun h => absurd h (by decide)) (fun _ => ?_)
  refine am_iload_n (x := 1) X (by rfl) dX10_asksAs_30 ?_
  refine am_bipush X (by decide) dX10_asksAs_31 ?_
  refine am_icmp_ne (tgt := 61) X dX10_asksAs_33 (by decide) (fun _ => ?_) (fun h => absurd h (by decide))
  refine am_aload_n (x := 63) X (by rfl) dX10_asksAs_61 ?_
  refine am_bipush X (by decide) dX10_asksAs_62 ?_
  refine am_callVv (ci := 9) X hY lk_X10_317 mf_X10_begins (m_X10_begins 11 σ (by omega)) (by decide) (by decide) (Nat.le_refl _) (Nat.le_refl _) sh_63 rfl rfl rfl (Nat.le_of_ble_eq_true rfl) dX10_asksAs_64 (fun sh64 σ64 hp64 => ?_)
  obtain ⟨rfl, rfl, hq64⟩ := hp64
  refine am_sg (mn [11] σ) rfl ?_
  refine am_iload_n (x := x) X (by rfl) dX10_asksAs_67 ?_
  refine am_aload_n (x := 63) X (by rfl) dX10_asksAs_68 ?_
  refine am_get (v := (ac : Int)) X 63 fl_X10_324 (by decide) sh_63 (by decide) ((mn_at [11] (by decide) (Or.inr (by decide))).trans hac) dX10_asksAs_69 ?_
  refine am_ixor X dX10_asksAs_72 ?_
  exact hret _ _ _ _ _ dX10_asksAs_73 rfl rfl (by subst_vars; exact ⟨rfl, rfl, rfl⟩)

set_option maxHeartbeats 4000000 in
set_option maxRecDepth 100000 in
theorem m_d1_3_1 (x : Int) (σ : am_H) (ac : Nat) (hac : σ 63 44 = (ac : Int)) (hK : σ 63 43 = 1) (hr : 0 ≤ σ 63 42 ∧ σ 63 42 ≤ 295) : am_Mi yX10_tellsAs cX10_tellsAs 4 (some .int) 4 0 0 [vr 63, vi 1, vi x] SH σ (fun r sh' σ' => SH = sh' ∧ (mn [2, 10, 20, 1, 11] σ) = σ' ∧ r = (w32 ((w32 ((w32 ((w32 (x + (ac : Int))) + 3)) * 2)) - (am_xor 1 (ac : Int))))) := by
  refine am_Mi_of (by decide +kernel) (Nat.le_of_ble_eq_true rfl) (fun K X hY hI hret => ?_)
  show am_G K 0 [some (vr 63), some (vi 1), some (vi x), none] [] SH σ
  refine am_iload_n (x := 1) X (by rfl) dX10_tellsAs_0 ?_
  refine am_ic X (by decide) dX10_tellsAs_1 ?_
  refine am_icmp_ne (tgt := 20) X dX10_tellsAs_2 (by decide) (fun _ => ?_) (fun h => absurd h (by decide))
  refine am_iload_n (x := 1) X (by rfl) dX10_tellsAs_20 ?_
  refine am_bipush X (by decide) dX10_tellsAs_21 ?_
  refine am_icmp_ne (tgt := 41) X dX10_tellsAs_23 (by decide) (fun _ => ?_) (fun h => absurd h (by decide))
  refine am_aload_n (x := 63) X (by rfl) dX10_tellsAs_41 ?_
  refine am_ic X (by decide) dX10_tellsAs_42 ?_
  refine am_callVv (ci := 9) X hY lk_X10_317 mf_X10_begins (m_X10_begins 2 σ (by omega)) (by decide) (by decide) (Nat.le_refl _) (Nat.le_refl _) sh_63 rfl rfl rfl (Nat.le_of_ble_eq_true rfl) dX10_tellsAs_43 (fun sh43 σ43 hp43 => ?_)
  obtain ⟨rfl, rfl, hq43⟩ := hp43
  refine am_sg (mn [2] σ) rfl ?_
  refine am_aload_n (x := 63) X (by rfl) dX10_tellsAs_46 ?_
  refine am_aload_n (x := 63) X (by rfl) dX10_tellsAs_47 ?_
  refine am_get (v := 1) X 63 fl_X10_330 (by decide) sh_63 (by decide) ((mn_at [2] (by decide) (Or.inr (by decide))).trans hK) dX10_tellsAs_48 ?_
  refine am_iload_n (x := x) X (by rfl) dX10_tellsAs_51 ?_
  refine am_callVi (ci := 9) X hY lk_X10_327 mf_X10_worksAs (m_d1_1_1 x (mn [2] σ) ac ((mn_at [2] (by decide) (Or.inr (by decide))).trans hac) ((mn_at [2] (by decide) (Or.inr (by decide))).trans hK) (by rw [mn_3]; show 0 ≤ σ 63 42 + 1 ∧ σ 63 42 + 1 ≤ _; omega)) (by decide) (by decide) (Nat.le_refl _) (Nat.le_refl _) sh_63 rfl rfl rfl (Nat.le_of_ble_eq_true rfl) dX10_tellsAs_52 (fun r52 sh52 σ52 hr52 hp52 => ?_)
  obtain ⟨rfl, rfl, hq52⟩ := hp52
  refine am_sg (mn [2, 10, 20, 1] σ) (mn_app [2] [10, 20, 1] σ) ?_
  refine am_istore_n (i := 3) (L' := [some (vr 63), some (vi 1), some (vi x), some (vi r52)]) X rfl (Nat.le_of_ble_eq_true rfl) (by rfl) dX10_tellsAs_55 ?_
  refine am_iload_n (x := r52) X (by rfl) dX10_tellsAs_56 ?_
  refine am_aload_n (x := 63) X (by rfl) dX10_tellsAs_57 ?_
  refine am_aload_n (x := 63) X (by rfl) dX10_tellsAs_58 ?_
  refine am_get (v := 1) X 63 fl_X10_330 (by decide) sh_63 (by decide) ((mn_at [2, 10, 20, 1] (by decide) (Or.inr (by decide))).trans hK) dX10_tellsAs_59 ?_
  refine am_ic X (by decide) dX10_tellsAs_62 ?_
  refine am_callVi (ci := 9) X hY lk_X10_333 mf_X10_asksAs (m_d1_2_1 1 (mn [2, 10, 20, 1] σ) ac ((mn_at [2, 10, 20, 1] (by decide) (Or.inr (by decide))).trans hac) ((mn_at [2, 10, 20, 1] (by decide) (Or.inr (by decide))).trans hK) (by rw [mn_3]; show 0 ≤ σ 63 42 + 4 ∧ σ 63 42 + 4 ≤ _; omega)) (by decide) (by decide) (Nat.le_refl _) (Nat.le_refl _) sh_63 rfl rfl rfl (Nat.le_of_ble_eq_true rfl) dX10_tellsAs_63 (fun r63 sh63 σ63 hr63 hp63 => ?_)
  obtain ⟨rfl, rfl, hq63⟩ := hp63
  refine am_sg (mn [2, 10, 20, 1, 11] σ) (mn_app [2, 10, 20, 1] [11] σ) ?_
  refine am_isub X dX10_tellsAs_66 ?_
  exact hret _ _ _ _ _ dX10_tellsAs_67 rfl rfl (by subst_vars; exact ⟨rfl, rfl, rfl⟩)

set_option maxHeartbeats 4000000 in
set_option maxRecDepth 100000 in
theorem m_d2_0_2 (x : Int) (σ : am_H) (ac : Nat) (hac : σ 63 44 = (ac : Int)) (hK : σ 63 43 = 2) (hr : 0 ≤ σ 63 42 ∧ σ 63 42 ≤ 299) : am_Mi yX10_owesAs cX10_owesAs 3 (some .int) 1 0 0 [vr 63, vi 2, vi x] SH σ (fun r sh' σ' => SH = sh' ∧ (mn [1] σ) = σ' ∧ r = (w32 (x + (ac : Int)))) := by
  refine am_Mi_of (by decide +kernel) (Nat.le_of_ble_eq_true rfl) (fun K X hY hI hret => ?_)
  show am_G K 0 [some (vr 63), some (vi 2), some (vi x)] [] SH σ
  refine am_iload_n (x := 2) X (by rfl) dX10_owesAs_0 ?_
  refine am_ic X (by decide) dX10_owesAs_1 ?_
  refine am_icmp_eq (tgt := 16) X dX10_owesAs_2 (by decide) (fun h => absurd h (by decide)) (fun _ => ?_)
  refine am_iload_n (x := 2) X (by rfl) dX10_owesAs_5 ?_
  refine am_ic X (by decide) dX10_owesAs_6 ?_
  refine am_icmp_eq (tgt := 16) X dX10_owesAs_7 (by decide) (fun h => absurd h (by decide)) (fun _ => ?_)
  refine am_iload_n (x := 2) X (by rfl) dX10_owesAs_10 ?_
  refine am_bipush X (by decide) dX10_owesAs_11 ?_
  refine am_icmp_ne (tgt := 31) X dX10_owesAs_13 (by decide) (fun _ => ?_) (fun h => absurd h (by decide))
  refine am_iload_n (x := 2) X (by rfl) dX10_owesAs_31 ?_
  refine am_bipush X (by decide) dX10_owesAs_32 ?_
  refine am_icmp_ne (tgt := 52) X dX10_owesAs_34 (by decide) (fun _ => ?_) (fun h => absurd h (by decide))
  refine am_aload_n (x := 63) X (by rfl) dX10_owesAs_52 ?_
  refine am_ic X (by decide) dX10_owesAs_53 ?_
  refine am_callVv (ci := 9) X hY lk_X10_317 mf_X10_begins (m_X10_begins 1 σ (by omega)) (by decide) (by decide) (Nat.le_refl _) (Nat.le_refl _) sh_63 rfl rfl rfl (Nat.le_of_ble_eq_true rfl) dX10_owesAs_54 (fun sh54 σ54 hp54 => ?_)
  obtain ⟨rfl, rfl, hq54⟩ := hp54
  refine am_sg (mn [1] σ) rfl ?_
  refine am_iload_n (x := x) X (by rfl) dX10_owesAs_57 ?_
  refine am_aload_n (x := 63) X (by rfl) dX10_owesAs_58 ?_
  refine am_get (v := (ac : Int)) X 63 fl_X10_324 (by decide) sh_63 (by decide) ((mn_at [1] (by decide) (Or.inr (by decide))).trans hac) dX10_owesAs_59 ?_
  refine am_iadd X dX10_owesAs_62 ?_
  exact hret _ _ _ _ _ dX10_owesAs_63 rfl rfl (by subst_vars; exact ⟨rfl, rfl, rfl⟩)

set_option maxHeartbeats 4000000 in
set_option maxRecDepth 100000 in
theorem m_d2_1_0 (x : Int) (σ : am_H) (ac : Nat) (hac : σ 63 44 = (ac : Int)) (hK : σ 63 43 = 2) (hr : 0 ≤ σ 63 42 ∧ σ 63 42 ≤ 298) : am_Mi yX10_worksAs cX10_worksAs 4 (some .int) 2 0 0 [vr 63, vi 0, vi x] SH σ (fun r sh' σ' => SH = sh' ∧ (mn [10, 1] σ) = σ' ∧ r = (w32 ((w32 (x + (ac : Int))) * 2))) := by
  refine am_Mi_of (by decide +kernel) (Nat.le_of_ble_eq_true rfl) (fun K X hY hI hret => ?_)
  show am_G K 0 [some (vr 63), some (vi 0), some (vi x), none] [] SH σ
  refine am_iload_n (x := 0) X (by rfl) dX10_worksAs_0 ?_
  refine am_ic X (by decide) dX10_worksAs_1 ?_
  refine am_icmp_eq (tgt := 10) X dX10_worksAs_2 (by decide) (fun h => absurd h (by decide)) (fun _ => ?_)
  refine am_iload_n (x := 0) X (by rfl) dX10_worksAs_5 ?_
  refine am_ic X (by decide) dX10_worksAs_6 ?_
  refine am_icmp_ne (tgt := 25) X dX10_worksAs_7 (by decide) (fun _ => ?_) (fun h => absurd h (by decide))
  refine am_iload_n (x := 0) X (by rfl) dX10_worksAs_25 ?_
  refine am_ic X (by decide) dX10_worksAs_26 ?_
  refine am_icmp_ne (tgt := 44) X dX10_worksAs_27 (by decide) (fun _ => ?_) (fun h => absurd h (by decide))
  refine am_iload_n (x := 0) X (by rfl) dX10_worksAs_44 ?_
  refine am_bipush X (by decide) dX10_worksAs_45 ?_
  refine am_icmp_ne (tgt := 75) X dX10_worksAs_47 (by decide) (fun _ => ?_) (fun h => absurd h (by decide))
  refine am_aload_n (x := 63) X (by rfl) dX10_worksAs_75 ?_
  refine am_bipush X (by decide) dX10_worksAs_76 ?_
  refine am_callVv (ci := 9) X hY lk_X10_317 mf_X10_begins (m_X10_begins 10 σ (by omega)) (by decide) (by decide) (Nat.le_refl _) (Nat.le_refl _) sh_63 rfl rfl rfl (Nat.le_of_ble_eq_true rfl) dX10_worksAs_78 (fun sh78 σ78 hp78 => ?_)
  obtain ⟨rfl, rfl, hq78⟩ := hp78
  refine am_sg (mn [10] σ) rfl ?_
  refine am_aload_n (x := 63) X (by rfl) dX10_worksAs_81 ?_
  refine am_aload_n (x := 63) X (by rfl) dX10_worksAs_82 ?_
  refine am_get (v := 2) X 63 fl_X10_330 (by decide) sh_63 (by decide) ((mn_at [10] (by decide) (Or.inr (by decide))).trans hK) dX10_worksAs_83 ?_
  refine am_iload_n (x := x) X (by rfl) dX10_worksAs_86 ?_
  refine am_callVi (ci := 9) X hY lk_X10_321 mf_X10_owesAs (m_d2_0_2 x (mn [10] σ) ac ((mn_at [10] (by decide) (Or.inr (by decide))).trans hac) ((mn_at [10] (by decide) (Or.inr (by decide))).trans hK) (by rw [mn_3]; show 0 ≤ σ 63 42 + 1 ∧ σ 63 42 + 1 ≤ _; omega)) (by decide) (by decide) (Nat.le_refl _) (Nat.le_refl _) sh_63 rfl rfl rfl (Nat.le_of_ble_eq_true rfl) dX10_worksAs_87 (fun r87 sh87 σ87 hr87 hp87 => ?_)
  obtain ⟨rfl, rfl, hq87⟩ := hp87
  refine am_sg (mn [10, 1] σ) (mn_app [10] [1] σ) ?_
  refine am_ic X (by decide) dX10_worksAs_90 ?_
  refine am_imul X dX10_worksAs_91 ?_
  exact hret _ _ _ _ _ dX10_worksAs_92 rfl rfl (by subst_vars; exact ⟨rfl, rfl, rfl⟩)

set_option maxHeartbeats 4000000 in
set_option maxRecDepth 100000 in
theorem m_d2_1_2 (x : Int) (σ : am_H) (ac : Nat) (hac : σ 63 44 = (ac : Int)) (hK : σ 63 43 = 2) (hr : 0 ≤ σ 63 42 ∧ σ 63 42 ≤ 297) : am_Mi yX10_worksAs cX10_worksAs 4 (some .int) 3 0 0 [vr 63, vi 2, vi x] SH σ (fun r sh' σ' => SH = sh' ∧ (mn [30, 10, 1] σ) = σ' ∧ r = (w32 (-(w32 ((w32 (x + (ac : Int))) * 2))))) := by
  refine am_Mi_of (by decide +kernel) (Nat.le_of_ble_eq_true rfl) (fun K X hY hI hret => ?_)
  show am_G K 0 [some (vr 63), some (vi 2), some (vi x), none] [] SH σ
  refine am_iload_n (x := 2) X (by rfl) dX10_worksAs_0 ?_
  refine am_ic X (by decide) dX10_worksAs_1 ?_
  refine am_icmp_eq (tgt := 10) X dX10_worksAs_2 (by decide) (fun h => absurd h (by decide)) (fun _ => ?_)
  refine am_iload_n (x := 2) X (by rfl) dX10_worksAs_5 ?_
  refine am_ic X (by decide) dX10_worksAs_6 ?_
  refine am_icmp_ne (tgt := 25) X dX10_worksAs_7 (by decide) (fun _ => ?_) (fun h => absurd h (by decide))
  refine am_iload_n (x := 2) X (by rfl) dX10_worksAs_25 ?_
  refine am_ic X (by decide) dX10_worksAs_26 ?_
  refine am_icmp_ne (tgt := 44) X dX10_worksAs_27 (by decide) (fun h => absurd h (by decide)) (fun _ => ?_)
  refine am_aload_n (x := 63) X (by rfl) dX10_worksAs_30 ?_
  refine am_bipush X (by decide) dX10_worksAs_31 ?_
  refine am_callVv (ci := 9) X hY lk_X10_317 mf_X10_begins (m_X10_begins 30 σ (by omega)) (by decide) (by decide) (Nat.le_refl _) (Nat.le_refl _) sh_63 rfl rfl rfl (Nat.le_of_ble_eq_true rfl) dX10_worksAs_33 (fun sh33 σ33 hp33 => ?_)
  obtain ⟨rfl, rfl, hq33⟩ := hp33
  refine am_sg (mn [30] σ) rfl ?_
  refine am_aload_n (x := 63) X (by rfl) dX10_worksAs_36 ?_
  refine am_ic X (by decide) dX10_worksAs_37 ?_
  refine am_iload_n (x := x) X (by rfl) dX10_worksAs_38 ?_
  refine am_callVi (ci := 9) X hY lk_X10_327 mf_X10_worksAs (m_d2_1_0 x (mn [30] σ) ac ((mn_at [30] (by decide) (Or.inr (by decide))).trans hac) ((mn_at [30] (by decide) (Or.inr (by decide))).trans hK) (by rw [mn_3]; show 0 ≤ σ 63 42 + 1 ∧ σ 63 42 + 1 ≤ _; omega)) (by decide) (by decide) (Nat.le_refl _) (Nat.le_refl _) sh_63 rfl rfl rfl (Nat.le_of_ble_eq_true rfl) dX10_worksAs_39 (fun r39 sh39 σ39 hr39 hp39 => ?_)
  obtain ⟨rfl, rfl, hq39⟩ := hp39
  refine am_sg (mn [30, 10, 1] σ) (mn_app [30] [10, 1] σ) ?_
  refine am_ineg X dX10_worksAs_42 ?_
  exact hret _ _ _ _ _ dX10_worksAs_43 rfl rfl (by subst_vars; exact ⟨rfl, rfl, rfl⟩)

set_option maxHeartbeats 4000000 in
set_option maxRecDepth 100000 in
theorem m_d2_2_2 (x : Int) (σ : am_H) (ac : Nat) (hac : σ 63 44 = (ac : Int)) (hK : σ 63 43 = 2) (hr : 0 ≤ σ 63 42 ∧ σ 63 42 ≤ 299) : am_Mi yX10_asksAs cX10_asksAs 4 (some .int) 1 0 0 [vr 63, vi 2, vi x] SH σ (fun r sh' σ' => SH = sh' ∧ (mn [11] σ) = σ' ∧ r = (am_xor x (ac : Int))) := by
  refine am_Mi_of (by decide +kernel) (Nat.le_of_ble_eq_true rfl) (fun K X hY hI hret => ?_)
  show am_G K 0 [some (vr 63), some (vi 2), some (vi x), none] [] SH σ
  refine am_iload_n (x := 2) X (by rfl) dX10_asksAs_0 ?_
  refine am_ic X (by decide) dX10_asksAs_1 ?_
  refine am_icmp_eq (tgt := 10) X dX10_asksAs_2 (by decide) (fun h => absurd h (by decide)) (fun _ => ?_)
  refine am_iload_n (x := 2) X (by rfl) dX10_asksAs_5 ?_
  refine am_ic X (by decide) dX10_asksAs_6 ?_
  refine am_icmp_ne (tgt := 25) X dX10_asksAs_7 (by decide) (fun _ => ?_) (fun h => absurd h (by decide))
  refine am_iload_n (x := 2) X (by rfl) dX10_asksAs_25 ?_
  refine am_ic X (by decide) dX10_asksAs_26 ?_
  refine am_icmp_eq (tgt := 36) X dX10_asksAs_27 (by decide) (fun h => absurd h (by decide)) (fun _ => ?_)
  refine am_iload_n (x := 2) X (by rfl) dX10_asksAs_30 ?_
  refine am_bipush X (by decide) dX10_asksAs_31 ?_
  refine am_icmp_ne (tgt := 61) X dX10_asksAs_33 (by decide) (fun _ => ?_) (fun h => absurd h (by decide))
  refine am_aload_n (x := 63) X (by rfl) dX10_asksAs_61 ?_
  refine am_bipush X (by decide) dX10_asksAs_62 ?_
  refine am_callVv (ci := 9) X hY lk_X10_317 mf_X10_begins (m_X10_begins 11 σ (by omega)) (by decide) (by decide) (Nat.le_refl _) (Nat.le_refl _) sh_63 rfl rfl rfl (Nat.le_of_ble_eq_true rfl) dX10_asksAs_64 (fun sh64 σ64 hp64 => ?_)
  obtain ⟨rfl, rfl, hq64⟩ := hp64
  refine am_sg (mn [11] σ) rfl ?_
  refine am_iload_n (x := x) X (by rfl) dX10_asksAs_67 ?_
  refine am_aload_n (x := 63) X (by rfl) dX10_asksAs_68 ?_
  refine am_get (v := (ac : Int)) X 63 fl_X10_324 (by decide) sh_63 (by decide) ((mn_at [11] (by decide) (Or.inr (by decide))).trans hac) dX10_asksAs_69 ?_
  refine am_ixor X dX10_asksAs_72 ?_
  exact hret _ _ _ _ _ dX10_asksAs_73 rfl rfl (by subst_vars; exact ⟨rfl, rfl, rfl⟩)

set_option maxHeartbeats 4000000 in
set_option maxRecDepth 100000 in
theorem m_d2_3_2 (x : Int) (σ : am_H) (ac : Nat) (hac : σ 63 44 = (ac : Int)) (hK : σ 63 43 = 2) (hr : 0 ≤ σ 63 42 ∧ σ 63 42 ≤ 295) : am_Mi yX10_tellsAs cX10_tellsAs 4 (some .int) 4 0 0 [vr 63, vi 2, vi x] SH σ (fun r sh' σ' => SH = sh' ∧ (mn [2, 30, 10, 1, 11] σ) = σ' ∧ r = (w32 ((w32 (-(w32 ((w32 (x + (ac : Int))) * 2)))) - (am_xor 1 (ac : Int))))) := by
  refine am_Mi_of (by decide +kernel) (Nat.le_of_ble_eq_true rfl) (fun K X hY hI hret => ?_)
  show am_G K 0 [some (vr 63), some (vi 2), some (vi x), none] [] SH σ
  refine am_iload_n (x := 2) X (by rfl) dX10_tellsAs_0 ?_
  refine am_ic X (by decide) dX10_tellsAs_1 ?_
  refine am_icmp_ne (tgt := 20) X dX10_tellsAs_2 (by decide) (fun _ => ?_) (fun h => absurd h (by decide))
  refine am_iload_n (x := 2) X (by rfl) dX10_tellsAs_20 ?_
  refine am_bipush X (by decide) dX10_tellsAs_21 ?_
  refine am_icmp_ne (tgt := 41) X dX10_tellsAs_23 (by decide) (fun _ => ?_) (fun h => absurd h (by decide))
  refine am_aload_n (x := 63) X (by rfl) dX10_tellsAs_41 ?_
  refine am_ic X (by decide) dX10_tellsAs_42 ?_
  refine am_callVv (ci := 9) X hY lk_X10_317 mf_X10_begins (m_X10_begins 2 σ (by omega)) (by decide) (by decide) (Nat.le_refl _) (Nat.le_refl _) sh_63 rfl rfl rfl (Nat.le_of_ble_eq_true rfl) dX10_tellsAs_43 (fun sh43 σ43 hp43 => ?_)
  obtain ⟨rfl, rfl, hq43⟩ := hp43
  refine am_sg (mn [2] σ) rfl ?_
  refine am_aload_n (x := 63) X (by rfl) dX10_tellsAs_46 ?_
  refine am_aload_n (x := 63) X (by rfl) dX10_tellsAs_47 ?_
  refine am_get (v := 2) X 63 fl_X10_330 (by decide) sh_63 (by decide) ((mn_at [2] (by decide) (Or.inr (by decide))).trans hK) dX10_tellsAs_48 ?_
  refine am_iload_n (x := x) X (by rfl) dX10_tellsAs_51 ?_
  refine am_callVi (ci := 9) X hY lk_X10_327 mf_X10_worksAs (m_d2_1_2 x (mn [2] σ) ac ((mn_at [2] (by decide) (Or.inr (by decide))).trans hac) ((mn_at [2] (by decide) (Or.inr (by decide))).trans hK) (by rw [mn_3]; show 0 ≤ σ 63 42 + 1 ∧ σ 63 42 + 1 ≤ _; omega)) (by decide) (by decide) (Nat.le_refl _) (Nat.le_refl _) sh_63 rfl rfl rfl (Nat.le_of_ble_eq_true rfl) dX10_tellsAs_52 (fun r52 sh52 σ52 hr52 hp52 => ?_)
  obtain ⟨rfl, rfl, hq52⟩ := hp52
  refine am_sg (mn [2, 30, 10, 1] σ) (mn_app [2] [30, 10, 1] σ) ?_
  refine am_istore_n (i := 3) (L' := [some (vr 63), some (vi 2), some (vi x), some (vi r52)]) X rfl (Nat.le_of_ble_eq_true rfl) (by rfl) dX10_tellsAs_55 ?_
  refine am_iload_n (x := r52) X (by rfl) dX10_tellsAs_56 ?_
  refine am_aload_n (x := 63) X (by rfl) dX10_tellsAs_57 ?_
  refine am_aload_n (x := 63) X (by rfl) dX10_tellsAs_58 ?_
  refine am_get (v := 2) X 63 fl_X10_330 (by decide) sh_63 (by decide) ((mn_at [2, 30, 10, 1] (by decide) (Or.inr (by decide))).trans hK) dX10_tellsAs_59 ?_
  refine am_ic X (by decide) dX10_tellsAs_62 ?_
  refine am_callVi (ci := 9) X hY lk_X10_333 mf_X10_asksAs (m_d2_2_2 1 (mn [2, 30, 10, 1] σ) ac ((mn_at [2, 30, 10, 1] (by decide) (Or.inr (by decide))).trans hac) ((mn_at [2, 30, 10, 1] (by decide) (Or.inr (by decide))).trans hK) (by rw [mn_3]; show 0 ≤ σ 63 42 + 4 ∧ σ 63 42 + 4 ≤ _; omega)) (by decide) (by decide) (Nat.le_refl _) (Nat.le_refl _) sh_63 rfl rfl rfl (Nat.le_of_ble_eq_true rfl) dX10_tellsAs_63 (fun r63 sh63 σ63 hr63 hp63 => ?_)
  obtain ⟨rfl, rfl, hq63⟩ := hp63
  refine am_sg (mn [2, 30, 10, 1, 11] σ) (mn_app [2, 30, 10, 1] [11] σ) ?_
  refine am_isub X dX10_tellsAs_66 ?_
  exact hret _ _ _ _ _ dX10_tellsAs_67 rfl rfl (by subst_vars; exact ⟨rfl, rfl, rfl⟩)

set_option maxHeartbeats 4000000 in
set_option maxRecDepth 100000 in
theorem m_d3_0_3 (x : Int) (σ : am_H) (ac : Nat) (hac : σ 63 44 = (ac : Int)) (hK : σ 63 43 = 3) (hr : 0 ≤ σ 63 42 ∧ σ 63 42 ≤ 299) : am_Mi yX10_owesAs cX10_owesAs 3 (some .int) 1 0 0 [vr 63, vi 3, vi x] SH σ (fun r sh' σ' => SH = sh' ∧ (mn [1] σ) = σ' ∧ r = (w32 (x + (ac : Int)))) := by
  refine am_Mi_of (by decide +kernel) (Nat.le_of_ble_eq_true rfl) (fun K X hY hI hret => ?_)
  show am_G K 0 [some (vr 63), some (vi 3), some (vi x)] [] SH σ
  refine am_iload_n (x := 3) X (by rfl) dX10_owesAs_0 ?_
  refine am_ic X (by decide) dX10_owesAs_1 ?_
  refine am_icmp_eq (tgt := 16) X dX10_owesAs_2 (by decide) (fun h => absurd h (by decide)) (fun _ => ?_)
  refine am_iload_n (x := 3) X (by rfl) dX10_owesAs_5 ?_
  refine am_ic X (by decide) dX10_owesAs_6 ?_
  refine am_icmp_eq (tgt := 16) X dX10_owesAs_7 (by decide) (fun h => absurd h (by decide)) (fun _ => ?_)
  refine am_iload_n (x := 3) X (by rfl) dX10_owesAs_10 ?_
  refine am_bipush X (by decide) dX10_owesAs_11 ?_
  refine am_icmp_ne (tgt := 31) X dX10_owesAs_13 (by decide) (fun _ => ?_) (fun h => absurd h (by decide))
  refine am_iload_n (x := 3) X (by rfl) dX10_owesAs_31 ?_
  refine am_bipush X (by decide) dX10_owesAs_32 ?_
  refine am_icmp_ne (tgt := 52) X dX10_owesAs_34 (by decide) (fun _ => ?_) (fun h => absurd h (by decide))
  refine am_aload_n (x := 63) X (by rfl) dX10_owesAs_52 ?_
  refine am_ic X (by decide) dX10_owesAs_53 ?_
  refine am_callVv (ci := 9) X hY lk_X10_317 mf_X10_begins (m_X10_begins 1 σ (by omega)) (by decide) (by decide) (Nat.le_refl _) (Nat.le_refl _) sh_63 rfl rfl rfl (Nat.le_of_ble_eq_true rfl) dX10_owesAs_54 (fun sh54 σ54 hp54 => ?_)
  obtain ⟨rfl, rfl, hq54⟩ := hp54
  refine am_sg (mn [1] σ) rfl ?_
  refine am_iload_n (x := x) X (by rfl) dX10_owesAs_57 ?_
  refine am_aload_n (x := 63) X (by rfl) dX10_owesAs_58 ?_
  refine am_get (v := (ac : Int)) X 63 fl_X10_324 (by decide) sh_63 (by decide) ((mn_at [1] (by decide) (Or.inr (by decide))).trans hac) dX10_owesAs_59 ?_
  refine am_iadd X dX10_owesAs_62 ?_
  exact hret _ _ _ _ _ dX10_owesAs_63 rfl rfl (by subst_vars; exact ⟨rfl, rfl, rfl⟩)

set_option maxHeartbeats 4000000 in
set_option maxRecDepth 100000 in
theorem m_d3_1_0 (x : Int) (σ : am_H) (ac : Nat) (hac : σ 63 44 = (ac : Int)) (hK : σ 63 43 = 3) (hr : 0 ≤ σ 63 42 ∧ σ 63 42 ≤ 298) : am_Mi yX10_worksAs cX10_worksAs 4 (some .int) 2 0 0 [vr 63, vi 0, vi x] SH σ (fun r sh' σ' => SH = sh' ∧ (mn [10, 1] σ) = σ' ∧ r = (w32 ((w32 (x + (ac : Int))) * 2))) := by
  refine am_Mi_of (by decide +kernel) (Nat.le_of_ble_eq_true rfl) (fun K X hY hI hret => ?_)
  show am_G K 0 [some (vr 63), some (vi 0), some (vi x), none] [] SH σ
  refine am_iload_n (x := 0) X (by rfl) dX10_worksAs_0 ?_
  refine am_ic X (by decide) dX10_worksAs_1 ?_
  refine am_icmp_eq (tgt := 10) X dX10_worksAs_2 (by decide) (fun h => absurd h (by decide)) (fun _ => ?_)
  refine am_iload_n (x := 0) X (by rfl) dX10_worksAs_5 ?_
  refine am_ic X (by decide) dX10_worksAs_6 ?_
  refine am_icmp_ne (tgt := 25) X dX10_worksAs_7 (by decide) (fun _ => ?_) (fun h => absurd h (by decide))
  refine am_iload_n (x := 0) X (by rfl) dX10_worksAs_25 ?_
  refine am_ic X (by decide) dX10_worksAs_26 ?_
  refine am_icmp_ne (tgt := 44) X dX10_worksAs_27 (by decide) (fun _ => ?_) (fun h => absurd h (by decide))
  refine am_iload_n (x := 0) X (by rfl) dX10_worksAs_44 ?_
  refine am_bipush X (by decide) dX10_worksAs_45 ?_
  refine am_icmp_ne (tgt := 75) X dX10_worksAs_47 (by decide) (fun _ => ?_) (fun h => absurd h (by decide))
  refine am_aload_n (x := 63) X (by rfl) dX10_worksAs_75 ?_
  refine am_bipush X (by decide) dX10_worksAs_76 ?_
  refine am_callVv (ci := 9) X hY lk_X10_317 mf_X10_begins (m_X10_begins 10 σ (by omega)) (by decide) (by decide) (Nat.le_refl _) (Nat.le_refl _) sh_63 rfl rfl rfl (Nat.le_of_ble_eq_true rfl) dX10_worksAs_78 (fun sh78 σ78 hp78 => ?_)
  obtain ⟨rfl, rfl, hq78⟩ := hp78
  refine am_sg (mn [10] σ) rfl ?_
  refine am_aload_n (x := 63) X (by rfl) dX10_worksAs_81 ?_
  refine am_aload_n (x := 63) X (by rfl) dX10_worksAs_82 ?_
  refine am_get (v := 3) X 63 fl_X10_330 (by decide) sh_63 (by decide) ((mn_at [10] (by decide) (Or.inr (by decide))).trans hK) dX10_worksAs_83 ?_
  refine am_iload_n (x := x) X (by rfl) dX10_worksAs_86 ?_
  refine am_callVi (ci := 9) X hY lk_X10_321 mf_X10_owesAs (m_d3_0_3 x (mn [10] σ) ac ((mn_at [10] (by decide) (Or.inr (by decide))).trans hac) ((mn_at [10] (by decide) (Or.inr (by decide))).trans hK) (by rw [mn_3]; show 0 ≤ σ 63 42 + 1 ∧ σ 63 42 + 1 ≤ _; omega)) (by decide) (by decide) (Nat.le_refl _) (Nat.le_refl _) sh_63 rfl rfl rfl (Nat.le_of_ble_eq_true rfl) dX10_worksAs_87 (fun r87 sh87 σ87 hr87 hp87 => ?_)
  obtain ⟨rfl, rfl, hq87⟩ := hp87
  refine am_sg (mn [10, 1] σ) (mn_app [10] [1] σ) ?_
  refine am_ic X (by decide) dX10_worksAs_90 ?_
  refine am_imul X dX10_worksAs_91 ?_
  exact hret _ _ _ _ _ dX10_worksAs_92 rfl rfl (by subst_vars; exact ⟨rfl, rfl, rfl⟩)

set_option maxHeartbeats 4000000 in
set_option maxRecDepth 100000 in
theorem m_d3_1_2 (x : Int) (σ : am_H) (ac : Nat) (hac : σ 63 44 = (ac : Int)) (hK : σ 63 43 = 3) (hr : 0 ≤ σ 63 42 ∧ σ 63 42 ≤ 297) : am_Mi yX10_worksAs cX10_worksAs 4 (some .int) 3 0 0 [vr 63, vi 2, vi x] SH σ (fun r sh' σ' => SH = sh' ∧ (mn [30, 10, 1] σ) = σ' ∧ r = (w32 (-(w32 ((w32 (x + (ac : Int))) * 2))))) := by
  refine am_Mi_of (by decide +kernel) (Nat.le_of_ble_eq_true rfl) (fun K X hY hI hret => ?_)
  show am_G K 0 [some (vr 63), some (vi 2), some (vi x), none] [] SH σ
  refine am_iload_n (x := 2) X (by rfl) dX10_worksAs_0 ?_
  refine am_ic X (by decide) dX10_worksAs_1 ?_
  refine am_icmp_eq (tgt := 10) X dX10_worksAs_2 (by decide) (fun h => absurd h (by decide)) (fun _ => ?_)
  refine am_iload_n (x := 2) X (by rfl) dX10_worksAs_5 ?_
  refine am_ic X (by decide) dX10_worksAs_6 ?_
  refine am_icmp_ne (tgt := 25) X dX10_worksAs_7 (by decide) (fun _ => ?_) (fun h => absurd h (by decide))
  refine am_iload_n (x := 2) X (by rfl) dX10_worksAs_25 ?_
  refine am_ic X (by decide) dX10_worksAs_26 ?_
  refine am_icmp_ne (tgt := 44) X dX10_worksAs_27 (by decide) (fun h => absurd h (by decide)) (fun _ => ?_)
  refine am_aload_n (x := 63) X (by rfl) dX10_worksAs_30 ?_
  refine am_bipush X (by decide) dX10_worksAs_31 ?_
  refine am_callVv (ci := 9) X hY lk_X10_317 mf_X10_begins (m_X10_begins 30 σ (by omega)) (by decide) (by decide) (Nat.le_refl _) (Nat.le_refl _) sh_63 rfl rfl rfl (Nat.le_of_ble_eq_true rfl) dX10_worksAs_33 (fun sh33 σ33 hp33 => ?_)
  obtain ⟨rfl, rfl, hq33⟩ := hp33
  refine am_sg (mn [30] σ) rfl ?_
  refine am_aload_n (x := 63) X (by rfl) dX10_worksAs_36 ?_
  refine am_ic X (by decide) dX10_worksAs_37 ?_
  refine am_iload_n (x := x) X (by rfl) dX10_worksAs_38 ?_
  refine am_callVi (ci := 9) X hY lk_X10_327 mf_X10_worksAs (m_d3_1_0 x (mn [30] σ) ac ((mn_at [30] (by decide) (Or.inr (by decide))).trans hac) ((mn_at [30] (by decide) (Or.inr (by decide))).trans hK) (by rw [mn_3]; show 0 ≤ σ 63 42 + 1 ∧ σ 63 42 + 1 ≤ _; omega)) (by decide) (by decide) (Nat.le_refl _) (Nat.le_refl _) sh_63 rfl rfl rfl (Nat.le_of_ble_eq_true rfl) dX10_worksAs_39 (fun r39 sh39 σ39 hr39 hp39 => ?_)
  obtain ⟨rfl, rfl, hq39⟩ := hp39
  refine am_sg (mn [30, 10, 1] σ) (mn_app [30] [10, 1] σ) ?_
  refine am_ineg X dX10_worksAs_42 ?_
  exact hret _ _ _ _ _ dX10_worksAs_43 rfl rfl (by subst_vars; exact ⟨rfl, rfl, rfl⟩)

set_option maxHeartbeats 4000000 in
set_option maxRecDepth 100000 in
theorem m_d3_1_3 (x : Int) (σ : am_H) (ac : Nat) (hac : σ 63 44 = (ac : Int)) (hK : σ 63 43 = 3) (hr : 0 ≤ σ 63 42 ∧ σ 63 42 ≤ 296) : am_Mi yX10_worksAs cX10_worksAs 4 (some .int) 4 0 0 [vr 63, vi 3, vi x] SH σ (fun r sh' σ' => SH = sh' ∧ (mn [41, 30, 10, 1] σ) = σ' ∧ r = (w32 (-(w32 ((w32 ((w32 (x + 1)) + (ac : Int))) * 2))))) := by
  refine am_Mi_of (by decide +kernel) (Nat.le_of_ble_eq_true rfl) (fun K X hY hI hret => ?_)
  show am_G K 0 [some (vr 63), some (vi 3), some (vi x), none] [] SH σ
  refine am_iload_n (x := 3) X (by rfl) dX10_worksAs_0 ?_
  refine am_ic X (by decide) dX10_worksAs_1 ?_
  refine am_icmp_eq (tgt := 10) X dX10_worksAs_2 (by decide) (fun _ => ?_) (fun h => absurd h (by decide))
  refine am_aload_n (x := 63) X (by rfl) dX10_worksAs_10 ?_
  refine am_bipush X (by decide) dX10_worksAs_11 ?_
  refine am_callVv (ci := 9) X hY lk_X10_317 mf_X10_begins (m_X10_begins 41 σ (by omega)) (by decide) (by decide) (Nat.le_refl _) (Nat.le_refl _) sh_63 rfl rfl rfl (Nat.le_of_ble_eq_true rfl) dX10_worksAs_13 (fun sh13 σ13 hp13 => ?_)
  obtain ⟨rfl, rfl, hq13⟩ := hp13
  refine am_sg (mn [41] σ) rfl ?_
  refine am_aload_n (x := 63) X (by rfl) dX10_worksAs_16 ?_
  refine am_ic X (by decide) dX10_worksAs_17 ?_
  refine am_iload_n (x := x) X (by rfl) dX10_worksAs_18 ?_
  refine am_ic X (by decide) dX10_worksAs_19 ?_
  refine am_iadd X dX10_worksAs_20 ?_
  refine am_callVi (ci := 9) X hY lk_X10_327 mf_X10_worksAs (m_d3_1_2 (w32 (x + 1)) (mn [41] σ) ac ((mn_at [41] (by decide) (Or.inr (by decide))).trans hac) ((mn_at [41] (by decide) (Or.inr (by decide))).trans hK) (by rw [mn_3]; show 0 ≤ σ 63 42 + 1 ∧ σ 63 42 + 1 ≤ _; omega)) (by decide) (by decide) (Nat.le_refl _) (Nat.le_refl _) sh_63 rfl rfl rfl (Nat.le_of_ble_eq_true rfl) dX10_worksAs_21 (fun r21 sh21 σ21 hr21 hp21 => ?_)
  obtain ⟨rfl, rfl, hq21⟩ := hp21
  refine am_sg (mn [41, 30, 10, 1] σ) (mn_app [41] [30, 10, 1] σ) ?_
  exact hret _ _ _ _ _ dX10_worksAs_24 rfl rfl (by subst_vars; exact ⟨rfl, rfl, rfl⟩)

set_option maxHeartbeats 4000000 in
set_option maxRecDepth 100000 in
theorem m_d3_2_2 (x : Int) (σ : am_H) (ac : Nat) (hac : σ 63 44 = (ac : Int)) (hK : σ 63 43 = 3) (hr : 0 ≤ σ 63 42 ∧ σ 63 42 ≤ 299) : am_Mi yX10_asksAs cX10_asksAs 4 (some .int) 1 0 0 [vr 63, vi 2, vi x] SH σ (fun r sh' σ' => SH = sh' ∧ (mn [11] σ) = σ' ∧ r = (am_xor x (ac : Int))) := by
  refine am_Mi_of (by decide +kernel) (Nat.le_of_ble_eq_true rfl) (fun K X hY hI hret => ?_)
  show am_G K 0 [some (vr 63), some (vi 2), some (vi x), none] [] SH σ
  refine am_iload_n (x := 2) X (by rfl) dX10_asksAs_0 ?_
  refine am_ic X (by decide) dX10_asksAs_1 ?_
  refine am_icmp_eq (tgt := 10) X dX10_asksAs_2 (by decide) (fun h => absurd h (by decide)) (fun _ => ?_)
  refine am_iload_n (x := 2) X (by rfl) dX10_asksAs_5 ?_
  refine am_ic X (by decide) dX10_asksAs_6 ?_
  refine am_icmp_ne (tgt := 25) X dX10_asksAs_7 (by decide) (fun _ => ?_) (fun h => absurd h (by decide))
  refine am_iload_n (x := 2) X (by rfl) dX10_asksAs_25 ?_
  refine am_ic X (by decide) dX10_asksAs_26 ?_
  refine am_icmp_eq (tgt := 36) X dX10_asksAs_27 (by decide) (fun h => absurd h (by decide)) (fun _ => ?_)
  refine am_iload_n (x := 2) X (by rfl) dX10_asksAs_30 ?_
  refine am_bipush X (by decide) dX10_asksAs_31 ?_
  refine am_icmp_ne (tgt := 61) X dX10_asksAs_33 (by decide) (fun _ => ?_) (fun h => absurd h (by decide))
  refine am_aload_n (x := 63) X (by rfl) dX10_asksAs_61 ?_
  refine am_bipush X (by decide) dX10_asksAs_62 ?_
  refine am_callVv (ci := 9) X hY lk_X10_317 mf_X10_begins (m_X10_begins 11 σ (by omega)) (by decide) (by decide) (Nat.le_refl _) (Nat.le_refl _) sh_63 rfl rfl rfl (Nat.le_of_ble_eq_true rfl) dX10_asksAs_64 (fun sh64 σ64 hp64 => ?_)
  obtain ⟨rfl, rfl, hq64⟩ := hp64
  refine am_sg (mn [11] σ) rfl ?_
  refine am_iload_n (x := x) X (by rfl) dX10_asksAs_67 ?_
  refine am_aload_n (x := 63) X (by rfl) dX10_asksAs_68 ?_
  refine am_get (v := (ac : Int)) X 63 fl_X10_324 (by decide) sh_63 (by decide) ((mn_at [11] (by decide) (Or.inr (by decide))).trans hac) dX10_asksAs_69 ?_
  refine am_ixor X dX10_asksAs_72 ?_
  exact hret _ _ _ _ _ dX10_asksAs_73 rfl rfl (by subst_vars; exact ⟨rfl, rfl, rfl⟩)

set_option maxHeartbeats 4000000 in
set_option maxRecDepth 100000 in
theorem m_d3_2_3 (x : Int) (σ : am_H) (ac : Nat) (hac : σ 63 44 = (ac : Int)) (hK : σ 63 43 = 3) (hr : 0 ≤ σ 63 42 ∧ σ 63 42 ≤ 298) : am_Mi yX10_asksAs cX10_asksAs 4 (some .int) 2 0 0 [vr 63, vi 3, vi x] SH σ (fun r sh' σ' => SH = sh' ∧ (mn [40, 11] σ) = σ' ∧ r = (w32 ((am_xor x (ac : Int)) * 3))) := by
  refine am_Mi_of (by decide +kernel) (Nat.le_of_ble_eq_true rfl) (fun K X hY hI hret => ?_)
  show am_G K 0 [some (vr 63), some (vi 3), some (vi x), none] [] SH σ
  refine am_iload_n (x := 3) X (by rfl) dX10_asksAs_0 ?_
  refine am_ic X (by decide) dX10_asksAs_1 ?_
  refine am_icmp_eq (tgt := 10) X dX10_asksAs_2 (by decide) (fun _ => ?_) (fun h => absurd h (by decide))
  refine am_aload_n (x := 63) X (by rfl) dX10_asksAs_10 ?_
  refine am_bipush X (by decide) dX10_asksAs_11 ?_
  refine am_callVv (ci := 9) X hY lk_X10_317 mf_X10_begins (m_X10_begins 40 σ (by omega)) (by decide) (by decide) (Nat.le_refl _) (Nat.le_refl _) sh_63 rfl rfl rfl (Nat.le_of_ble_eq_true rfl) dX10_asksAs_13 (fun sh13 σ13 hp13 => ?_)
  obtain ⟨rfl, rfl, hq13⟩ := hp13
  refine am_sg (mn [40] σ) rfl ?_
  refine am_aload_n (x := 63) X (by rfl) dX10_asksAs_16 ?_
  refine am_ic X (by decide) dX10_asksAs_17 ?_
  refine am_iload_n (x := x) X (by rfl) dX10_asksAs_18 ?_
  refine am_callVi (ci := 9) X hY lk_X10_333 mf_X10_asksAs (m_d3_2_2 x (mn [40] σ) ac ((mn_at [40] (by decide) (Or.inr (by decide))).trans hac) ((mn_at [40] (by decide) (Or.inr (by decide))).trans hK) (by rw [mn_3]; show 0 ≤ σ 63 42 + 1 ∧ σ 63 42 + 1 ≤ _; omega)) (by decide) (by decide) (Nat.le_refl _) (Nat.le_refl _) sh_63 rfl rfl rfl (Nat.le_of_ble_eq_true rfl) dX10_asksAs_19 (fun r19 sh19 σ19 hr19 hp19 => ?_)
  obtain ⟨rfl, rfl, hq19⟩ := hp19
  refine am_sg (mn [40, 11] σ) (mn_app [40] [11] σ) ?_
  refine am_ic X (by decide) dX10_asksAs_22 ?_
  refine am_imul X dX10_asksAs_23 ?_
  exact hret _ _ _ _ _ dX10_asksAs_24 rfl rfl (by subst_vars; exact ⟨rfl, rfl, rfl⟩)

set_option maxHeartbeats 4000000 in
set_option maxRecDepth 100000 in
theorem m_d3_3_3 (x : Int) (σ : am_H) (ac : Nat) (hac : σ 63 44 = (ac : Int)) (hK : σ 63 43 = 3) (hr : 0 ≤ σ 63 42 ∧ σ 63 42 ≤ 293) : am_Mi yX10_tellsAs cX10_tellsAs 4 (some .int) 5 0 0 [vr 63, vi 3, vi x] SH σ (fun r sh' σ' => SH = sh' ∧ (mn [2, 41, 30, 10, 1, 40, 11] σ) = σ' ∧ r = (w32 ((w32 (-(w32 ((w32 ((w32 (x + 1)) + (ac : Int))) * 2)))) - (w32 ((am_xor 1 (ac : Int)) * 3))))) := by
  refine am_Mi_of (by decide +kernel) (Nat.le_of_ble_eq_true rfl) (fun K X hY hI hret => ?_)
  show am_G K 0 [some (vr 63), some (vi 3), some (vi x), none] [] SH σ
  refine am_iload_n (x := 3) X (by rfl) dX10_tellsAs_0 ?_
  refine am_ic X (by decide) dX10_tellsAs_1 ?_
  refine am_icmp_ne (tgt := 20) X dX10_tellsAs_2 (by decide) (fun _ => ?_) (fun h => absurd h (by decide))
  refine am_iload_n (x := 3) X (by rfl) dX10_tellsAs_20 ?_
  refine am_bipush X (by decide) dX10_tellsAs_21 ?_
  refine am_icmp_ne (tgt := 41) X dX10_tellsAs_23 (by decide) (fun _ => ?_) (fun h => absurd h (by decide))
  refine am_aload_n (x := 63) X (by rfl) dX10_tellsAs_41 ?_
  refine am_ic X (by decide) dX10_tellsAs_42 ?_
  refine am_callVv (ci := 9) X hY lk_X10_317 mf_X10_begins (m_X10_begins 2 σ (by omega)) (by decide) (by decide) (Nat.le_refl _) (Nat.le_refl _) sh_63 rfl rfl rfl (Nat.le_of_ble_eq_true rfl) dX10_tellsAs_43 (fun sh43 σ43 hp43 => ?_)
  obtain ⟨rfl, rfl, hq43⟩ := hp43
  refine am_sg (mn [2] σ) rfl ?_
  refine am_aload_n (x := 63) X (by rfl) dX10_tellsAs_46 ?_
  refine am_aload_n (x := 63) X (by rfl) dX10_tellsAs_47 ?_
  refine am_get (v := 3) X 63 fl_X10_330 (by decide) sh_63 (by decide) ((mn_at [2] (by decide) (Or.inr (by decide))).trans hK) dX10_tellsAs_48 ?_
  refine am_iload_n (x := x) X (by rfl) dX10_tellsAs_51 ?_
  refine am_callVi (ci := 9) X hY lk_X10_327 mf_X10_worksAs (m_d3_1_3 x (mn [2] σ) ac ((mn_at [2] (by decide) (Or.inr (by decide))).trans hac) ((mn_at [2] (by decide) (Or.inr (by decide))).trans hK) (by rw [mn_3]; show 0 ≤ σ 63 42 + 1 ∧ σ 63 42 + 1 ≤ _; omega)) (by decide) (by decide) (Nat.le_refl _) (Nat.le_refl _) sh_63 rfl rfl rfl (Nat.le_of_ble_eq_true rfl) dX10_tellsAs_52 (fun r52 sh52 σ52 hr52 hp52 => ?_)
  obtain ⟨rfl, rfl, hq52⟩ := hp52
  refine am_sg (mn [2, 41, 30, 10, 1] σ) (mn_app [2] [41, 30, 10, 1] σ) ?_
  refine am_istore_n (i := 3) (L' := [some (vr 63), some (vi 3), some (vi x), some (vi r52)]) X rfl (Nat.le_of_ble_eq_true rfl) (by rfl) dX10_tellsAs_55 ?_
  refine am_iload_n (x := r52) X (by rfl) dX10_tellsAs_56 ?_
  refine am_aload_n (x := 63) X (by rfl) dX10_tellsAs_57 ?_
  refine am_aload_n (x := 63) X (by rfl) dX10_tellsAs_58 ?_
  refine am_get (v := 3) X 63 fl_X10_330 (by decide) sh_63 (by decide) ((mn_at [2, 41, 30, 10, 1] (by decide) (Or.inr (by decide))).trans hK) dX10_tellsAs_59 ?_
  refine am_ic X (by decide) dX10_tellsAs_62 ?_
  refine am_callVi (ci := 9) X hY lk_X10_333 mf_X10_asksAs (m_d3_2_3 1 (mn [2, 41, 30, 10, 1] σ) ac ((mn_at [2, 41, 30, 10, 1] (by decide) (Or.inr (by decide))).trans hac) ((mn_at [2, 41, 30, 10, 1] (by decide) (Or.inr (by decide))).trans hK) (by rw [mn_3]; show 0 ≤ σ 63 42 + 5 ∧ σ 63 42 + 5 ≤ _; omega)) (by decide) (by decide) (Nat.le_refl _) (Nat.le_refl _) sh_63 rfl rfl rfl (Nat.le_of_ble_eq_true rfl) dX10_tellsAs_63 (fun r63 sh63 σ63 hr63 hp63 => ?_)
  obtain ⟨rfl, rfl, hq63⟩ := hp63
  refine am_sg (mn [2, 41, 30, 10, 1, 40, 11] σ) (mn_app [2, 41, 30, 10, 1] [40, 11] σ) ?_
  refine am_isub X dX10_tellsAs_66 ?_
  exact hret _ _ _ _ _ dX10_tellsAs_67 rfl rfl (by subst_vars; exact ⟨rfl, rfl, rfl⟩)

set_option maxHeartbeats 4000000 in
set_option maxRecDepth 100000 in
theorem m_d4_0_0 (x : Int) (σ : am_H) (ac : Nat) (hac : σ 63 44 = (ac : Int)) (hK : σ 63 43 = 4) (hr : 0 ≤ σ 63 42 ∧ σ 63 42 ≤ 299) : am_Mi yX10_owesAs cX10_owesAs 3 (some .int) 1 0 0 [vr 63, vi 0, vi x] SH σ (fun r sh' σ' => SH = sh' ∧ (mn [1] σ) = σ' ∧ r = (w32 (x + (ac : Int)))) := by
  refine am_Mi_of (by decide +kernel) (Nat.le_of_ble_eq_true rfl) (fun K X hY hI hret => ?_)
  show am_G K 0 [some (vr 63), some (vi 0), some (vi x)] [] SH σ
  refine am_iload_n (x := 0) X (by rfl) dX10_owesAs_0 ?_
  refine am_ic X (by decide) dX10_owesAs_1 ?_
  refine am_icmp_eq (tgt := 16) X dX10_owesAs_2 (by decide) (fun h => absurd h (by decide)) (fun _ => ?_)
  refine am_iload_n (x := 0) X (by rfl) dX10_owesAs_5 ?_
  refine am_ic X (by decide) dX10_owesAs_6 ?_
  refine am_icmp_eq (tgt := 16) X dX10_owesAs_7 (by decide) (fun h => absurd h (by decide)) (fun _ => ?_)
  refine am_iload_n (x := 0) X (by rfl) dX10_owesAs_10 ?_
  refine am_bipush X (by decide) dX10_owesAs_11 ?_
  refine am_icmp_ne (tgt := 31) X dX10_owesAs_13 (by decide) (fun _ => ?_) (fun h => absurd h (by decide))
  refine am_iload_n (x := 0) X (by rfl) dX10_owesAs_31 ?_
  refine am_bipush X (by decide) dX10_owesAs_32 ?_
  refine am_icmp_ne (tgt := 52) X dX10_owesAs_34 (by decide) (fun _ => ?_) (fun h => absurd h (by decide))
  refine am_aload_n (x := 63) X (by rfl) dX10_owesAs_52 ?_
  refine am_ic X (by decide) dX10_owesAs_53 ?_
  refine am_callVv (ci := 9) X hY lk_X10_317 mf_X10_begins (m_X10_begins 1 σ (by omega)) (by decide) (by decide) (Nat.le_refl _) (Nat.le_refl _) sh_63 rfl rfl rfl (Nat.le_of_ble_eq_true rfl) dX10_owesAs_54 (fun sh54 σ54 hp54 => ?_)
  obtain ⟨rfl, rfl, hq54⟩ := hp54
  refine am_sg (mn [1] σ) rfl ?_
  refine am_iload_n (x := x) X (by rfl) dX10_owesAs_57 ?_
  refine am_aload_n (x := 63) X (by rfl) dX10_owesAs_58 ?_
  refine am_get (v := (ac : Int)) X 63 fl_X10_324 (by decide) sh_63 (by decide) ((mn_at [1] (by decide) (Or.inr (by decide))).trans hac) dX10_owesAs_59 ?_
  refine am_iadd X dX10_owesAs_62 ?_
  exact hret _ _ _ _ _ dX10_owesAs_63 rfl rfl (by subst_vars; exact ⟨rfl, rfl, rfl⟩)

set_option maxHeartbeats 4000000 in
set_option maxRecDepth 100000 in
theorem m_d4_0_4 (x : Int) (σ : am_H) (ac : Nat) (hac : σ 63 44 = (ac : Int)) (hK : σ 63 43 = 4) (hr : 0 ≤ σ 63 42 ∧ σ 63 42 ≤ 298) : am_Mi yX10_owesAs cX10_owesAs 3 (some .int) 2 0 0 [vr 63, vi 4, vi x] SH σ (fun r sh' σ' => SH = sh' ∧ (mn [20, 1] σ) = σ' ∧ r = (w32 ((w32 (x + (ac : Int))) + 3))) := by
  refine am_Mi_of (by decide +kernel) (Nat.le_of_ble_eq_true rfl) (fun K X hY hI hret => ?_)
  show am_G K 0 [some (vr 63), some (vi 4), some (vi x)] [] SH σ
  refine am_iload_n (x := 4) X (by rfl) dX10_owesAs_0 ?_
  refine am_ic X (by decide) dX10_owesAs_1 ?_
  refine am_icmp_eq (tgt := 16) X dX10_owesAs_2 (by decide) (fun h => absurd h (by decide)) (fun _ => ?_)
  refine am_iload_n (x := 4) X (by rfl) dX10_owesAs_5 ?_
  refine am_ic X (by decide) dX10_owesAs_6 ?_
  refine am_icmp_eq (tgt := 16) X dX10_owesAs_7 (by decide) (fun _ => ?_) (fun h => absurd h (by decide))
  refine am_aload_n (x := 63) X (by rfl) dX10_owesAs_16 ?_
  refine am_bipush X (by decide) dX10_owesAs_17 ?_
  refine am_callVv (ci := 9) X hY lk_X10_317 mf_X10_begins (m_X10_begins 20 σ (by omega)) (by decide) (by decide) (Nat.le_refl _) (Nat.le_refl _) sh_63 rfl rfl rfl (Nat.le_of_ble_eq_true rfl) dX10_owesAs_19 (fun sh19 σ19 hp19 => ?_)
  obtain ⟨rfl, rfl, hq19⟩ := hp19
  refine am_sg (mn [20] σ) rfl ?_
  refine am_aload_n (x := 63) X (by rfl) dX10_owesAs_22 ?_
  refine am_ic X (by decide) dX10_owesAs_23 ?_
  refine am_iload_n (x := x) X (by rfl) dX10_owesAs_24 ?_
  refine am_callVi (ci := 9) X hY lk_X10_321 mf_X10_owesAs (m_d4_0_0 x (mn [20] σ) ac ((mn_at [20] (by decide) (Or.inr (by decide))).trans hac) ((mn_at [20] (by decide) (Or.inr (by decide))).trans hK) (by rw [mn_3]; show 0 ≤ σ 63 42 + 1 ∧ σ 63 42 + 1 ≤ _; omega)) (by decide) (by decide) (Nat.le_refl _) (Nat.le_refl _) sh_63 rfl rfl rfl (Nat.le_of_ble_eq_true rfl) dX10_owesAs_25 (fun r25 sh25 σ25 hr25 hp25 => ?_)
  obtain ⟨rfl, rfl, hq25⟩ := hp25
  refine am_sg (mn [20, 1] σ) (mn_app [20] [1] σ) ?_
  refine am_ic X (by decide) dX10_owesAs_28 ?_
  refine am_iadd X dX10_owesAs_29 ?_
  exact hret _ _ _ _ _ dX10_owesAs_30 rfl rfl (by subst_vars; exact ⟨rfl, rfl, rfl⟩)

set_option maxHeartbeats 4000000 in
set_option maxRecDepth 100000 in
theorem m_d4_1_4 (x : Int) (σ : am_H) (ac : Nat) (hac : σ 63 44 = (ac : Int)) (hK : σ 63 43 = 4) (hr : 0 ≤ σ 63 42 ∧ σ 63 42 ≤ 297) : am_Mi yX10_worksAs cX10_worksAs 4 (some .int) 3 0 0 [vr 63, vi 4, vi x] SH σ (fun r sh' σ' => SH = sh' ∧ (mn [10, 20, 1] σ) = σ' ∧ r = (w32 ((w32 ((w32 (x + (ac : Int))) + 3)) * 2))) := by
  refine am_Mi_of (by decide +kernel) (Nat.le_of_ble_eq_true rfl) (fun K X hY hI hret => ?_)
  show am_G K 0 [some (vr 63), some (vi 4), some (vi x), none] [] SH σ
  refine am_iload_n (x := 4) X (by rfl) dX10_worksAs_0 ?_
  refine am_ic X (by decide) dX10_worksAs_1 ?_
  refine am_icmp_eq (tgt := 10) X dX10_worksAs_2 (by decide) (fun h => absurd h (by decide)) (fun _ => ?_)
  refine am_iload_n (x := 4) X (by rfl) dX10_worksAs_5 ?_
  refine am_ic X (by decide) dX10_worksAs_6 ?_
  refine am_icmp_ne (tgt := 25) X dX10_worksAs_7 (by decide) (fun _ => ?_) (fun h => absurd h (by decide))
  refine am_iload_n (x := 4) X (by rfl) dX10_worksAs_25 ?_
  refine am_ic X (by decide) dX10_worksAs_26 ?_
  refine am_icmp_ne (tgt := 44) X dX10_worksAs_27 (by decide) (fun _ => ?_) (fun h => absurd h (by decide))
  refine am_iload_n (x := 4) X (by rfl) dX10_worksAs_44 ?_
  refine am_bipush X (by decide) dX10_worksAs_45 ?_
  refine am_icmp_ne (tgt := 75) X dX10_worksAs_47 (by decide) (fun _ => ?_) (fun h => absurd h (by decide))
  refine am_aload_n (x := 63) X (by rfl) dX10_worksAs_75 ?_
  refine am_bipush X (by decide) dX10_worksAs_76 ?_
  refine am_callVv (ci := 9) X hY lk_X10_317 mf_X10_begins (m_X10_begins 10 σ (by omega)) (by decide) (by decide) (Nat.le_refl _) (Nat.le_refl _) sh_63 rfl rfl rfl (Nat.le_of_ble_eq_true rfl) dX10_worksAs_78 (fun sh78 σ78 hp78 => ?_)
  obtain ⟨rfl, rfl, hq78⟩ := hp78
  refine am_sg (mn [10] σ) rfl ?_
  refine am_aload_n (x := 63) X (by rfl) dX10_worksAs_81 ?_
  refine am_aload_n (x := 63) X (by rfl) dX10_worksAs_82 ?_
  refine am_get (v := 4) X 63 fl_X10_330 (by decide) sh_63 (by decide) ((mn_at [10] (by decide) (Or.inr (by decide))).trans hK) dX10_worksAs_83 ?_
  refine am_iload_n (x := x) X (by rfl) dX10_worksAs_86 ?_
  refine am_callVi (ci := 9) X hY lk_X10_321 mf_X10_owesAs (m_d4_0_4 x (mn [10] σ) ac ((mn_at [10] (by decide) (Or.inr (by decide))).trans hac) ((mn_at [10] (by decide) (Or.inr (by decide))).trans hK) (by rw [mn_3]; show 0 ≤ σ 63 42 + 1 ∧ σ 63 42 + 1 ≤ _; omega)) (by decide) (by decide) (Nat.le_refl _) (Nat.le_refl _) sh_63 rfl rfl rfl (Nat.le_of_ble_eq_true rfl) dX10_worksAs_87 (fun r87 sh87 σ87 hr87 hp87 => ?_)
  obtain ⟨rfl, rfl, hq87⟩ := hp87
  refine am_sg (mn [10, 20, 1] σ) (mn_app [10] [20, 1] σ) ?_
  refine am_ic X (by decide) dX10_worksAs_90 ?_
  refine am_imul X dX10_worksAs_91 ?_
  exact hret _ _ _ _ _ dX10_worksAs_92 rfl rfl (by subst_vars; exact ⟨rfl, rfl, rfl⟩)

set_option maxHeartbeats 4000000 in
set_option maxRecDepth 100000 in
theorem m_d4_2_1 (x : Int) (σ : am_H) (ac : Nat) (hac : σ 63 44 = (ac : Int)) (hK : σ 63 43 = 4) (hr : 0 ≤ σ 63 42 ∧ σ 63 42 ≤ 299) : am_Mi yX10_asksAs cX10_asksAs 4 (some .int) 1 0 0 [vr 63, vi 1, vi x] SH σ (fun r sh' σ' => SH = sh' ∧ (mn [11] σ) = σ' ∧ r = (am_xor x (ac : Int))) := by
  refine am_Mi_of (by decide +kernel) (Nat.le_of_ble_eq_true rfl) (fun K X hY hI hret => ?_)
  show am_G K 0 [some (vr 63), some (vi 1), some (vi x), none] [] SH σ
  refine am_iload_n (x := 1) X (by rfl) dX10_asksAs_0 ?_
  refine am_ic X (by decide) dX10_asksAs_1 ?_
  refine am_icmp_eq (tgt := 10) X dX10_asksAs_2 (by decide) (fun h => absurd h (by decide)) (fun _ => ?_)
  refine am_iload_n (x := 1) X (by rfl) dX10_asksAs_5 ?_
  refine am_ic X (by decide) dX10_asksAs_6 ?_
  refine am_icmp_ne (tgt := 25) X dX10_asksAs_7 (by decide) (fun _ => ?_) (fun h => absurd h (by decide))
  refine am_iload_n (x := 1) X (by rfl) dX10_asksAs_25 ?_
  refine am_ic X (by decide) dX10_asksAs_26 ?_
  refine am_icmp_eq (tgt := 36) X dX10_asksAs_27 (by decide) (fun h => absurd h (by decide)) (fun _ => ?_)
  refine am_iload_n (x := 1) X (by rfl) dX10_asksAs_30 ?_
  refine am_bipush X (by decide) dX10_asksAs_31 ?_
  refine am_icmp_ne (tgt := 61) X dX10_asksAs_33 (by decide) (fun _ => ?_) (fun h => absurd h (by decide))
  refine am_aload_n (x := 63) X (by rfl) dX10_asksAs_61 ?_
  refine am_bipush X (by decide) dX10_asksAs_62 ?_
  refine am_callVv (ci := 9) X hY lk_X10_317 mf_X10_begins (m_X10_begins 11 σ (by omega)) (by decide) (by decide) (Nat.le_refl _) (Nat.le_refl _) sh_63 rfl rfl rfl (Nat.le_of_ble_eq_true rfl) dX10_asksAs_64 (fun sh64 σ64 hp64 => ?_)
  obtain ⟨rfl, rfl, hq64⟩ := hp64
  refine am_sg (mn [11] σ) rfl ?_
  refine am_iload_n (x := x) X (by rfl) dX10_asksAs_67 ?_
  refine am_aload_n (x := 63) X (by rfl) dX10_asksAs_68 ?_
  refine am_get (v := (ac : Int)) X 63 fl_X10_324 (by decide) sh_63 (by decide) ((mn_at [11] (by decide) (Or.inr (by decide))).trans hac) dX10_asksAs_69 ?_
  refine am_ixor X dX10_asksAs_72 ?_
  exact hret _ _ _ _ _ dX10_asksAs_73 rfl rfl (by subst_vars; exact ⟨rfl, rfl, rfl⟩)

set_option maxHeartbeats 4000000 in
set_option maxRecDepth 100000 in
theorem m_d4_2_4 (x : Int) (σ : am_H) (ac : Nat) (hac : σ 63 44 = (ac : Int)) (hK : σ 63 43 = 4) (hr : 0 ≤ σ 63 42 ∧ σ 63 42 ≤ 296) : am_Mi yX10_asksAs cX10_asksAs 4 (some .int) 3 0 0 [vr 63, vi 4, vi x] SH σ (fun r sh' σ' => SH = sh' ∧ (mn [50, 11, 20, 1] σ) = σ' ∧ r = (w32 ((am_xor x (ac : Int)) - (w32 ((w32 (2 + (ac : Int))) + 3))))) := by
  refine am_Mi_of (by decide +kernel) (Nat.le_of_ble_eq_true rfl) (fun K X hY hI hret => ?_)
  show am_G K 0 [some (vr 63), some (vi 4), some (vi x), none] [] SH σ
  refine am_iload_n (x := 4) X (by rfl) dX10_asksAs_0 ?_
  refine am_ic X (by decide) dX10_asksAs_1 ?_
  refine am_icmp_eq (tgt := 10) X dX10_asksAs_2 (by decide) (fun h => absurd h (by decide)) (fun _ => ?_)
  refine am_iload_n (x := 4) X (by rfl) dX10_asksAs_5 ?_
  refine am_ic X (by decide) dX10_asksAs_6 ?_
  refine am_icmp_ne (tgt := 25) X dX10_asksAs_7 (by decide) (fun _ => ?_) (fun h => absurd h (by decide))
  refine am_iload_n (x := 4) X (by rfl) dX10_asksAs_25 ?_
  refine am_ic X (by decide) dX10_asksAs_26 ?_
  refine am_icmp_eq (tgt := 36) X dX10_asksAs_27 (by decide) (fun _ => ?_) (fun h => absurd h (by decide))
  refine am_aload_n (x := 63) X (by rfl) dX10_asksAs_36 ?_
  refine am_bipush X (by decide) dX10_asksAs_37 ?_
  refine am_callVv (ci := 9) X hY lk_X10_317 mf_X10_begins (m_X10_begins 50 σ (by omega)) (by decide) (by decide) (Nat.le_refl _) (Nat.le_refl _) sh_63 rfl rfl rfl (Nat.le_of_ble_eq_true rfl) dX10_asksAs_39 (fun sh39 σ39 hp39 => ?_)
  obtain ⟨rfl, rfl, hq39⟩ := hp39
  refine am_sg (mn [50] σ) rfl ?_
  refine am_aload_n (x := 63) X (by rfl) dX10_asksAs_42 ?_
  refine am_ic X (by decide) dX10_asksAs_43 ?_
  refine am_iload_n (x := x) X (by rfl) dX10_asksAs_44 ?_
  refine am_callVi (ci := 9) X hY lk_X10_333 mf_X10_asksAs (m_d4_2_1 x (mn [50] σ) ac ((mn_at [50] (by decide) (Or.inr (by decide))).trans hac) ((mn_at [50] (by decide) (Or.inr (by decide))).trans hK) (by rw [mn_3]; show 0 ≤ σ 63 42 + 1 ∧ σ 63 42 + 1 ≤ _; omega)) (by decide) (by decide) (Nat.le_refl _) (Nat.le_refl _) sh_63 rfl rfl rfl (Nat.le_of_ble_eq_true rfl) dX10_asksAs_45 (fun r45 sh45 σ45 hr45 hp45 => ?_)
  obtain ⟨rfl, rfl, hq45⟩ := hp45
  refine am_sg (mn [50, 11] σ) (mn_app [50] [11] σ) ?_
  refine am_istore_n (i := 3) (L' := [some (vr 63), some (vi 4), some (vi x), some (vi r45)]) X rfl (Nat.le_of_ble_eq_true rfl) (by rfl) dX10_asksAs_48 ?_
  refine am_iload_n (x := r45) X (by rfl) dX10_asksAs_49 ?_
  refine am_aload_n (x := 63) X (by rfl) dX10_asksAs_50 ?_
  refine am_aload_n (x := 63) X (by rfl) dX10_asksAs_51 ?_
  refine am_get (v := 4) X 63 fl_X10_330 (by decide) sh_63 (by decide) ((mn_at [50, 11] (by decide) (Or.inr (by decide))).trans hK) dX10_asksAs_52 ?_
  refine am_ic X (by decide) dX10_asksAs_55 ?_
  refine am_callVi (ci := 9) X hY lk_X10_321 mf_X10_owesAs (m_d4_0_4 2 (mn [50, 11] σ) ac ((mn_at [50, 11] (by decide) (Or.inr (by decide))).trans hac) ((mn_at [50, 11] (by decide) (Or.inr (by decide))).trans hK) (by rw [mn_3]; show 0 ≤ σ 63 42 + 2 ∧ σ 63 42 + 2 ≤ _; omega)) (by decide) (by decide) (Nat.le_refl _) (Nat.le_refl _) sh_63 rfl rfl rfl (Nat.le_of_ble_eq_true rfl) dX10_asksAs_56 (fun r56 sh56 σ56 hr56 hp56 => ?_)
  obtain ⟨rfl, rfl, hq56⟩ := hp56
  refine am_sg (mn [50, 11, 20, 1] σ) (mn_app [50, 11] [20, 1] σ) ?_
  refine am_isub X dX10_asksAs_59 ?_
  exact hret _ _ _ _ _ dX10_asksAs_60 rfl rfl (by subst_vars; exact ⟨rfl, rfl, rfl⟩)

set_option maxHeartbeats 4000000 in
set_option maxRecDepth 100000 in
theorem m_d4_3_4 (x : Int) (σ : am_H) (ac : Nat) (hac : σ 63 44 = (ac : Int)) (hK : σ 63 43 = 4) (hr : 0 ≤ σ 63 42 ∧ σ 63 42 ≤ 292) : am_Mi yX10_tellsAs cX10_tellsAs 4 (some .int) 4 0 0 [vr 63, vi 4, vi x] SH σ (fun r sh' σ' => SH = sh' ∧ (mn [2, 10, 20, 1, 50, 11, 20, 1] σ) = σ' ∧ r = (w32 ((w32 ((w32 ((w32 (x + (ac : Int))) + 3)) * 2)) - (w32 ((am_xor 1 (ac : Int)) - (w32 ((w32 (2 + (ac : Int))) + 3))))))) := by
  refine am_Mi_of (by decide +kernel) (Nat.le_of_ble_eq_true rfl) (fun K X hY hI hret => ?_)
  show am_G K 0 [some (vr 63), some (vi 4), some (vi x), none] [] SH σ
  refine am_iload_n (x := 4) X (by rfl) dX10_tellsAs_0 ?_
  refine am_ic X (by decide) dX10_tellsAs_1 ?_
  refine am_icmp_ne (tgt := 20) X dX10_tellsAs_2 (by decide) (fun _ => ?_) (fun h => absurd h (by decide))
  refine am_iload_n (x := 4) X (by rfl) dX10_tellsAs_20 ?_
  refine am_bipush X (by decide) dX10_tellsAs_21 ?_
  refine am_icmp_ne (tgt := 41) X dX10_tellsAs_23 (by decide) (fun _ => ?_) (fun h => absurd h (by decide))
  refine am_aload_n (x := 63) X (by rfl) dX10_tellsAs_41 ?_
  refine am_ic X (by decide) dX10_tellsAs_42 ?_
  refine am_callVv (ci := 9) X hY lk_X10_317 mf_X10_begins (m_X10_begins 2 σ (by omega)) (by decide) (by decide) (Nat.le_refl _) (Nat.le_refl _) sh_63 rfl rfl rfl (Nat.le_of_ble_eq_true rfl) dX10_tellsAs_43 (fun sh43 σ43 hp43 => ?_)
  obtain ⟨rfl, rfl, hq43⟩ := hp43
  refine am_sg (mn [2] σ) rfl ?_
  refine am_aload_n (x := 63) X (by rfl) dX10_tellsAs_46 ?_
  refine am_aload_n (x := 63) X (by rfl) dX10_tellsAs_47 ?_
  refine am_get (v := 4) X 63 fl_X10_330 (by decide) sh_63 (by decide) ((mn_at [2] (by decide) (Or.inr (by decide))).trans hK) dX10_tellsAs_48 ?_
  refine am_iload_n (x := x) X (by rfl) dX10_tellsAs_51 ?_
  refine am_callVi (ci := 9) X hY lk_X10_327 mf_X10_worksAs (m_d4_1_4 x (mn [2] σ) ac ((mn_at [2] (by decide) (Or.inr (by decide))).trans hac) ((mn_at [2] (by decide) (Or.inr (by decide))).trans hK) (by rw [mn_3]; show 0 ≤ σ 63 42 + 1 ∧ σ 63 42 + 1 ≤ _; omega)) (by decide) (by decide) (Nat.le_refl _) (Nat.le_refl _) sh_63 rfl rfl rfl (Nat.le_of_ble_eq_true rfl) dX10_tellsAs_52 (fun r52 sh52 σ52 hr52 hp52 => ?_)
  obtain ⟨rfl, rfl, hq52⟩ := hp52
  refine am_sg (mn [2, 10, 20, 1] σ) (mn_app [2] [10, 20, 1] σ) ?_
  refine am_istore_n (i := 3) (L' := [some (vr 63), some (vi 4), some (vi x), some (vi r52)]) X rfl (Nat.le_of_ble_eq_true rfl) (by rfl) dX10_tellsAs_55 ?_
  refine am_iload_n (x := r52) X (by rfl) dX10_tellsAs_56 ?_
  refine am_aload_n (x := 63) X (by rfl) dX10_tellsAs_57 ?_
  refine am_aload_n (x := 63) X (by rfl) dX10_tellsAs_58 ?_
  refine am_get (v := 4) X 63 fl_X10_330 (by decide) sh_63 (by decide) ((mn_at [2, 10, 20, 1] (by decide) (Or.inr (by decide))).trans hK) dX10_tellsAs_59 ?_
  refine am_ic X (by decide) dX10_tellsAs_62 ?_
  refine am_callVi (ci := 9) X hY lk_X10_333 mf_X10_asksAs (m_d4_2_4 1 (mn [2, 10, 20, 1] σ) ac ((mn_at [2, 10, 20, 1] (by decide) (Or.inr (by decide))).trans hac) ((mn_at [2, 10, 20, 1] (by decide) (Or.inr (by decide))).trans hK) (by rw [mn_3]; show 0 ≤ σ 63 42 + 4 ∧ σ 63 42 + 4 ≤ _; omega)) (by decide) (by decide) (Nat.le_refl _) (Nat.le_refl _) sh_63 rfl rfl rfl (Nat.le_of_ble_eq_true rfl) dX10_tellsAs_63 (fun r63 sh63 σ63 hr63 hp63 => ?_)
  obtain ⟨rfl, rfl, hq63⟩ := hp63
  refine am_sg (mn [2, 10, 20, 1, 50, 11, 20, 1] σ) (mn_app [2, 10, 20, 1] [50, 11, 20, 1] σ) ?_
  refine am_isub X dX10_tellsAs_66 ?_
  exact hret _ _ _ _ _ dX10_tellsAs_67 rfl rfl (by subst_vars; exact ⟨rfl, rfl, rfl⟩)

set_option maxHeartbeats 4000000 in
set_option maxRecDepth 100000 in
theorem m_d5_0_5 (x : Int) (σ : am_H) (ac : Nat) (hac : σ 63 44 = (ac : Int)) (hK : σ 63 43 = 5) (hr : 0 ≤ σ 63 42 ∧ σ 63 42 ≤ 299) : am_Mi yX10_owesAs cX10_owesAs 3 (some .int) 1 0 0 [vr 63, vi 5, vi x] SH σ (fun r sh' σ' => SH = sh' ∧ (mn [1] σ) = σ' ∧ r = (w32 (x + (ac : Int)))) := by
  refine am_Mi_of (by decide +kernel) (Nat.le_of_ble_eq_true rfl) (fun K X hY hI hret => ?_)
  show am_G K 0 [some (vr 63), some (vi 5), some (vi x)] [] SH σ
  refine am_iload_n (x := 5) X (by rfl) dX10_owesAs_0 ?_
  refine am_ic X (by decide) dX10_owesAs_1 ?_
  refine am_icmp_eq (tgt := 16) X dX10_owesAs_2 (by decide) (fun h => absurd h (by decide)) (fun _ => ?_)
  refine am_iload_n (x := 5) X (by rfl) dX10_owesAs_5 ?_
  refine am_ic X (by decide) dX10_owesAs_6 ?_
  refine am_icmp_eq (tgt := 16) X dX10_owesAs_7 (by decide) (fun h => absurd h (by decide)) (fun _ => ?_)
  refine am_iload_n (x := 5) X (by rfl) dX10_owesAs_10 ?_
  refine am_bipush X (by decide) dX10_owesAs_11 ?_
  refine am_icmp_ne (tgt := 31) X dX10_owesAs_13 (by decide) (fun _ => ?_) (fun h => absurd h (by decide))
  refine am_iload_n (x := 5) X (by rfl) dX10_owesAs_31 ?_
  refine am_bipush X (by decide) dX10_owesAs_32 ?_
  refine am_icmp_ne (tgt := 52) X dX10_owesAs_34 (by decide) (fun _ => ?_) (fun h => absurd h (by decide))
  refine am_aload_n (x := 63) X (by rfl) dX10_owesAs_52 ?_
  refine am_ic X (by decide) dX10_owesAs_53 ?_
  refine am_callVv (ci := 9) X hY lk_X10_317 mf_X10_begins (m_X10_begins 1 σ (by omega)) (by decide) (by decide) (Nat.le_refl _) (Nat.le_refl _) sh_63 rfl rfl rfl (Nat.le_of_ble_eq_true rfl) dX10_owesAs_54 (fun sh54 σ54 hp54 => ?_)
  obtain ⟨rfl, rfl, hq54⟩ := hp54
  refine am_sg (mn [1] σ) rfl ?_
  refine am_iload_n (x := x) X (by rfl) dX10_owesAs_57 ?_
  refine am_aload_n (x := 63) X (by rfl) dX10_owesAs_58 ?_
  refine am_get (v := (ac : Int)) X 63 fl_X10_324 (by decide) sh_63 (by decide) ((mn_at [1] (by decide) (Or.inr (by decide))).trans hac) dX10_owesAs_59 ?_
  refine am_iadd X dX10_owesAs_62 ?_
  exact hret _ _ _ _ _ dX10_owesAs_63 rfl rfl (by subst_vars; exact ⟨rfl, rfl, rfl⟩)

set_option maxHeartbeats 4000000 in
set_option maxRecDepth 100000 in
theorem m_d5_1_0 (x : Int) (σ : am_H) (ac : Nat) (hac : σ 63 44 = (ac : Int)) (hK : σ 63 43 = 5) (hr : 0 ≤ σ 63 42 ∧ σ 63 42 ≤ 298) : am_Mi yX10_worksAs cX10_worksAs 4 (some .int) 2 0 0 [vr 63, vi 0, vi x] SH σ (fun r sh' σ' => SH = sh' ∧ (mn [10, 1] σ) = σ' ∧ r = (w32 ((w32 (x + (ac : Int))) * 2))) := by
  refine am_Mi_of (by decide +kernel) (Nat.le_of_ble_eq_true rfl) (fun K X hY hI hret => ?_)
  show am_G K 0 [some (vr 63), some (vi 0), some (vi x), none] [] SH σ
  refine am_iload_n (x := 0) X (by rfl) dX10_worksAs_0 ?_
  refine am_ic X (by decide) dX10_worksAs_1 ?_
  refine am_icmp_eq (tgt := 10) X dX10_worksAs_2 (by decide) (fun h => absurd h (by decide)) (fun _ => ?_)
  refine am_iload_n (x := 0) X (by rfl) dX10_worksAs_5 ?_
  refine am_ic X (by decide) dX10_worksAs_6 ?_
  refine am_icmp_ne (tgt := 25) X dX10_worksAs_7 (by decide) (fun _ => ?_) (fun h => absurd h (by decide))
  refine am_iload_n (x := 0) X (by rfl) dX10_worksAs_25 ?_
  refine am_ic X (by decide) dX10_worksAs_26 ?_
  refine am_icmp_ne (tgt := 44) X dX10_worksAs_27 (by decide) (fun _ => ?_) (fun h => absurd h (by decide))
  refine am_iload_n (x := 0) X (by rfl) dX10_worksAs_44 ?_
  refine am_bipush X (by decide) dX10_worksAs_45 ?_
  refine am_icmp_ne (tgt := 75) X dX10_worksAs_47 (by decide) (fun _ => ?_) (fun h => absurd h (by decide))
  refine am_aload_n (x := 63) X (by rfl) dX10_worksAs_75 ?_
  refine am_bipush X (by decide) dX10_worksAs_76 ?_
  refine am_callVv (ci := 9) X hY lk_X10_317 mf_X10_begins (m_X10_begins 10 σ (by omega)) (by decide) (by decide) (Nat.le_refl _) (Nat.le_refl _) sh_63 rfl rfl rfl (Nat.le_of_ble_eq_true rfl) dX10_worksAs_78 (fun sh78 σ78 hp78 => ?_)
  obtain ⟨rfl, rfl, hq78⟩ := hp78
  refine am_sg (mn [10] σ) rfl ?_
  refine am_aload_n (x := 63) X (by rfl) dX10_worksAs_81 ?_
  refine am_aload_n (x := 63) X (by rfl) dX10_worksAs_82 ?_
  refine am_get (v := 5) X 63 fl_X10_330 (by decide) sh_63 (by decide) ((mn_at [10] (by decide) (Or.inr (by decide))).trans hK) dX10_worksAs_83 ?_
  refine am_iload_n (x := x) X (by rfl) dX10_worksAs_86 ?_
  refine am_callVi (ci := 9) X hY lk_X10_321 mf_X10_owesAs (m_d5_0_5 x (mn [10] σ) ac ((mn_at [10] (by decide) (Or.inr (by decide))).trans hac) ((mn_at [10] (by decide) (Or.inr (by decide))).trans hK) (by rw [mn_3]; show 0 ≤ σ 63 42 + 1 ∧ σ 63 42 + 1 ≤ _; omega)) (by decide) (by decide) (Nat.le_refl _) (Nat.le_refl _) sh_63 rfl rfl rfl (Nat.le_of_ble_eq_true rfl) dX10_worksAs_87 (fun r87 sh87 σ87 hr87 hp87 => ?_)
  obtain ⟨rfl, rfl, hq87⟩ := hp87
  refine am_sg (mn [10, 1] σ) (mn_app [10] [1] σ) ?_
  refine am_ic X (by decide) dX10_worksAs_90 ?_
  refine am_imul X dX10_worksAs_91 ?_
  exact hret _ _ _ _ _ dX10_worksAs_92 rfl rfl (by subst_vars; exact ⟨rfl, rfl, rfl⟩)

set_option maxHeartbeats 4000000 in
set_option maxRecDepth 100000 in
theorem m_d5_1_2 (x : Int) (σ : am_H) (ac : Nat) (hac : σ 63 44 = (ac : Int)) (hK : σ 63 43 = 5) (hr : 0 ≤ σ 63 42 ∧ σ 63 42 ≤ 297) : am_Mi yX10_worksAs cX10_worksAs 4 (some .int) 3 0 0 [vr 63, vi 2, vi x] SH σ (fun r sh' σ' => SH = sh' ∧ (mn [30, 10, 1] σ) = σ' ∧ r = (w32 (-(w32 ((w32 (x + (ac : Int))) * 2))))) := by
  refine am_Mi_of (by decide +kernel) (Nat.le_of_ble_eq_true rfl) (fun K X hY hI hret => ?_)
  show am_G K 0 [some (vr 63), some (vi 2), some (vi x), none] [] SH σ
  refine am_iload_n (x := 2) X (by rfl) dX10_worksAs_0 ?_
  refine am_ic X (by decide) dX10_worksAs_1 ?_
  refine am_icmp_eq (tgt := 10) X dX10_worksAs_2 (by decide) (fun h => absurd h (by decide)) (fun _ => ?_)
  refine am_iload_n (x := 2) X (by rfl) dX10_worksAs_5 ?_
  refine am_ic X (by decide) dX10_worksAs_6 ?_
  refine am_icmp_ne (tgt := 25) X dX10_worksAs_7 (by decide) (fun _ => ?_) (fun h => absurd h (by decide))
  refine am_iload_n (x := 2) X (by rfl) dX10_worksAs_25 ?_
  refine am_ic X (by decide) dX10_worksAs_26 ?_
  refine am_icmp_ne (tgt := 44) X dX10_worksAs_27 (by decide) (fun h => absurd h (by decide)) (fun _ => ?_)
  refine am_aload_n (x := 63) X (by rfl) dX10_worksAs_30 ?_
  refine am_bipush X (by decide) dX10_worksAs_31 ?_
  refine am_callVv (ci := 9) X hY lk_X10_317 mf_X10_begins (m_X10_begins 30 σ (by omega)) (by decide) (by decide) (Nat.le_refl _) (Nat.le_refl _) sh_63 rfl rfl rfl (Nat.le_of_ble_eq_true rfl) dX10_worksAs_33 (fun sh33 σ33 hp33 => ?_)
  obtain ⟨rfl, rfl, hq33⟩ := hp33
  refine am_sg (mn [30] σ) rfl ?_
  refine am_aload_n (x := 63) X (by rfl) dX10_worksAs_36 ?_
  refine am_ic X (by decide) dX10_worksAs_37 ?_
  refine am_iload_n (x := x) X (by rfl) dX10_worksAs_38 ?_
  refine am_callVi (ci := 9) X hY lk_X10_327 mf_X10_worksAs (m_d5_1_0 x (mn [30] σ) ac ((mn_at [30] (by decide) (Or.inr (by decide))).trans hac) ((mn_at [30] (by decide) (Or.inr (by decide))).trans hK) (by rw [mn_3]; show 0 ≤ σ 63 42 + 1 ∧ σ 63 42 + 1 ≤ _; omega)) (by decide) (by decide) (Nat.le_refl _) (Nat.le_refl _) sh_63 rfl rfl rfl (Nat.le_of_ble_eq_true rfl) dX10_worksAs_39 (fun r39 sh39 σ39 hr39 hp39 => ?_)
  obtain ⟨rfl, rfl, hq39⟩ := hp39
  refine am_sg (mn [30, 10, 1] σ) (mn_app [30] [10, 1] σ) ?_
  refine am_ineg X dX10_worksAs_42 ?_
  exact hret _ _ _ _ _ dX10_worksAs_43 rfl rfl (by subst_vars; exact ⟨rfl, rfl, rfl⟩)

set_option maxHeartbeats 4000000 in
set_option maxRecDepth 100000 in
theorem m_d5_1_5 (x : Int) (σ : am_H) (ac : Nat) (hac : σ 63 44 = (ac : Int)) (hK : σ 63 43 = 5) (hr : 0 ≤ σ 63 42 ∧ σ 63 42 ≤ 296) : am_Mi yX10_worksAs cX10_worksAs 4 (some .int) 4 0 0 [vr 63, vi 5, vi x] SH σ (fun r sh' σ' => SH = sh' ∧ (mn [41, 30, 10, 1] σ) = σ' ∧ r = (w32 (-(w32 ((w32 ((w32 (x + 1)) + (ac : Int))) * 2))))) := by
  refine am_Mi_of (by decide +kernel) (Nat.le_of_ble_eq_true rfl) (fun K X hY hI hret => ?_)
  show am_G K 0 [some (vr 63), some (vi 5), some (vi x), none] [] SH σ
  refine am_iload_n (x := 5) X (by rfl) dX10_worksAs_0 ?_
  refine am_ic X (by decide) dX10_worksAs_1 ?_
  refine am_icmp_eq (tgt := 10) X dX10_worksAs_2 (by decide) (fun h => absurd h (by decide)) (fun _ => ?_)
  refine am_iload_n (x := 5) X (by rfl) dX10_worksAs_5 ?_
  refine am_ic X (by decide) dX10_worksAs_6 ?_
  refine am_icmp_ne (tgt := 25) X dX10_worksAs_7 (by decide) (fun h => absurd h (by decide)) (fun _ => ?_)
  refine am_aload_n (x := 63) X (by rfl) dX10_worksAs_10 ?_
  refine am_bipush X (by decide) dX10_worksAs_11 ?_
  refine am_callVv (ci := 9) X hY lk_X10_317 mf_X10_begins (m_X10_begins 41 σ (by omega)) (by decide) (by decide) (Nat.le_refl _) (Nat.le_refl _) sh_63 rfl rfl rfl (Nat.le_of_ble_eq_true rfl) dX10_worksAs_13 (fun sh13 σ13 hp13 => ?_)
  obtain ⟨rfl, rfl, hq13⟩ := hp13
  refine am_sg (mn [41] σ) rfl ?_
  refine am_aload_n (x := 63) X (by rfl) dX10_worksAs_16 ?_
  refine am_ic X (by decide) dX10_worksAs_17 ?_
  refine am_iload_n (x := x) X (by rfl) dX10_worksAs_18 ?_
  refine am_ic X (by decide) dX10_worksAs_19 ?_
  refine am_iadd X dX10_worksAs_20 ?_
  refine am_callVi (ci := 9) X hY lk_X10_327 mf_X10_worksAs (m_d5_1_2 (w32 (x + 1)) (mn [41] σ) ac ((mn_at [41] (by decide) (Or.inr (by decide))).trans hac) ((mn_at [41] (by decide) (Or.inr (by decide))).trans hK) (by rw [mn_3]; show 0 ≤ σ 63 42 + 1 ∧ σ 63 42 + 1 ≤ _; omega)) (by decide) (by decide) (Nat.le_refl _) (Nat.le_refl _) sh_63 rfl rfl rfl (Nat.le_of_ble_eq_true rfl) dX10_worksAs_21 (fun r21 sh21 σ21 hr21 hp21 => ?_)
  obtain ⟨rfl, rfl, hq21⟩ := hp21
  refine am_sg (mn [41, 30, 10, 1] σ) (mn_app [41] [30, 10, 1] σ) ?_
  exact hret _ _ _ _ _ dX10_worksAs_24 rfl rfl (by subst_vars; exact ⟨rfl, rfl, rfl⟩)

set_option maxHeartbeats 4000000 in
set_option maxRecDepth 100000 in
theorem m_d5_2_2 (x : Int) (σ : am_H) (ac : Nat) (hac : σ 63 44 = (ac : Int)) (hK : σ 63 43 = 5) (hr : 0 ≤ σ 63 42 ∧ σ 63 42 ≤ 299) : am_Mi yX10_asksAs cX10_asksAs 4 (some .int) 1 0 0 [vr 63, vi 2, vi x] SH σ (fun r sh' σ' => SH = sh' ∧ (mn [11] σ) = σ' ∧ r = (am_xor x (ac : Int))) := by
  refine am_Mi_of (by decide +kernel) (Nat.le_of_ble_eq_true rfl) (fun K X hY hI hret => ?_)
  show am_G K 0 [some (vr 63), some (vi 2), some (vi x), none] [] SH σ
  refine am_iload_n (x := 2) X (by rfl) dX10_asksAs_0 ?_
  refine am_ic X (by decide) dX10_asksAs_1 ?_
  refine am_icmp_eq (tgt := 10) X dX10_asksAs_2 (by decide) (fun h => absurd h (by decide)) (fun _ => ?_)
  refine am_iload_n (x := 2) X (by rfl) dX10_asksAs_5 ?_
  refine am_ic X (by decide) dX10_asksAs_6 ?_
  refine am_icmp_ne (tgt := 25) X dX10_asksAs_7 (by decide) (fun _ => ?_) (fun h => absurd h (by decide))
  refine am_iload_n (x := 2) X (by rfl) dX10_asksAs_25 ?_
  refine am_ic X (by decide) dX10_asksAs_26 ?_
  refine am_icmp_eq (tgt := 36) X dX10_asksAs_27 (by decide) (fun h => absurd h (by decide)) (fun _ => ?_)
  refine am_iload_n (x := 2) X (by rfl) dX10_asksAs_30 ?_
  refine am_bipush X (by decide) dX10_asksAs_31 ?_
  refine am_icmp_ne (tgt := 61) X dX10_asksAs_33 (by decide) (fun _ => ?_) (fun h => absurd h (by decide))
  refine am_aload_n (x := 63) X (by rfl) dX10_asksAs_61 ?_
  refine am_bipush X (by decide) dX10_asksAs_62 ?_
  refine am_callVv (ci := 9) X hY lk_X10_317 mf_X10_begins (m_X10_begins 11 σ (by omega)) (by decide) (by decide) (Nat.le_refl _) (Nat.le_refl _) sh_63 rfl rfl rfl (Nat.le_of_ble_eq_true rfl) dX10_asksAs_64 (fun sh64 σ64 hp64 => ?_)
  obtain ⟨rfl, rfl, hq64⟩ := hp64
  refine am_sg (mn [11] σ) rfl ?_
  refine am_iload_n (x := x) X (by rfl) dX10_asksAs_67 ?_
  refine am_aload_n (x := 63) X (by rfl) dX10_asksAs_68 ?_
  refine am_get (v := (ac : Int)) X 63 fl_X10_324 (by decide) sh_63 (by decide) ((mn_at [11] (by decide) (Or.inr (by decide))).trans hac) dX10_asksAs_69 ?_
  refine am_ixor X dX10_asksAs_72 ?_
  exact hret _ _ _ _ _ dX10_asksAs_73 rfl rfl (by subst_vars; exact ⟨rfl, rfl, rfl⟩)

set_option maxHeartbeats 4000000 in
set_option maxRecDepth 100000 in
theorem m_d5_2_5 (x : Int) (σ : am_H) (ac : Nat) (hac : σ 63 44 = (ac : Int)) (hK : σ 63 43 = 5) (hr : 0 ≤ σ 63 42 ∧ σ 63 42 ≤ 298) : am_Mi yX10_asksAs cX10_asksAs 4 (some .int) 2 0 0 [vr 63, vi 5, vi x] SH σ (fun r sh' σ' => SH = sh' ∧ (mn [40, 11] σ) = σ' ∧ r = (w32 ((am_xor x (ac : Int)) * 3))) := by
  refine am_Mi_of (by decide +kernel) (Nat.le_of_ble_eq_true rfl) (fun K X hY hI hret => ?_)
  show am_G K 0 [some (vr 63), some (vi 5), some (vi x), none] [] SH σ
  refine am_iload_n (x := 5) X (by rfl) dX10_asksAs_0 ?_
  refine am_ic X (by decide) dX10_asksAs_1 ?_
  refine am_icmp_eq (tgt := 10) X dX10_asksAs_2 (by decide) (fun h => absurd h (by decide)) (fun _ => ?_)
  refine am_iload_n (x := 5) X (by rfl) dX10_asksAs_5 ?_
  refine am_ic X (by decide) dX10_asksAs_6 ?_
  refine am_icmp_ne (tgt := 25) X dX10_asksAs_7 (by decide) (fun h => absurd h (by decide)) (fun _ => ?_)
  refine am_aload_n (x := 63) X (by rfl) dX10_asksAs_10 ?_
  refine am_bipush X (by decide) dX10_asksAs_11 ?_
  refine am_callVv (ci := 9) X hY lk_X10_317 mf_X10_begins (m_X10_begins 40 σ (by omega)) (by decide) (by decide) (Nat.le_refl _) (Nat.le_refl _) sh_63 rfl rfl rfl (Nat.le_of_ble_eq_true rfl) dX10_asksAs_13 (fun sh13 σ13 hp13 => ?_)
  obtain ⟨rfl, rfl, hq13⟩ := hp13
  refine am_sg (mn [40] σ) rfl ?_
  refine am_aload_n (x := 63) X (by rfl) dX10_asksAs_16 ?_
  refine am_ic X (by decide) dX10_asksAs_17 ?_
  refine am_iload_n (x := x) X (by rfl) dX10_asksAs_18 ?_
  refine am_callVi (ci := 9) X hY lk_X10_333 mf_X10_asksAs (m_d5_2_2 x (mn [40] σ) ac ((mn_at [40] (by decide) (Or.inr (by decide))).trans hac) ((mn_at [40] (by decide) (Or.inr (by decide))).trans hK) (by rw [mn_3]; show 0 ≤ σ 63 42 + 1 ∧ σ 63 42 + 1 ≤ _; omega)) (by decide) (by decide) (Nat.le_refl _) (Nat.le_refl _) sh_63 rfl rfl rfl (Nat.le_of_ble_eq_true rfl) dX10_asksAs_19 (fun r19 sh19 σ19 hr19 hp19 => ?_)
  obtain ⟨rfl, rfl, hq19⟩ := hp19
  refine am_sg (mn [40, 11] σ) (mn_app [40] [11] σ) ?_
  refine am_ic X (by decide) dX10_asksAs_22 ?_
  refine am_imul X dX10_asksAs_23 ?_
  exact hret _ _ _ _ _ dX10_asksAs_24 rfl rfl (by subst_vars; exact ⟨rfl, rfl, rfl⟩)

set_option maxHeartbeats 4000000 in
set_option maxRecDepth 100000 in
theorem m_d5_3_3 (x : Int) (σ : am_H) (ac : Nat) (hac : σ 63 44 = (ac : Int)) (hK : σ 63 43 = 5) (hr : 0 ≤ σ 63 42 ∧ σ 63 42 ≤ 293) : am_Mi yX10_tellsAs cX10_tellsAs 4 (some .int) 5 0 0 [vr 63, vi 3, vi x] SH σ (fun r sh' σ' => SH = sh' ∧ (mn [2, 41, 30, 10, 1, 40, 11] σ) = σ' ∧ r = (w32 ((w32 (-(w32 ((w32 ((w32 (x + 1)) + (ac : Int))) * 2)))) - (w32 ((am_xor 1 (ac : Int)) * 3))))) := by
  refine am_Mi_of (by decide +kernel) (Nat.le_of_ble_eq_true rfl) (fun K X hY hI hret => ?_)
  show am_G K 0 [some (vr 63), some (vi 3), some (vi x), none] [] SH σ
  refine am_iload_n (x := 3) X (by rfl) dX10_tellsAs_0 ?_
  refine am_ic X (by decide) dX10_tellsAs_1 ?_
  refine am_icmp_ne (tgt := 20) X dX10_tellsAs_2 (by decide) (fun _ => ?_) (fun h => absurd h (by decide))
  refine am_iload_n (x := 3) X (by rfl) dX10_tellsAs_20 ?_
  refine am_bipush X (by decide) dX10_tellsAs_21 ?_
  refine am_icmp_ne (tgt := 41) X dX10_tellsAs_23 (by decide) (fun _ => ?_) (fun h => absurd h (by decide))
  refine am_aload_n (x := 63) X (by rfl) dX10_tellsAs_41 ?_
  refine am_ic X (by decide) dX10_tellsAs_42 ?_
  refine am_callVv (ci := 9) X hY lk_X10_317 mf_X10_begins (m_X10_begins 2 σ (by omega)) (by decide) (by decide) (Nat.le_refl _) (Nat.le_refl _) sh_63 rfl rfl rfl (Nat.le_of_ble_eq_true rfl) dX10_tellsAs_43 (fun sh43 σ43 hp43 => ?_)
  obtain ⟨rfl, rfl, hq43⟩ := hp43
  refine am_sg (mn [2] σ) rfl ?_
  refine am_aload_n (x := 63) X (by rfl) dX10_tellsAs_46 ?_
  refine am_aload_n (x := 63) X (by rfl) dX10_tellsAs_47 ?_
  refine am_get (v := 5) X 63 fl_X10_330 (by decide) sh_63 (by decide) ((mn_at [2] (by decide) (Or.inr (by decide))).trans hK) dX10_tellsAs_48 ?_
  refine am_iload_n (x := x) X (by rfl) dX10_tellsAs_51 ?_
  refine am_callVi (ci := 9) X hY lk_X10_327 mf_X10_worksAs (m_d5_1_5 x (mn [2] σ) ac ((mn_at [2] (by decide) (Or.inr (by decide))).trans hac) ((mn_at [2] (by decide) (Or.inr (by decide))).trans hK) (by rw [mn_3]; show 0 ≤ σ 63 42 + 1 ∧ σ 63 42 + 1 ≤ _; omega)) (by decide) (by decide) (Nat.le_refl _) (Nat.le_refl _) sh_63 rfl rfl rfl (Nat.le_of_ble_eq_true rfl) dX10_tellsAs_52 (fun r52 sh52 σ52 hr52 hp52 => ?_)
  obtain ⟨rfl, rfl, hq52⟩ := hp52
  refine am_sg (mn [2, 41, 30, 10, 1] σ) (mn_app [2] [41, 30, 10, 1] σ) ?_
  refine am_istore_n (i := 3) (L' := [some (vr 63), some (vi 3), some (vi x), some (vi r52)]) X rfl (Nat.le_of_ble_eq_true rfl) (by rfl) dX10_tellsAs_55 ?_
  refine am_iload_n (x := r52) X (by rfl) dX10_tellsAs_56 ?_
  refine am_aload_n (x := 63) X (by rfl) dX10_tellsAs_57 ?_
  refine am_aload_n (x := 63) X (by rfl) dX10_tellsAs_58 ?_
  refine am_get (v := 5) X 63 fl_X10_330 (by decide) sh_63 (by decide) ((mn_at [2, 41, 30, 10, 1] (by decide) (Or.inr (by decide))).trans hK) dX10_tellsAs_59 ?_
  refine am_ic X (by decide) dX10_tellsAs_62 ?_
  refine am_callVi (ci := 9) X hY lk_X10_333 mf_X10_asksAs (m_d5_2_5 1 (mn [2, 41, 30, 10, 1] σ) ac ((mn_at [2, 41, 30, 10, 1] (by decide) (Or.inr (by decide))).trans hac) ((mn_at [2, 41, 30, 10, 1] (by decide) (Or.inr (by decide))).trans hK) (by rw [mn_3]; show 0 ≤ σ 63 42 + 5 ∧ σ 63 42 + 5 ≤ _; omega)) (by decide) (by decide) (Nat.le_refl _) (Nat.le_refl _) sh_63 rfl rfl rfl (Nat.le_of_ble_eq_true rfl) dX10_tellsAs_63 (fun r63 sh63 σ63 hr63 hp63 => ?_)
  obtain ⟨rfl, rfl, hq63⟩ := hp63
  refine am_sg (mn [2, 41, 30, 10, 1, 40, 11] σ) (mn_app [2, 41, 30, 10, 1] [40, 11] σ) ?_
  refine am_isub X dX10_tellsAs_66 ?_
  exact hret _ _ _ _ _ dX10_tellsAs_67 rfl rfl (by subst_vars; exact ⟨rfl, rfl, rfl⟩)

set_option maxHeartbeats 4000000 in
set_option maxRecDepth 100000 in
theorem m_d5_3_5 (x : Int) (σ : am_H) (ac : Nat) (hac : σ 63 44 = (ac : Int)) (hK : σ 63 43 = 5) (hr : 0 ≤ σ 63 42 ∧ σ 63 42 ≤ 292) : am_Mi yX10_tellsAs cX10_tellsAs 4 (some .int) 6 0 0 [vr 63, vi 5, vi x] SH σ (fun r sh' σ' => SH = sh' ∧ (mn [60, 2, 41, 30, 10, 1, 40, 11] σ) = σ' ∧ r = (am_xor (w32 ((w32 (-(w32 ((w32 ((w32 (x + 1)) + (ac : Int))) * 2)))) - (w32 ((am_xor 1 (ac : Int)) * 3)))) 5)) := by
  refine am_Mi_of (by decide +kernel) (Nat.le_of_ble_eq_true rfl) (fun K X hY hI hret => ?_)
  show am_G K 0 [some (vr 63), some (vi 5), some (vi x), none] [] SH σ
  refine am_iload_n (x := 5) X (by rfl) dX10_tellsAs_0 ?_
  refine am_ic X (by decide) dX10_tellsAs_1 ?_
  refine am_icmp_ne (tgt := 20) X dX10_tellsAs_2 (by decide) (fun h => absurd h (by decide)) (fun _ => ?_)
  refine am_aload_n (x := 63) X (by rfl) dX10_tellsAs_5 ?_
  refine am_bipush X (by decide) dX10_tellsAs_6 ?_
  refine am_callVv (ci := 9) X hY lk_X10_317 mf_X10_begins (m_X10_begins 60 σ (by omega)) (by decide) (by decide) (Nat.le_refl _) (Nat.le_refl _) sh_63 rfl rfl rfl (Nat.le_of_ble_eq_true rfl) dX10_tellsAs_8 (fun sh8 σ8 hp8 => ?_)
  obtain ⟨rfl, rfl, hq8⟩ := hp8
  refine am_sg (mn [60] σ) rfl ?_
  refine am_aload_n (x := 63) X (by rfl) dX10_tellsAs_11 ?_
  refine am_ic X (by decide) dX10_tellsAs_12 ?_
  refine am_iload_n (x := x) X (by rfl) dX10_tellsAs_13 ?_
  refine am_callVi (ci := 9) X hY lk_X10_336 mf_X10_tellsAs (m_d5_3_3 x (mn [60] σ) ac ((mn_at [60] (by decide) (Or.inr (by decide))).trans hac) ((mn_at [60] (by decide) (Or.inr (by decide))).trans hK) (by rw [mn_3]; show 0 ≤ σ 63 42 + 1 ∧ σ 63 42 + 1 ≤ _; omega)) (by decide) (by decide) (Nat.le_refl _) (Nat.le_refl _) sh_63 rfl rfl rfl (Nat.le_of_ble_eq_true rfl) dX10_tellsAs_14 (fun r14 sh14 σ14 hr14 hp14 => ?_)
  obtain ⟨rfl, rfl, hq14⟩ := hp14
  refine am_sg (mn [60, 2, 41, 30, 10, 1, 40, 11] σ) (mn_app [60] [2, 41, 30, 10, 1, 40, 11] σ) ?_
  refine am_ic X (by decide) dX10_tellsAs_17 ?_
  refine am_ixor X dX10_tellsAs_18 ?_
  exact hret _ _ _ _ _ dX10_tellsAs_19 rfl rfl (by subst_vars; exact ⟨rfl, rfl, rfl⟩)

set_option maxHeartbeats 4000000 in
set_option maxRecDepth 100000 in
theorem m_d6_0_0 (x : Int) (σ : am_H) (ac : Nat) (hac : σ 63 44 = (ac : Int)) (hK : σ 63 43 = 6) (hr : 0 ≤ σ 63 42 ∧ σ 63 42 ≤ 299) : am_Mi yX10_owesAs cX10_owesAs 3 (some .int) 1 0 0 [vr 63, vi 0, vi x] SH σ (fun r sh' σ' => SH = sh' ∧ (mn [1] σ) = σ' ∧ r = (w32 (x + (ac : Int)))) := by
  refine am_Mi_of (by decide +kernel) (Nat.le_of_ble_eq_true rfl) (fun K X hY hI hret => ?_)
  show am_G K 0 [some (vr 63), some (vi 0), some (vi x)] [] SH σ
  refine am_iload_n (x := 0) X (by rfl) dX10_owesAs_0 ?_
  refine am_ic X (by decide) dX10_owesAs_1 ?_
  refine am_icmp_eq (tgt := 16) X dX10_owesAs_2 (by decide) (fun h => absurd h (by decide)) (fun _ => ?_)
  refine am_iload_n (x := 0) X (by rfl) dX10_owesAs_5 ?_
  refine am_ic X (by decide) dX10_owesAs_6 ?_
  refine am_icmp_eq (tgt := 16) X dX10_owesAs_7 (by decide) (fun h => absurd h (by decide)) (fun _ => ?_)
  refine am_iload_n (x := 0) X (by rfl) dX10_owesAs_10 ?_
  refine am_bipush X (by decide) dX10_owesAs_11 ?_
  refine am_icmp_ne (tgt := 31) X dX10_owesAs_13 (by decide) (fun _ => ?_) (fun h => absurd h (by decide))
  refine am_iload_n (x := 0) X (by rfl) dX10_owesAs_31 ?_
  refine am_bipush X (by decide) dX10_owesAs_32 ?_
  refine am_icmp_ne (tgt := 52) X dX10_owesAs_34 (by decide) (fun _ => ?_) (fun h => absurd h (by decide))
  refine am_aload_n (x := 63) X (by rfl) dX10_owesAs_52 ?_
  refine am_ic X (by decide) dX10_owesAs_53 ?_
  refine am_callVv (ci := 9) X hY lk_X10_317 mf_X10_begins (m_X10_begins 1 σ (by omega)) (by decide) (by decide) (Nat.le_refl _) (Nat.le_refl _) sh_63 rfl rfl rfl (Nat.le_of_ble_eq_true rfl) dX10_owesAs_54 (fun sh54 σ54 hp54 => ?_)
  obtain ⟨rfl, rfl, hq54⟩ := hp54
  refine am_sg (mn [1] σ) rfl ?_
  refine am_iload_n (x := x) X (by rfl) dX10_owesAs_57 ?_
  refine am_aload_n (x := 63) X (by rfl) dX10_owesAs_58 ?_
  refine am_get (v := (ac : Int)) X 63 fl_X10_324 (by decide) sh_63 (by decide) ((mn_at [1] (by decide) (Or.inr (by decide))).trans hac) dX10_owesAs_59 ?_
  refine am_iadd X dX10_owesAs_62 ?_
  exact hret _ _ _ _ _ dX10_owesAs_63 rfl rfl (by subst_vars; exact ⟨rfl, rfl, rfl⟩)

set_option maxHeartbeats 4000000 in
set_option maxRecDepth 100000 in
theorem m_d6_0_6 (x : Int) (σ : am_H) (ac : Nat) (hac : σ 63 44 = (ac : Int)) (hK : σ 63 43 = 6) (hr : 0 ≤ σ 63 42 ∧ σ 63 42 ≤ 298) : am_Mi yX10_owesAs cX10_owesAs 3 (some .int) 2 0 0 [vr 63, vi 6, vi x] SH σ (fun r sh' σ' => SH = sh' ∧ (mn [70, 1] σ) = σ' ∧ r = (w32 ((w32 (x + (ac : Int))) * 2))) := by
  refine am_Mi_of (by decide +kernel) (Nat.le_of_ble_eq_true rfl) (fun K X hY hI hret => ?_)
  show am_G K 0 [some (vr 63), some (vi 6), some (vi x)] [] SH σ
  refine am_iload_n (x := 6) X (by rfl) dX10_owesAs_0 ?_
  refine am_ic X (by decide) dX10_owesAs_1 ?_
  refine am_icmp_eq (tgt := 16) X dX10_owesAs_2 (by decide) (fun h => absurd h (by decide)) (fun _ => ?_)
  refine am_iload_n (x := 6) X (by rfl) dX10_owesAs_5 ?_
  refine am_ic X (by decide) dX10_owesAs_6 ?_
  refine am_icmp_eq (tgt := 16) X dX10_owesAs_7 (by decide) (fun h => absurd h (by decide)) (fun _ => ?_)
  refine am_iload_n (x := 6) X (by rfl) dX10_owesAs_10 ?_
  refine am_bipush X (by decide) dX10_owesAs_11 ?_
  refine am_icmp_ne (tgt := 31) X dX10_owesAs_13 (by decide) (fun _ => ?_) (fun h => absurd h (by decide))
  refine am_iload_n (x := 6) X (by rfl) dX10_owesAs_31 ?_
  refine am_bipush X (by decide) dX10_owesAs_32 ?_
  refine am_icmp_ne (tgt := 52) X dX10_owesAs_34 (by decide) (fun h => absurd h (by decide)) (fun _ => ?_)
  refine am_aload_n (x := 63) X (by rfl) dX10_owesAs_37 ?_
  refine am_bipush X (by decide) dX10_owesAs_38 ?_
  refine am_callVv (ci := 9) X hY lk_X10_317 mf_X10_begins (m_X10_begins 70 σ (by omega)) (by decide) (by decide) (Nat.le_refl _) (Nat.le_refl _) sh_63 rfl rfl rfl (Nat.le_of_ble_eq_true rfl) dX10_owesAs_40 (fun sh40 σ40 hp40 => ?_)
  obtain ⟨rfl, rfl, hq40⟩ := hp40
  refine am_sg (mn [70] σ) rfl ?_
  refine am_aload_n (x := 63) X (by rfl) dX10_owesAs_43 ?_
  refine am_ic X (by decide) dX10_owesAs_44 ?_
  refine am_iload_n (x := x) X (by rfl) dX10_owesAs_45 ?_
  refine am_callVi (ci := 9) X hY lk_X10_321 mf_X10_owesAs (m_d6_0_0 x (mn [70] σ) ac ((mn_at [70] (by decide) (Or.inr (by decide))).trans hac) ((mn_at [70] (by decide) (Or.inr (by decide))).trans hK) (by rw [mn_3]; show 0 ≤ σ 63 42 + 1 ∧ σ 63 42 + 1 ≤ _; omega)) (by decide) (by decide) (Nat.le_refl _) (Nat.le_refl _) sh_63 rfl rfl rfl (Nat.le_of_ble_eq_true rfl) dX10_owesAs_46 (fun r46 sh46 σ46 hr46 hp46 => ?_)
  obtain ⟨rfl, rfl, hq46⟩ := hp46
  refine am_sg (mn [70, 1] σ) (mn_app [70] [1] σ) ?_
  refine am_ic X (by decide) dX10_owesAs_49 ?_
  refine am_imul X dX10_owesAs_50 ?_
  exact hret _ _ _ _ _ dX10_owesAs_51 rfl rfl (by subst_vars; exact ⟨rfl, rfl, rfl⟩)

set_option maxHeartbeats 4000000 in
set_option maxRecDepth 100000 in
theorem m_d6_1_6 (x : Int) (σ : am_H) (ac : Nat) (hac : σ 63 44 = (ac : Int)) (hK : σ 63 43 = 6) (hr : 0 ≤ σ 63 42 ∧ σ 63 42 ≤ 297) : am_Mi yX10_worksAs cX10_worksAs 4 (some .int) 3 0 0 [vr 63, vi 6, vi x] SH σ (fun r sh' σ' => SH = sh' ∧ (mn [10, 70, 1] σ) = σ' ∧ r = (w32 ((w32 ((w32 (x + (ac : Int))) * 2)) * 2))) := by
  refine am_Mi_of (by decide +kernel) (Nat.le_of_ble_eq_true rfl) (fun K X hY hI hret => ?_)
  show am_G K 0 [some (vr 63), some (vi 6), some (vi x), none] [] SH σ
  refine am_iload_n (x := 6) X (by rfl) dX10_worksAs_0 ?_
  refine am_ic X (by decide) dX10_worksAs_1 ?_
  refine am_icmp_eq (tgt := 10) X dX10_worksAs_2 (by decide) (fun h => absurd h (by decide)) (fun _ => ?_)
  refine am_iload_n (x := 6) X (by rfl) dX10_worksAs_5 ?_
  refine am_ic X (by decide) dX10_worksAs_6 ?_
  refine am_icmp_ne (tgt := 25) X dX10_worksAs_7 (by decide) (fun _ => ?_) (fun h => absurd h (by decide))
  refine am_iload_n (x := 6) X (by rfl) dX10_worksAs_25 ?_
  refine am_ic X (by decide) dX10_worksAs_26 ?_
  refine am_icmp_ne (tgt := 44) X dX10_worksAs_27 (by decide) (fun _ => ?_) (fun h => absurd h (by decide))
  refine am_iload_n (x := 6) X (by rfl) dX10_worksAs_44 ?_
  refine am_bipush X (by decide) dX10_worksAs_45 ?_
  refine am_icmp_ne (tgt := 75) X dX10_worksAs_47 (by decide) (fun _ => ?_) (fun h => absurd h (by decide))
  refine am_aload_n (x := 63) X (by rfl) dX10_worksAs_75 ?_
  refine am_bipush X (by decide) dX10_worksAs_76 ?_
  refine am_callVv (ci := 9) X hY lk_X10_317 mf_X10_begins (m_X10_begins 10 σ (by omega)) (by decide) (by decide) (Nat.le_refl _) (Nat.le_refl _) sh_63 rfl rfl rfl (Nat.le_of_ble_eq_true rfl) dX10_worksAs_78 (fun sh78 σ78 hp78 => ?_)
  obtain ⟨rfl, rfl, hq78⟩ := hp78
  refine am_sg (mn [10] σ) rfl ?_
  refine am_aload_n (x := 63) X (by rfl) dX10_worksAs_81 ?_
  refine am_aload_n (x := 63) X (by rfl) dX10_worksAs_82 ?_
  refine am_get (v := 6) X 63 fl_X10_330 (by decide) sh_63 (by decide) ((mn_at [10] (by decide) (Or.inr (by decide))).trans hK) dX10_worksAs_83 ?_
  refine am_iload_n (x := x) X (by rfl) dX10_worksAs_86 ?_
  refine am_callVi (ci := 9) X hY lk_X10_321 mf_X10_owesAs (m_d6_0_6 x (mn [10] σ) ac ((mn_at [10] (by decide) (Or.inr (by decide))).trans hac) ((mn_at [10] (by decide) (Or.inr (by decide))).trans hK) (by rw [mn_3]; show 0 ≤ σ 63 42 + 1 ∧ σ 63 42 + 1 ≤ _; omega)) (by decide) (by decide) (Nat.le_refl _) (Nat.le_refl _) sh_63 rfl rfl rfl (Nat.le_of_ble_eq_true rfl) dX10_worksAs_87 (fun r87 sh87 σ87 hr87 hp87 => ?_)
  obtain ⟨rfl, rfl, hq87⟩ := hp87
  refine am_sg (mn [10, 70, 1] σ) (mn_app [10] [70, 1] σ) ?_
  refine am_ic X (by decide) dX10_worksAs_90 ?_
  refine am_imul X dX10_worksAs_91 ?_
  exact hret _ _ _ _ _ dX10_worksAs_92 rfl rfl (by subst_vars; exact ⟨rfl, rfl, rfl⟩)

set_option maxHeartbeats 4000000 in
set_option maxRecDepth 100000 in
theorem m_d6_2_6 (x : Int) (σ : am_H) (ac : Nat) (hac : σ 63 44 = (ac : Int)) (hK : σ 63 43 = 6) (hr : 0 ≤ σ 63 42 ∧ σ 63 42 ≤ 299) : am_Mi yX10_asksAs cX10_asksAs 4 (some .int) 1 0 0 [vr 63, vi 6, vi x] SH σ (fun r sh' σ' => SH = sh' ∧ (mn [11] σ) = σ' ∧ r = (am_xor x (ac : Int))) := by
  refine am_Mi_of (by decide +kernel) (Nat.le_of_ble_eq_true rfl) (fun K X hY hI hret => ?_)
  show am_G K 0 [some (vr 63), some (vi 6), some (vi x), none] [] SH σ
  refine am_iload_n (x := 6) X (by rfl) dX10_asksAs_0 ?_
  refine am_ic X (by decide) dX10_asksAs_1 ?_
  refine am_icmp_eq (tgt := 10) X dX10_asksAs_2 (by decide) (fun h => absurd h (by decide)) (fun _ => ?_)
  refine am_iload_n (x := 6) X (by rfl) dX10_asksAs_5 ?_
  refine am_ic X (by decide) dX10_asksAs_6 ?_
  refine am_icmp_ne (tgt := 25) X dX10_asksAs_7 (by decide) (fun _ => ?_) (fun h => absurd h (by decide))
  refine am_iload_n (x := 6) X (by rfl) dX10_asksAs_25 ?_
  refine am_ic X (by decide) dX10_asksAs_26 ?_
  refine am_icmp_eq (tgt := 36) X dX10_asksAs_27 (by decide) (fun h => absurd h (by decide)) (fun _ => ?_)
  refine am_iload_n (x := 6) X (by rfl) dX10_asksAs_30 ?_
  refine am_bipush X (by decide) dX10_asksAs_31 ?_
  refine am_icmp_ne (tgt := 61) X dX10_asksAs_33 (by decide) (fun _ => ?_) (fun h => absurd h (by decide))
  refine am_aload_n (x := 63) X (by rfl) dX10_asksAs_61 ?_
  refine am_bipush X (by decide) dX10_asksAs_62 ?_
  refine am_callVv (ci := 9) X hY lk_X10_317 mf_X10_begins (m_X10_begins 11 σ (by omega)) (by decide) (by decide) (Nat.le_refl _) (Nat.le_refl _) sh_63 rfl rfl rfl (Nat.le_of_ble_eq_true rfl) dX10_asksAs_64 (fun sh64 σ64 hp64 => ?_)
  obtain ⟨rfl, rfl, hq64⟩ := hp64
  refine am_sg (mn [11] σ) rfl ?_
  refine am_iload_n (x := x) X (by rfl) dX10_asksAs_67 ?_
  refine am_aload_n (x := 63) X (by rfl) dX10_asksAs_68 ?_
  refine am_get (v := (ac : Int)) X 63 fl_X10_324 (by decide) sh_63 (by decide) ((mn_at [11] (by decide) (Or.inr (by decide))).trans hac) dX10_asksAs_69 ?_
  refine am_ixor X dX10_asksAs_72 ?_
  exact hret _ _ _ _ _ dX10_asksAs_73 rfl rfl (by subst_vars; exact ⟨rfl, rfl, rfl⟩)

set_option maxHeartbeats 4000000 in
set_option maxRecDepth 100000 in
theorem m_d6_3_6 (x : Int) (σ : am_H) (ac : Nat) (hac : σ 63 44 = (ac : Int)) (hK : σ 63 43 = 6) (hr : 0 ≤ σ 63 42 ∧ σ 63 42 ≤ 295) : am_Mi yX10_tellsAs cX10_tellsAs 4 (some .int) 4 0 0 [vr 63, vi 6, vi x] SH σ (fun r sh' σ' => SH = sh' ∧ (mn [2, 10, 70, 1, 11] σ) = σ' ∧ r = (w32 ((w32 ((w32 ((w32 (x + (ac : Int))) * 2)) * 2)) - (am_xor 1 (ac : Int))))) := by
  refine am_Mi_of (by decide +kernel) (Nat.le_of_ble_eq_true rfl) (fun K X hY hI hret => ?_)
  show am_G K 0 [some (vr 63), some (vi 6), some (vi x), none] [] SH σ
  refine am_iload_n (x := 6) X (by rfl) dX10_tellsAs_0 ?_
  refine am_ic X (by decide) dX10_tellsAs_1 ?_
  refine am_icmp_ne (tgt := 20) X dX10_tellsAs_2 (by decide) (fun _ => ?_) (fun h => absurd h (by decide))
  refine am_iload_n (x := 6) X (by rfl) dX10_tellsAs_20 ?_
  refine am_bipush X (by decide) dX10_tellsAs_21 ?_
  refine am_icmp_ne (tgt := 41) X dX10_tellsAs_23 (by decide) (fun _ => ?_) (fun h => absurd h (by decide))
  refine am_aload_n (x := 63) X (by rfl) dX10_tellsAs_41 ?_
  refine am_ic X (by decide) dX10_tellsAs_42 ?_
  refine am_callVv (ci := 9) X hY lk_X10_317 mf_X10_begins (m_X10_begins 2 σ (by omega)) (by decide) (by decide) (Nat.le_refl _) (Nat.le_refl _) sh_63 rfl rfl rfl (Nat.le_of_ble_eq_true rfl) dX10_tellsAs_43 (fun sh43 σ43 hp43 => ?_)
  obtain ⟨rfl, rfl, hq43⟩ := hp43
  refine am_sg (mn [2] σ) rfl ?_
  refine am_aload_n (x := 63) X (by rfl) dX10_tellsAs_46 ?_
  refine am_aload_n (x := 63) X (by rfl) dX10_tellsAs_47 ?_
  refine am_get (v := 6) X 63 fl_X10_330 (by decide) sh_63 (by decide) ((mn_at [2] (by decide) (Or.inr (by decide))).trans hK) dX10_tellsAs_48 ?_
  refine am_iload_n (x := x) X (by rfl) dX10_tellsAs_51 ?_
  refine am_callVi (ci := 9) X hY lk_X10_327 mf_X10_worksAs (m_d6_1_6 x (mn [2] σ) ac ((mn_at [2] (by decide) (Or.inr (by decide))).trans hac) ((mn_at [2] (by decide) (Or.inr (by decide))).trans hK) (by rw [mn_3]; show 0 ≤ σ 63 42 + 1 ∧ σ 63 42 + 1 ≤ _; omega)) (by decide) (by decide) (Nat.le_refl _) (Nat.le_refl _) sh_63 rfl rfl rfl (Nat.le_of_ble_eq_true rfl) dX10_tellsAs_52 (fun r52 sh52 σ52 hr52 hp52 => ?_)
  obtain ⟨rfl, rfl, hq52⟩ := hp52
  refine am_sg (mn [2, 10, 70, 1] σ) (mn_app [2] [10, 70, 1] σ) ?_
  refine am_istore_n (i := 3) (L' := [some (vr 63), some (vi 6), some (vi x), some (vi r52)]) X rfl (Nat.le_of_ble_eq_true rfl) (by rfl) dX10_tellsAs_55 ?_
  refine am_iload_n (x := r52) X (by rfl) dX10_tellsAs_56 ?_
  refine am_aload_n (x := 63) X (by rfl) dX10_tellsAs_57 ?_
  refine am_aload_n (x := 63) X (by rfl) dX10_tellsAs_58 ?_
  refine am_get (v := 6) X 63 fl_X10_330 (by decide) sh_63 (by decide) ((mn_at [2, 10, 70, 1] (by decide) (Or.inr (by decide))).trans hK) dX10_tellsAs_59 ?_
  refine am_ic X (by decide) dX10_tellsAs_62 ?_
  refine am_callVi (ci := 9) X hY lk_X10_333 mf_X10_asksAs (m_d6_2_6 1 (mn [2, 10, 70, 1] σ) ac ((mn_at [2, 10, 70, 1] (by decide) (Or.inr (by decide))).trans hac) ((mn_at [2, 10, 70, 1] (by decide) (Or.inr (by decide))).trans hK) (by rw [mn_3]; show 0 ≤ σ 63 42 + 4 ∧ σ 63 42 + 4 ≤ _; omega)) (by decide) (by decide) (Nat.le_refl _) (Nat.le_refl _) sh_63 rfl rfl rfl (Nat.le_of_ble_eq_true rfl) dX10_tellsAs_63 (fun r63 sh63 σ63 hr63 hp63 => ?_)
  obtain ⟨rfl, rfl, hq63⟩ := hp63
  refine am_sg (mn [2, 10, 70, 1, 11] σ) (mn_app [2, 10, 70, 1] [11] σ) ?_
  refine am_isub X dX10_tellsAs_66 ?_
  exact hret _ _ _ _ _ dX10_tellsAs_67 rfl rfl (by subst_vars; exact ⟨rfl, rfl, rfl⟩)

set_option maxHeartbeats 4000000 in
set_option maxRecDepth 100000 in
theorem m_d7_0_0 (x : Int) (σ : am_H) (ac : Nat) (hac : σ 63 44 = (ac : Int)) (hK : σ 63 43 = 7) (hr : 0 ≤ σ 63 42 ∧ σ 63 42 ≤ 299) : am_Mi yX10_owesAs cX10_owesAs 3 (some .int) 1 0 0 [vr 63, vi 0, vi x] SH σ (fun r sh' σ' => SH = sh' ∧ (mn [1] σ) = σ' ∧ r = (w32 (x + (ac : Int)))) := by
  refine am_Mi_of (by decide +kernel) (Nat.le_of_ble_eq_true rfl) (fun K X hY hI hret => ?_)
  show am_G K 0 [some (vr 63), some (vi 0), some (vi x)] [] SH σ
  refine am_iload_n (x := 0) X (by rfl) dX10_owesAs_0 ?_
  refine am_ic X (by decide) dX10_owesAs_1 ?_
  refine am_icmp_eq (tgt := 16) X dX10_owesAs_2 (by decide) (fun h => absurd h (by decide)) (fun _ => ?_)
  refine am_iload_n (x := 0) X (by rfl) dX10_owesAs_5 ?_
  refine am_ic X (by decide) dX10_owesAs_6 ?_
  refine am_icmp_eq (tgt := 16) X dX10_owesAs_7 (by decide) (fun h => absurd h (by decide)) (fun _ => ?_)
  refine am_iload_n (x := 0) X (by rfl) dX10_owesAs_10 ?_
  refine am_bipush X (by decide) dX10_owesAs_11 ?_
  refine am_icmp_ne (tgt := 31) X dX10_owesAs_13 (by decide) (fun _ => ?_) (fun h => absurd h (by decide))
  refine am_iload_n (x := 0) X (by rfl) dX10_owesAs_31 ?_
  refine am_bipush X (by decide) dX10_owesAs_32 ?_
  refine am_icmp_ne (tgt := 52) X dX10_owesAs_34 (by decide) (fun _ => ?_) (fun h => absurd h (by decide))
  refine am_aload_n (x := 63) X (by rfl) dX10_owesAs_52 ?_
  refine am_ic X (by decide) dX10_owesAs_53 ?_
  refine am_callVv (ci := 9) X hY lk_X10_317 mf_X10_begins (m_X10_begins 1 σ (by omega)) (by decide) (by decide) (Nat.le_refl _) (Nat.le_refl _) sh_63 rfl rfl rfl (Nat.le_of_ble_eq_true rfl) dX10_owesAs_54 (fun sh54 σ54 hp54 => ?_)
  obtain ⟨rfl, rfl, hq54⟩ := hp54
  refine am_sg (mn [1] σ) rfl ?_
  refine am_iload_n (x := x) X (by rfl) dX10_owesAs_57 ?_
  refine am_aload_n (x := 63) X (by rfl) dX10_owesAs_58 ?_
  refine am_get (v := (ac : Int)) X 63 fl_X10_324 (by decide) sh_63 (by decide) ((mn_at [1] (by decide) (Or.inr (by decide))).trans hac) dX10_owesAs_59 ?_
  refine am_iadd X dX10_owesAs_62 ?_
  exact hret _ _ _ _ _ dX10_owesAs_63 rfl rfl (by subst_vars; exact ⟨rfl, rfl, rfl⟩)

set_option maxHeartbeats 4000000 in
set_option maxRecDepth 100000 in
theorem m_d7_0_7 (x : Int) (σ : am_H) (ac : Nat) (hac : σ 63 44 = (ac : Int)) (hK : σ 63 43 = 7) (hr : 0 ≤ σ 63 42 ∧ σ 63 42 ≤ 298) : am_Mi yX10_owesAs cX10_owesAs 3 (some .int) 2 0 0 [vr 63, vi 7, vi x] SH σ (fun r sh' σ' => SH = sh' ∧ (mn [20, 1] σ) = σ' ∧ r = (w32 ((w32 (x + (ac : Int))) + 3))) := by
  refine am_Mi_of (by decide +kernel) (Nat.le_of_ble_eq_true rfl) (fun K X hY hI hret => ?_)
  show am_G K 0 [some (vr 63), some (vi 7), some (vi x)] [] SH σ
  refine am_iload_n (x := 7) X (by rfl) dX10_owesAs_0 ?_
  refine am_ic X (by decide) dX10_owesAs_1 ?_
  refine am_icmp_eq (tgt := 16) X dX10_owesAs_2 (by decide) (fun h => absurd h (by decide)) (fun _ => ?_)
  refine am_iload_n (x := 7) X (by rfl) dX10_owesAs_5 ?_
  refine am_ic X (by decide) dX10_owesAs_6 ?_
  refine am_icmp_eq (tgt := 16) X dX10_owesAs_7 (by decide) (fun h => absurd h (by decide)) (fun _ => ?_)
  refine am_iload_n (x := 7) X (by rfl) dX10_owesAs_10 ?_
  refine am_bipush X (by decide) dX10_owesAs_11 ?_
  refine am_icmp_ne (tgt := 31) X dX10_owesAs_13 (by decide) (fun h => absurd h (by decide)) (fun _ => ?_)
  refine am_aload_n (x := 63) X (by rfl) dX10_owesAs_16 ?_
  refine am_bipush X (by decide) dX10_owesAs_17 ?_
  refine am_callVv (ci := 9) X hY lk_X10_317 mf_X10_begins (m_X10_begins 20 σ (by omega)) (by decide) (by decide) (Nat.le_refl _) (Nat.le_refl _) sh_63 rfl rfl rfl (Nat.le_of_ble_eq_true rfl) dX10_owesAs_19 (fun sh19 σ19 hp19 => ?_)
  obtain ⟨rfl, rfl, hq19⟩ := hp19
  refine am_sg (mn [20] σ) rfl ?_
  refine am_aload_n (x := 63) X (by rfl) dX10_owesAs_22 ?_
  refine am_ic X (by decide) dX10_owesAs_23 ?_
  refine am_iload_n (x := x) X (by rfl) dX10_owesAs_24 ?_
  refine am_callVi (ci := 9) X hY lk_X10_321 mf_X10_owesAs (m_d7_0_0 x (mn [20] σ) ac ((mn_at [20] (by decide) (Or.inr (by decide))).trans hac) ((mn_at [20] (by decide) (Or.inr (by decide))).trans hK) (by rw [mn_3]; show 0 ≤ σ 63 42 + 1 ∧ σ 63 42 + 1 ≤ _; omega)) (by decide) (by decide) (Nat.le_refl _) (Nat.le_refl _) sh_63 rfl rfl rfl (Nat.le_of_ble_eq_true rfl) dX10_owesAs_25 (fun r25 sh25 σ25 hr25 hp25 => ?_)
  obtain ⟨rfl, rfl, hq25⟩ := hp25
  refine am_sg (mn [20, 1] σ) (mn_app [20] [1] σ) ?_
  refine am_ic X (by decide) dX10_owesAs_28 ?_
  refine am_iadd X dX10_owesAs_29 ?_
  exact hret _ _ _ _ _ dX10_owesAs_30 rfl rfl (by subst_vars; exact ⟨rfl, rfl, rfl⟩)

set_option maxHeartbeats 4000000 in
set_option maxRecDepth 100000 in
theorem m_d7_1_4 (x : Int) (σ : am_H) (ac : Nat) (hac : σ 63 44 = (ac : Int)) (hK : σ 63 43 = 7) (hr : 0 ≤ σ 63 42 ∧ σ 63 42 ≤ 297) : am_Mi yX10_worksAs cX10_worksAs 4 (some .int) 3 0 0 [vr 63, vi 4, vi x] SH σ (fun r sh' σ' => SH = sh' ∧ (mn [10, 20, 1] σ) = σ' ∧ r = (w32 ((w32 ((w32 (x + (ac : Int))) + 3)) * 2))) := by
  refine am_Mi_of (by decide +kernel) (Nat.le_of_ble_eq_true rfl) (fun K X hY hI hret => ?_)
  show am_G K 0 [some (vr 63), some (vi 4), some (vi x), none] [] SH σ
  refine am_iload_n (x := 4) X (by rfl) dX10_worksAs_0 ?_
  refine am_ic X (by decide) dX10_worksAs_1 ?_
  refine am_icmp_eq (tgt := 10) X dX10_worksAs_2 (by decide) (fun h => absurd h (by decide)) (fun _ => ?_)
  refine am_iload_n (x := 4) X (by rfl) dX10_worksAs_5 ?_
  refine am_ic X (by decide) dX10_worksAs_6 ?_
  refine am_icmp_ne (tgt := 25) X dX10_worksAs_7 (by decide) (fun _ => ?_) (fun h => absurd h (by decide))
  refine am_iload_n (x := 4) X (by rfl) dX10_worksAs_25 ?_
  refine am_ic X (by decide) dX10_worksAs_26 ?_
  refine am_icmp_ne (tgt := 44) X dX10_worksAs_27 (by decide) (fun _ => ?_) (fun h => absurd h (by decide))
  refine am_iload_n (x := 4) X (by rfl) dX10_worksAs_44 ?_
  refine am_bipush X (by decide) dX10_worksAs_45 ?_
  refine am_icmp_ne (tgt := 75) X dX10_worksAs_47 (by decide) (fun _ => ?_) (fun h => absurd h (by decide))
  refine am_aload_n (x := 63) X (by rfl) dX10_worksAs_75 ?_
  refine am_bipush X (by decide) dX10_worksAs_76 ?_
  refine am_callVv (ci := 9) X hY lk_X10_317 mf_X10_begins (m_X10_begins 10 σ (by omega)) (by decide) (by decide) (Nat.le_refl _) (Nat.le_refl _) sh_63 rfl rfl rfl (Nat.le_of_ble_eq_true rfl) dX10_worksAs_78 (fun sh78 σ78 hp78 => ?_)
  obtain ⟨rfl, rfl, hq78⟩ := hp78
  refine am_sg (mn [10] σ) rfl ?_
  refine am_aload_n (x := 63) X (by rfl) dX10_worksAs_81 ?_
  refine am_aload_n (x := 63) X (by rfl) dX10_worksAs_82 ?_
  refine am_get (v := 7) X 63 fl_X10_330 (by decide) sh_63 (by decide) ((mn_at [10] (by decide) (Or.inr (by decide))).trans hK) dX10_worksAs_83 ?_
  refine am_iload_n (x := x) X (by rfl) dX10_worksAs_86 ?_
  refine am_callVi (ci := 9) X hY lk_X10_321 mf_X10_owesAs (m_d7_0_7 x (mn [10] σ) ac ((mn_at [10] (by decide) (Or.inr (by decide))).trans hac) ((mn_at [10] (by decide) (Or.inr (by decide))).trans hK) (by rw [mn_3]; show 0 ≤ σ 63 42 + 1 ∧ σ 63 42 + 1 ≤ _; omega)) (by decide) (by decide) (Nat.le_refl _) (Nat.le_refl _) sh_63 rfl rfl rfl (Nat.le_of_ble_eq_true rfl) dX10_worksAs_87 (fun r87 sh87 σ87 hr87 hp87 => ?_)
  obtain ⟨rfl, rfl, hq87⟩ := hp87
  refine am_sg (mn [10, 20, 1] σ) (mn_app [10] [20, 1] σ) ?_
  refine am_ic X (by decide) dX10_worksAs_90 ?_
  refine am_imul X dX10_worksAs_91 ?_
  exact hret _ _ _ _ _ dX10_worksAs_92 rfl rfl (by subst_vars; exact ⟨rfl, rfl, rfl⟩)

set_option maxHeartbeats 4000000 in
set_option maxRecDepth 100000 in
theorem m_d7_2_1 (x : Int) (σ : am_H) (ac : Nat) (hac : σ 63 44 = (ac : Int)) (hK : σ 63 43 = 7) (hr : 0 ≤ σ 63 42 ∧ σ 63 42 ≤ 299) : am_Mi yX10_asksAs cX10_asksAs 4 (some .int) 1 0 0 [vr 63, vi 1, vi x] SH σ (fun r sh' σ' => SH = sh' ∧ (mn [11] σ) = σ' ∧ r = (am_xor x (ac : Int))) := by
  refine am_Mi_of (by decide +kernel) (Nat.le_of_ble_eq_true rfl) (fun K X hY hI hret => ?_)
  show am_G K 0 [some (vr 63), some (vi 1), some (vi x), none] [] SH σ
  refine am_iload_n (x := 1) X (by rfl) dX10_asksAs_0 ?_
  refine am_ic X (by decide) dX10_asksAs_1 ?_
  refine am_icmp_eq (tgt := 10) X dX10_asksAs_2 (by decide) (fun h => absurd h (by decide)) (fun _ => ?_)
  refine am_iload_n (x := 1) X (by rfl) dX10_asksAs_5 ?_
  refine am_ic X (by decide) dX10_asksAs_6 ?_
  refine am_icmp_ne (tgt := 25) X dX10_asksAs_7 (by decide) (fun _ => ?_) (fun h => absurd h (by decide))
  refine am_iload_n (x := 1) X (by rfl) dX10_asksAs_25 ?_
  refine am_ic X (by decide) dX10_asksAs_26 ?_
  refine am_icmp_eq (tgt := 36) X dX10_asksAs_27 (by decide) (fun h => absurd h (by decide)) (fun _ => ?_)
  refine am_iload_n (x := 1) X (by rfl) dX10_asksAs_30 ?_
  refine am_bipush X (by decide) dX10_asksAs_31 ?_
  refine am_icmp_ne (tgt := 61) X dX10_asksAs_33 (by decide) (fun _ => ?_) (fun h => absurd h (by decide))
  refine am_aload_n (x := 63) X (by rfl) dX10_asksAs_61 ?_
  refine am_bipush X (by decide) dX10_asksAs_62 ?_
  refine am_callVv (ci := 9) X hY lk_X10_317 mf_X10_begins (m_X10_begins 11 σ (by omega)) (by decide) (by decide) (Nat.le_refl _) (Nat.le_refl _) sh_63 rfl rfl rfl (Nat.le_of_ble_eq_true rfl) dX10_asksAs_64 (fun sh64 σ64 hp64 => ?_)
  obtain ⟨rfl, rfl, hq64⟩ := hp64
  refine am_sg (mn [11] σ) rfl ?_
  refine am_iload_n (x := x) X (by rfl) dX10_asksAs_67 ?_
  refine am_aload_n (x := 63) X (by rfl) dX10_asksAs_68 ?_
  refine am_get (v := (ac : Int)) X 63 fl_X10_324 (by decide) sh_63 (by decide) ((mn_at [11] (by decide) (Or.inr (by decide))).trans hac) dX10_asksAs_69 ?_
  refine am_ixor X dX10_asksAs_72 ?_
  exact hret _ _ _ _ _ dX10_asksAs_73 rfl rfl (by subst_vars; exact ⟨rfl, rfl, rfl⟩)

set_option maxHeartbeats 4000000 in
set_option maxRecDepth 100000 in
theorem m_d7_2_7 (x : Int) (σ : am_H) (ac : Nat) (hac : σ 63 44 = (ac : Int)) (hK : σ 63 43 = 7) (hr : 0 ≤ σ 63 42 ∧ σ 63 42 ≤ 296) : am_Mi yX10_asksAs cX10_asksAs 4 (some .int) 3 0 0 [vr 63, vi 7, vi x] SH σ (fun r sh' σ' => SH = sh' ∧ (mn [50, 11, 20, 1] σ) = σ' ∧ r = (w32 ((am_xor x (ac : Int)) - (w32 ((w32 (2 + (ac : Int))) + 3))))) := by
  refine am_Mi_of (by decide +kernel) (Nat.le_of_ble_eq_true rfl) (fun K X hY hI hret => ?_)
  show am_G K 0 [some (vr 63), some (vi 7), some (vi x), none] [] SH σ
  refine am_iload_n (x := 7) X (by rfl) dX10_asksAs_0 ?_
  refine am_ic X (by decide) dX10_asksAs_1 ?_
  refine am_icmp_eq (tgt := 10) X dX10_asksAs_2 (by decide) (fun h => absurd h (by decide)) (fun _ => ?_)
  refine am_iload_n (x := 7) X (by rfl) dX10_asksAs_5 ?_
  refine am_ic X (by decide) dX10_asksAs_6 ?_
  refine am_icmp_ne (tgt := 25) X dX10_asksAs_7 (by decide) (fun _ => ?_) (fun h => absurd h (by decide))
  refine am_iload_n (x := 7) X (by rfl) dX10_asksAs_25 ?_
  refine am_ic X (by decide) dX10_asksAs_26 ?_
  refine am_icmp_eq (tgt := 36) X dX10_asksAs_27 (by decide) (fun h => absurd h (by decide)) (fun _ => ?_)
  refine am_iload_n (x := 7) X (by rfl) dX10_asksAs_30 ?_
  refine am_bipush X (by decide) dX10_asksAs_31 ?_
  refine am_icmp_ne (tgt := 61) X dX10_asksAs_33 (by decide) (fun h => absurd h (by decide)) (fun _ => ?_)
  refine am_aload_n (x := 63) X (by rfl) dX10_asksAs_36 ?_
  refine am_bipush X (by decide) dX10_asksAs_37 ?_
  refine am_callVv (ci := 9) X hY lk_X10_317 mf_X10_begins (m_X10_begins 50 σ (by omega)) (by decide) (by decide) (Nat.le_refl _) (Nat.le_refl _) sh_63 rfl rfl rfl (Nat.le_of_ble_eq_true rfl) dX10_asksAs_39 (fun sh39 σ39 hp39 => ?_)
  obtain ⟨rfl, rfl, hq39⟩ := hp39
  refine am_sg (mn [50] σ) rfl ?_
  refine am_aload_n (x := 63) X (by rfl) dX10_asksAs_42 ?_
  refine am_ic X (by decide) dX10_asksAs_43 ?_
  refine am_iload_n (x := x) X (by rfl) dX10_asksAs_44 ?_
  refine am_callVi (ci := 9) X hY lk_X10_333 mf_X10_asksAs (m_d7_2_1 x (mn [50] σ) ac ((mn_at [50] (by decide) (Or.inr (by decide))).trans hac) ((mn_at [50] (by decide) (Or.inr (by decide))).trans hK) (by rw [mn_3]; show 0 ≤ σ 63 42 + 1 ∧ σ 63 42 + 1 ≤ _; omega)) (by decide) (by decide) (Nat.le_refl _) (Nat.le_refl _) sh_63 rfl rfl rfl (Nat.le_of_ble_eq_true rfl) dX10_asksAs_45 (fun r45 sh45 σ45 hr45 hp45 => ?_)
  obtain ⟨rfl, rfl, hq45⟩ := hp45
  refine am_sg (mn [50, 11] σ) (mn_app [50] [11] σ) ?_
  refine am_istore_n (i := 3) (L' := [some (vr 63), some (vi 7), some (vi x), some (vi r45)]) X rfl (Nat.le_of_ble_eq_true rfl) (by rfl) dX10_asksAs_48 ?_
  refine am_iload_n (x := r45) X (by rfl) dX10_asksAs_49 ?_
  refine am_aload_n (x := 63) X (by rfl) dX10_asksAs_50 ?_
  refine am_aload_n (x := 63) X (by rfl) dX10_asksAs_51 ?_
  refine am_get (v := 7) X 63 fl_X10_330 (by decide) sh_63 (by decide) ((mn_at [50, 11] (by decide) (Or.inr (by decide))).trans hK) dX10_asksAs_52 ?_
  refine am_ic X (by decide) dX10_asksAs_55 ?_
  refine am_callVi (ci := 9) X hY lk_X10_321 mf_X10_owesAs (m_d7_0_7 2 (mn [50, 11] σ) ac ((mn_at [50, 11] (by decide) (Or.inr (by decide))).trans hac) ((mn_at [50, 11] (by decide) (Or.inr (by decide))).trans hK) (by rw [mn_3]; show 0 ≤ σ 63 42 + 2 ∧ σ 63 42 + 2 ≤ _; omega)) (by decide) (by decide) (Nat.le_refl _) (Nat.le_refl _) sh_63 rfl rfl rfl (Nat.le_of_ble_eq_true rfl) dX10_asksAs_56 (fun r56 sh56 σ56 hr56 hp56 => ?_)
  obtain ⟨rfl, rfl, hq56⟩ := hp56
  refine am_sg (mn [50, 11, 20, 1] σ) (mn_app [50, 11] [20, 1] σ) ?_
  refine am_isub X dX10_asksAs_59 ?_
  exact hret _ _ _ _ _ dX10_asksAs_60 rfl rfl (by subst_vars; exact ⟨rfl, rfl, rfl⟩)

set_option maxHeartbeats 4000000 in
set_option maxRecDepth 100000 in
theorem m_d7_1_7 (x : Int) (σ : am_H) (ac : Nat) (hac : σ 63 44 = (ac : Int)) (hK : σ 63 43 = 7) (hr : 0 ≤ σ 63 42 ∧ σ 63 42 ≤ 292) : am_Mi yX10_worksAs cX10_worksAs 4 (some .int) 4 0 0 [vr 63, vi 7, vi x] SH σ (fun r sh' σ' => SH = sh' ∧ (mn [80, 10, 20, 1, 50, 11, 20, 1] σ) = σ' ∧ r = (w32 ((w32 ((w32 ((w32 (x + (ac : Int))) + 3)) * 2)) + (w32 ((am_xor 2 (ac : Int)) - (w32 ((w32 (2 + (ac : Int))) + 3))))))) := by
  refine am_Mi_of (by decide +kernel) (Nat.le_of_ble_eq_true rfl) (fun K X hY hI hret => ?_)
  show am_G K 0 [some (vr 63), some (vi 7), some (vi x), none] [] SH σ
  refine am_iload_n (x := 7) X (by rfl) dX10_worksAs_0 ?_
  refine am_ic X (by decide) dX10_worksAs_1 ?_
  refine am_icmp_eq (tgt := 10) X dX10_worksAs_2 (by decide) (fun h => absurd h (by decide)) (fun _ => ?_)
  refine am_iload_n (x := 7) X (by rfl) dX10_worksAs_5 ?_
  refine am_ic X (by decide) dX10_worksAs_6 ?_
  refine am_icmp_ne (tgt := 25) X dX10_worksAs_7 (by decide) (fun _ => ?_) (fun h => absurd h (by decide))
  refine am_iload_n (x := 7) X (by rfl) dX10_worksAs_25 ?_
  refine am_ic X (by decide) dX10_worksAs_26 ?_
  refine am_icmp_ne (tgt := 44) X dX10_worksAs_27 (by decide) (fun _ => ?_) (fun h => absurd h (by decide))
  refine am_iload_n (x := 7) X (by rfl) dX10_worksAs_44 ?_
  refine am_bipush X (by decide) dX10_worksAs_45 ?_
  refine am_icmp_ne (tgt := 75) X dX10_worksAs_47 (by decide) (fun h => absurd h (by decide)) (fun _ => ?_)
  refine am_aload_n (x := 63) X (by rfl) dX10_worksAs_50 ?_
  refine am_bipush X (by decide) dX10_worksAs_51 ?_
  refine am_callVv (ci := 9) X hY lk_X10_317 mf_X10_begins (m_X10_begins 80 σ (by omega)) (by decide) (by decide) (Nat.le_refl _) (Nat.le_refl _) sh_63 rfl rfl rfl (Nat.le_of_ble_eq_true rfl) dX10_worksAs_53 (fun sh53 σ53 hp53 => ?_)
  obtain ⟨rfl, rfl, hq53⟩ := hp53
  refine am_sg (mn [80] σ) rfl ?_
  refine am_aload_n (x := 63) X (by rfl) dX10_worksAs_56 ?_
  refine am_ic X (by decide) dX10_worksAs_57 ?_
  refine am_iload_n (x := x) X (by rfl) dX10_worksAs_58 ?_
  refine am_callVi (ci := 9) X hY lk_X10_327 mf_X10_worksAs (m_d7_1_4 x (mn [80] σ) ac ((mn_at [80] (by decide) (Or.inr (by decide))).trans hac) ((mn_at [80] (by decide) (Or.inr (by decide))).trans hK) (by rw [mn_3]; show 0 ≤ σ 63 42 + 1 ∧ σ 63 42 + 1 ≤ _; omega)) (by decide) (by decide) (Nat.le_refl _) (Nat.le_refl _) sh_63 rfl rfl rfl (Nat.le_of_ble_eq_true rfl) dX10_worksAs_59 (fun r59 sh59 σ59 hr59 hp59 => ?_)
  obtain ⟨rfl, rfl, hq59⟩ := hp59
  refine am_sg (mn [80, 10, 20, 1] σ) (mn_app [80] [10, 20, 1] σ) ?_
  refine am_istore_n (i := 3) (L' := [some (vr 63), some (vi 7), some (vi x), some (vi r59)]) X rfl (Nat.le_of_ble_eq_true rfl) (by rfl) dX10_worksAs_62 ?_
  refine am_iload_n (x := r59) X (by rfl) dX10_worksAs_63 ?_
  refine am_aload_n (x := 63) X (by rfl) dX10_worksAs_64 ?_
  refine am_aload_n (x := 63) X (by rfl) dX10_worksAs_65 ?_
  refine am_get (v := 7) X 63 fl_X10_330 (by decide) sh_63 (by decide) ((mn_at [80, 10, 20, 1] (by decide) (Or.inr (by decide))).trans hK) dX10_worksAs_66 ?_
  refine am_ic X (by decide) dX10_worksAs_69 ?_
  refine am_callVi (ci := 9) X hY lk_X10_333 mf_X10_asksAs (m_d7_2_7 2 (mn [80, 10, 20, 1] σ) ac ((mn_at [80, 10, 20, 1] (by decide) (Or.inr (by decide))).trans hac) ((mn_at [80, 10, 20, 1] (by decide) (Or.inr (by decide))).trans hK) (by rw [mn_3]; show 0 ≤ σ 63 42 + 4 ∧ σ 63 42 + 4 ≤ _; omega)) (by decide) (by decide) (Nat.le_refl _) (Nat.le_refl _) sh_63 rfl rfl rfl (Nat.le_of_ble_eq_true rfl) dX10_worksAs_70 (fun r70 sh70 σ70 hr70 hp70 => ?_)
  obtain ⟨rfl, rfl, hq70⟩ := hp70
  refine am_sg (mn [80, 10, 20, 1, 50, 11, 20, 1] σ) (mn_app [80, 10, 20, 1] [50, 11, 20, 1] σ) ?_
  refine am_iadd X dX10_worksAs_73 ?_
  exact hret _ _ _ _ _ dX10_worksAs_74 rfl rfl (by subst_vars; exact ⟨rfl, rfl, rfl⟩)

set_option maxHeartbeats 4000000 in
set_option maxRecDepth 100000 in
theorem m_d7_3_4 (x : Int) (σ : am_H) (ac : Nat) (hac : σ 63 44 = (ac : Int)) (hK : σ 63 43 = 7) (hr : 0 ≤ σ 63 42 ∧ σ 63 42 ≤ 287) : am_Mi yX10_tellsAs cX10_tellsAs 4 (some .int) 5 0 0 [vr 63, vi 4, vi x] SH σ (fun r sh' σ' => SH = sh' ∧ (mn [2, 80, 10, 20, 1, 50, 11, 20, 1, 50, 11, 20, 1] σ) = σ' ∧ r = (w32 ((w32 ((w32 ((w32 ((w32 (x + (ac : Int))) + 3)) * 2)) + (w32 ((am_xor 2 (ac : Int)) - (w32 ((w32 (2 + (ac : Int))) + 3)))))) - (w32 ((am_xor 1 (ac : Int)) - (w32 ((w32 (2 + (ac : Int))) + 3))))))) := by
  refine am_Mi_of (by decide +kernel) (Nat.le_of_ble_eq_true rfl) (fun K X hY hI hret => ?_)
  show am_G K 0 [some (vr 63), some (vi 4), some (vi x), none] [] SH σ
  refine am_iload_n (x := 4) X (by rfl) dX10_tellsAs_0 ?_
  refine am_ic X (by decide) dX10_tellsAs_1 ?_
  refine am_icmp_ne (tgt := 20) X dX10_tellsAs_2 (by decide) (fun _ => ?_) (fun h => absurd h (by decide))
  refine am_iload_n (x := 4) X (by rfl) dX10_tellsAs_20 ?_
  refine am_bipush X (by decide) dX10_tellsAs_21 ?_
  refine am_icmp_ne (tgt := 41) X dX10_tellsAs_23 (by decide) (fun _ => ?_) (fun h => absurd h (by decide))
  refine am_aload_n (x := 63) X (by rfl) dX10_tellsAs_41 ?_
  refine am_ic X (by decide) dX10_tellsAs_42 ?_
  refine am_callVv (ci := 9) X hY lk_X10_317 mf_X10_begins (m_X10_begins 2 σ (by omega)) (by decide) (by decide) (Nat.le_refl _) (Nat.le_refl _) sh_63 rfl rfl rfl (Nat.le_of_ble_eq_true rfl) dX10_tellsAs_43 (fun sh43 σ43 hp43 => ?_)
  obtain ⟨rfl, rfl, hq43⟩ := hp43
  refine am_sg (mn [2] σ) rfl ?_
  refine am_aload_n (x := 63) X (by rfl) dX10_tellsAs_46 ?_
  refine am_aload_n (x := 63) X (by rfl) dX10_tellsAs_47 ?_
  refine am_get (v := 7) X 63 fl_X10_330 (by decide) sh_63 (by decide) ((mn_at [2] (by decide) (Or.inr (by decide))).trans hK) dX10_tellsAs_48 ?_
  refine am_iload_n (x := x) X (by rfl) dX10_tellsAs_51 ?_
  refine am_callVi (ci := 9) X hY lk_X10_327 mf_X10_worksAs (m_d7_1_7 x (mn [2] σ) ac ((mn_at [2] (by decide) (Or.inr (by decide))).trans hac) ((mn_at [2] (by decide) (Or.inr (by decide))).trans hK) (by rw [mn_3]; show 0 ≤ σ 63 42 + 1 ∧ σ 63 42 + 1 ≤ _; omega)) (by decide) (by decide) (Nat.le_refl _) (Nat.le_refl _) sh_63 rfl rfl rfl (Nat.le_of_ble_eq_true rfl) dX10_tellsAs_52 (fun r52 sh52 σ52 hr52 hp52 => ?_)
  obtain ⟨rfl, rfl, hq52⟩ := hp52
  refine am_sg (mn [2, 80, 10, 20, 1, 50, 11, 20, 1] σ) (mn_app [2] [80, 10, 20, 1, 50, 11, 20, 1] σ) ?_
  refine am_istore_n (i := 3) (L' := [some (vr 63), some (vi 4), some (vi x), some (vi r52)]) X rfl (Nat.le_of_ble_eq_true rfl) (by rfl) dX10_tellsAs_55 ?_
  refine am_iload_n (x := r52) X (by rfl) dX10_tellsAs_56 ?_
  refine am_aload_n (x := 63) X (by rfl) dX10_tellsAs_57 ?_
  refine am_aload_n (x := 63) X (by rfl) dX10_tellsAs_58 ?_
  refine am_get (v := 7) X 63 fl_X10_330 (by decide) sh_63 (by decide) ((mn_at [2, 80, 10, 20, 1, 50, 11, 20, 1] (by decide) (Or.inr (by decide))).trans hK) dX10_tellsAs_59 ?_
  refine am_ic X (by decide) dX10_tellsAs_62 ?_
  refine am_callVi (ci := 9) X hY lk_X10_333 mf_X10_asksAs (m_d7_2_7 1 (mn [2, 80, 10, 20, 1, 50, 11, 20, 1] σ) ac ((mn_at [2, 80, 10, 20, 1, 50, 11, 20, 1] (by decide) (Or.inr (by decide))).trans hac) ((mn_at [2, 80, 10, 20, 1, 50, 11, 20, 1] (by decide) (Or.inr (by decide))).trans hK) (by rw [mn_3]; show 0 ≤ σ 63 42 + 9 ∧ σ 63 42 + 9 ≤ _; omega)) (by decide) (by decide) (Nat.le_refl _) (Nat.le_refl _) sh_63 rfl rfl rfl (Nat.le_of_ble_eq_true rfl) dX10_tellsAs_63 (fun r63 sh63 σ63 hr63 hp63 => ?_)
  obtain ⟨rfl, rfl, hq63⟩ := hp63
  refine am_sg (mn [2, 80, 10, 20, 1, 50, 11, 20, 1, 50, 11, 20, 1] σ) (mn_app [2, 80, 10, 20, 1, 50, 11, 20, 1] [50, 11, 20, 1] σ) ?_
  refine am_isub X dX10_tellsAs_66 ?_
  exact hret _ _ _ _ _ dX10_tellsAs_67 rfl rfl (by subst_vars; exact ⟨rfl, rfl, rfl⟩)

set_option maxHeartbeats 4000000 in
set_option maxRecDepth 100000 in
theorem m_d7_3_7 (x : Int) (σ : am_H) (ac : Nat) (hac : σ 63 44 = (ac : Int)) (hK : σ 63 43 = 7) (hr : 0 ≤ σ 63 42 ∧ σ 63 42 ≤ 286) : am_Mi yX10_tellsAs cX10_tellsAs 4 (some .int) 6 0 0 [vr 63, vi 7, vi x] SH σ (fun r sh' σ' => SH = sh' ∧ (mn [81, 2, 80, 10, 20, 1, 50, 11, 20, 1, 50, 11, 20, 1] σ) = σ' ∧ r = (w32 ((w32 ((w32 ((w32 ((w32 ((w32 (x + (ac : Int))) + 3)) * 2)) + (w32 ((am_xor 2 (ac : Int)) - (w32 ((w32 (2 + (ac : Int))) + 3)))))) - (w32 ((am_xor 1 (ac : Int)) - (w32 ((w32 (2 + (ac : Int))) + 3)))))) - 1))) := by
  refine am_Mi_of (by decide +kernel) (Nat.le_of_ble_eq_true rfl) (fun K X hY hI hret => ?_)
  show am_G K 0 [some (vr 63), some (vi 7), some (vi x), none] [] SH σ
  refine am_iload_n (x := 7) X (by rfl) dX10_tellsAs_0 ?_
  refine am_ic X (by decide) dX10_tellsAs_1 ?_
  refine am_icmp_ne (tgt := 20) X dX10_tellsAs_2 (by decide) (fun _ => ?_) (fun h => absurd h (by decide))
  refine am_iload_n (x := 7) X (by rfl) dX10_tellsAs_20 ?_
  refine am_bipush X (by decide) dX10_tellsAs_21 ?_
  refine am_icmp_ne (tgt := 41) X dX10_tellsAs_23 (by decide) (fun h => absurd h (by decide)) (fun _ => ?_)
  refine am_aload_n (x := 63) X (by rfl) dX10_tellsAs_26 ?_
  refine am_bipush X (by decide) dX10_tellsAs_27 ?_
  refine am_callVv (ci := 9) X hY lk_X10_317 mf_X10_begins (m_X10_begins 81 σ (by omega)) (by decide) (by decide) (Nat.le_refl _) (Nat.le_refl _) sh_63 rfl rfl rfl (Nat.le_of_ble_eq_true rfl) dX10_tellsAs_29 (fun sh29 σ29 hp29 => ?_)
  obtain ⟨rfl, rfl, hq29⟩ := hp29
  refine am_sg (mn [81] σ) rfl ?_
  refine am_aload_n (x := 63) X (by rfl) dX10_tellsAs_32 ?_
  refine am_ic X (by decide) dX10_tellsAs_33 ?_
  refine am_iload_n (x := x) X (by rfl) dX10_tellsAs_34 ?_
  refine am_callVi (ci := 9) X hY lk_X10_336 mf_X10_tellsAs (m_d7_3_4 x (mn [81] σ) ac ((mn_at [81] (by decide) (Or.inr (by decide))).trans hac) ((mn_at [81] (by decide) (Or.inr (by decide))).trans hK) (by rw [mn_3]; show 0 ≤ σ 63 42 + 1 ∧ σ 63 42 + 1 ≤ _; omega)) (by decide) (by decide) (Nat.le_refl _) (Nat.le_refl _) sh_63 rfl rfl rfl (Nat.le_of_ble_eq_true rfl) dX10_tellsAs_35 (fun r35 sh35 σ35 hr35 hp35 => ?_)
  obtain ⟨rfl, rfl, hq35⟩ := hp35
  refine am_sg (mn [81, 2, 80, 10, 20, 1, 50, 11, 20, 1, 50, 11, 20, 1] σ) (mn_app [81] [2, 80, 10, 20, 1, 50, 11, 20, 1, 50, 11, 20, 1] σ) ?_
  refine am_ic X (by decide) dX10_tellsAs_38 ?_
  refine am_isub X dX10_tellsAs_39 ?_
  exact hret _ _ _ _ _ dX10_tellsAs_40 rfl rfl (by subst_vars; exact ⟨rfl, rfl, rfl⟩)

theorem m_X10_act_0 (K x : Int) (hK8 : 0 ≤ K ∧ K ≤ 7) (ac : Nat) (σ : am_H) (hac : σ 63 44 = (ac : Int)) (hK : σ 63 43 = K) (hr : σ 63 42 = 0) : ∃ d, d ≤ 6 ∧ am_Mi yX10_owesAs cX10_owesAs 3 (some .int) d 0 0 [vr 63, vi K, vi x] SH σ (fun r sh' σ' => SH = sh' ∧ mn (bd_tr K 0) σ = σ' ∧ r = bd_val K 0 x (ac : Int)) := by
  rcases (show K = 0 ∨ K = 1 ∨ K = 2 ∨ K = 3 ∨ K = 4 ∨ K = 5 ∨ K = 6 ∨ K = 7 by omega) with rfl | rfl | rfl | rfl | rfl | rfl | rfl | rfl
  · exact ⟨1, by decide, m_d0_0_0 x σ ac hac hK (by omega)⟩
  · exact ⟨2, by decide, m_d1_0_1 x σ ac hac hK (by omega)⟩
  · exact ⟨1, by decide, m_d2_0_2 x σ ac hac hK (by omega)⟩
  · exact ⟨1, by decide, m_d3_0_3 x σ ac hac hK (by omega)⟩
  · exact ⟨2, by decide, m_d4_0_4 x σ ac hac hK (by omega)⟩
  · exact ⟨1, by decide, m_d5_0_5 x σ ac hac hK (by omega)⟩
  · exact ⟨2, by decide, m_d6_0_6 x σ ac hac hK (by omega)⟩
  · exact ⟨2, by decide, m_d7_0_7 x σ ac hac hK (by omega)⟩

theorem m_X10_act_1 (K x : Int) (hK8 : 0 ≤ K ∧ K ≤ 7) (ac : Nat) (σ : am_H) (hac : σ 63 44 = (ac : Int)) (hK : σ 63 43 = K) (hr : σ 63 42 = 0) : ∃ d, d ≤ 6 ∧ am_Mi yX10_worksAs cX10_worksAs 4 (some .int) d 0 0 [vr 63, vi K, vi x] SH σ (fun r sh' σ' => SH = sh' ∧ mn (bd_tr K 1) σ = σ' ∧ r = bd_val K 1 x (ac : Int)) := by
  rcases (show K = 0 ∨ K = 1 ∨ K = 2 ∨ K = 3 ∨ K = 4 ∨ K = 5 ∨ K = 6 ∨ K = 7 by omega) with rfl | rfl | rfl | rfl | rfl | rfl | rfl | rfl
  · exact ⟨2, by decide, m_d0_1_0 x σ ac hac hK (by omega)⟩
  · exact ⟨3, by decide, m_d1_1_1 x σ ac hac hK (by omega)⟩
  · exact ⟨3, by decide, m_d2_1_2 x σ ac hac hK (by omega)⟩
  · exact ⟨4, by decide, m_d3_1_3 x σ ac hac hK (by omega)⟩
  · exact ⟨3, by decide, m_d4_1_4 x σ ac hac hK (by omega)⟩
  · exact ⟨4, by decide, m_d5_1_5 x σ ac hac hK (by omega)⟩
  · exact ⟨3, by decide, m_d6_1_6 x σ ac hac hK (by omega)⟩
  · exact ⟨4, by decide, m_d7_1_7 x σ ac hac hK (by omega)⟩

theorem m_X10_act_2 (K x : Int) (hK8 : 0 ≤ K ∧ K ≤ 7) (ac : Nat) (σ : am_H) (hac : σ 63 44 = (ac : Int)) (hK : σ 63 43 = K) (hr : σ 63 42 = 0) : ∃ d, d ≤ 6 ∧ am_Mi yX10_asksAs cX10_asksAs 4 (some .int) d 0 0 [vr 63, vi K, vi x] SH σ (fun r sh' σ' => SH = sh' ∧ mn (bd_tr K 2) σ = σ' ∧ r = bd_val K 2 x (ac : Int)) := by
  rcases (show K = 0 ∨ K = 1 ∨ K = 2 ∨ K = 3 ∨ K = 4 ∨ K = 5 ∨ K = 6 ∨ K = 7 by omega) with rfl | rfl | rfl | rfl | rfl | rfl | rfl | rfl
  · exact ⟨1, by decide, m_d0_2_0 x σ ac hac hK (by omega)⟩
  · exact ⟨1, by decide, m_d1_2_1 x σ ac hac hK (by omega)⟩
  · exact ⟨1, by decide, m_d2_2_2 x σ ac hac hK (by omega)⟩
  · exact ⟨2, by decide, m_d3_2_3 x σ ac hac hK (by omega)⟩
  · exact ⟨3, by decide, m_d4_2_4 x σ ac hac hK (by omega)⟩
  · exact ⟨2, by decide, m_d5_2_5 x σ ac hac hK (by omega)⟩
  · exact ⟨1, by decide, m_d6_2_6 x σ ac hac hK (by omega)⟩
  · exact ⟨3, by decide, m_d7_2_7 x σ ac hac hK (by omega)⟩

theorem m_X10_act_3 (K x : Int) (hK8 : 0 ≤ K ∧ K ≤ 7) (ac : Nat) (σ : am_H) (hac : σ 63 44 = (ac : Int)) (hK : σ 63 43 = K) (hr : σ 63 42 = 0) : ∃ d, d ≤ 6 ∧ am_Mi yX10_tellsAs cX10_tellsAs 4 (some .int) d 0 0 [vr 63, vi K, vi x] SH σ (fun r sh' σ' => SH = sh' ∧ mn (bd_tr K 3) σ = σ' ∧ r = bd_val K 3 x (ac : Int)) := by
  rcases (show K = 0 ∨ K = 1 ∨ K = 2 ∨ K = 3 ∨ K = 4 ∨ K = 5 ∨ K = 6 ∨ K = 7 by omega) with rfl | rfl | rfl | rfl | rfl | rfl | rfl | rfl
  · exact ⟨3, by decide, m_d0_3_0 x σ ac hac hK (by omega)⟩
  · exact ⟨4, by decide, m_d1_3_1 x σ ac hac hK (by omega)⟩
  · exact ⟨4, by decide, m_d2_3_2 x σ ac hac hK (by omega)⟩
  · exact ⟨5, by decide, m_d3_3_3 x σ ac hac hK (by omega)⟩
  · exact ⟨4, by decide, m_d4_3_4 x σ ac hac hK (by omega)⟩
  · exact ⟨6, by decide, m_d5_3_5 x σ ac hac hK (by omega)⟩
  · exact ⟨4, by decide, m_d6_3_6 x σ ac hac hK (by omega)⟩
  · exact ⟨6, by decide, m_d7_3_7 x σ ac hac hK (by omega)⟩

set_option maxHeartbeats 4000000 in
set_option maxRecDepth 100000 in
theorem m_X10_act (σ : am_H) (b a x : Int) (hb : 0 ≤ σ 63 39 ∧ σ 63 39 ≤ 50) (hk : ∀ j : Nat, (j : Int) < σ 63 39 → 0 ≤ σ 84 j ∧ σ 84 j ≤ 7) : am_Mi yX10_act cX10_act 4 (some .int) 7 0 0 [vr 63, vi b, vi a, vi x] SH σ (fun r sh' σ' => SH = sh' ∧ ((((0 ≤ b ∧ b < σ 63 39) ∧ 0 ≤ a ∧ a ≤ 3) ∧ mn (bd_tr (σ 84 b.toNat) a) (am_up (am_up (am_up σ 63 42 0) 63 43 (σ 84 b.toNat)) 63 44 b) = σ' ∧ r = bd_val (σ 84 b.toNat) a x b) ∨ (¬ (0 ≤ b ∧ b < σ 63 39) ∧ am_up σ 63 42 0 = σ' ∧ r = 0) ∨ ((0 ≤ b ∧ b < σ 63 39) ∧ ¬ (0 ≤ a ∧ a ≤ 3) ∧ (am_up (am_up (am_up σ 63 42 0) 63 43 (σ 84 b.toNat)) 63 44 b) = σ' ∧ r = 0))) := by
  refine am_Mi_of (by decide +kernel) (Nat.le_of_ble_eq_true rfl) (fun K X hY hI hret => ?_)
  show am_G K 0 [some (vr 63), some (vi b), some (vi a), some (vi x)] [] SH σ
  have hz39 : am_up σ 63 42 0 63 39 = σ 63 39 := am_up_k (by omega)
  refine am_aload_n (x := 63) X (by rfl) dX10_act_0 ?_
  refine am_ic X (by decide) dX10_act_1 ?_
  refine am_puti X 63 fl_X10_314 rfl rfl sh_63 (by decide) dX10_act_2 ?_
  refine am_aload_n (x := 63) X (by rfl) dX10_act_5 ?_
  refine am_iload_n (x := b) X (by rfl) dX10_act_6 ?_
  refine am_callVi (ci := 9) X hY lk_X10_339 mf_X10_isBody (m_X10_isBody b (am_up σ 63 42 0) (by rw [am_up_k (by omega)]; exact hb)) (by omega) (by decide) (Nat.le_refl _) (Nat.le_refl _) sh_63 rfl rfl rfl (Nat.le_of_ble_eq_true rfl) dX10_act_7 (fun r7 sh7 σ7 hr7 hp7 => ?_)
  obtain ⟨rfl, rfl, hq7⟩ := hp7
  refine am_if_ne (tgt := 15) X dX10_act_10 (by decide) (fun h10 => ?_) (fun h10 => ?_)
  · skip
    have hkb := hk b.toNat (by omega)
    have hbc : ((b.toNat : Nat) : Int) = b := by omega
    refine am_aload_n (x := 63) X (by rfl) dX10_act_15 ?_
    refine am_aload_n (x := 63) X (by rfl) dX10_act_16 ?_
    refine am_getr (c1 := 84) X 63 fl_X10_71 (by decide) sh_63 (by decide) (by rfl) dX10_act_17 ?_
    refine am_iload_n (x := b) X (by rfl) dX10_act_20 ?_
    refine am_ald (v := σ 84 b.toNat) X 84 b.toNat sh_84 (by omega) (by omega) (by simp [am_up]) dX10_act_21 ?_
    refine am_puti X 63 fl_X10_330 rfl rfl sh_63 (by decide) dX10_act_22 ?_
    refine am_aload_n (x := 63) X (by rfl) dX10_act_25 ?_
    refine am_iload_n (x := b) X (by rfl) dX10_act_26 ?_
    refine am_puti X 63 fl_X10_324 rfl rfl sh_63 (by decide) dX10_act_27 ?_
    refine am_iload_n (x := a) X (by rfl) dX10_act_30 ?_
    by_cases h31o : a < 0 ∨ 3 < a
    · skip
      refine am_tableOut (tgt := 100) X dX10_act_31 h31o (by decide) ?_
      refine am_ic X (by decide) dX10_act_100 ?_
      exact hret _ _ _ _ _ dX10_act_101 rfl rfl (⟨rfl, Or.inr (Or.inr ⟨by omega, by omega, rfl, rfl⟩)⟩)
    rcases (show a = 0 ∨ a = 1 ∨ a = 2 ∨ a = 3 by omega) with h31 | h31 | h31 | h31
    · skip
      refine am_tableIn (off := 29) (tgt := 60) X dX10_act_31 (by omega) (by omega) (by rw [h31]; rfl) (by decide) ?_
      obtain ⟨d0, hd0, hM0⟩ := m_X10_act_0 (σ 84 b.toNat) x hkb b.toNat (am_up (am_up (am_up σ 63 42 0) 63 43 (σ 84 b.toNat)) 63 44 b) (by rw [am_up_eq, hbc]) (by rw [am_up_k (by omega), am_up_eq]) (by rw [am_up_k (by omega), am_up_k (by omega), am_up_eq])
      rw [hbc] at hM0
      refine am_aload_n (x := 63) X (by rfl) dX10_act_60 ?_
      refine am_aload_n (x := 63) X (by rfl) dX10_act_61 ?_
      refine am_get (v := (σ 84 b.toNat)) X 63 fl_X10_330 (by decide) sh_63 (by decide) (by simp [am_up]) dX10_act_62 ?_
      refine am_iload_n (x := x) X (by rfl) dX10_act_65 ?_
      refine am_callVi (ci := 9) X hY lk_X10_321 mf_X10_owesAs hM0 (by omega) (by decide) (Nat.le_refl _) (Nat.le_refl _) sh_63 rfl rfl rfl (Nat.le_of_ble_eq_true rfl) dX10_act_66 (fun r66 sh66 σ66 hr66 hp66 => ?_)
      obtain ⟨rfl, rfl, hq66⟩ := hp66
      exact hret _ _ _ _ _ dX10_act_69 rfl rfl (⟨rfl, Or.inl ⟨by omega, by rw [h31], by rw [h31]; exact hq66⟩⟩)
    · skip
      refine am_tableIn (off := 39) (tgt := 70) X dX10_act_31 (by omega) (by omega) (by rw [h31]; rfl) (by decide) ?_
      obtain ⟨d1, hd1, hM1⟩ := m_X10_act_1 (σ 84 b.toNat) x hkb b.toNat (am_up (am_up (am_up σ 63 42 0) 63 43 (σ 84 b.toNat)) 63 44 b) (by rw [am_up_eq, hbc]) (by rw [am_up_k (by omega), am_up_eq]) (by rw [am_up_k (by omega), am_up_k (by omega), am_up_eq])
      rw [hbc] at hM1
      refine am_aload_n (x := 63) X (by rfl) dX10_act_70 ?_
      refine am_aload_n (x := 63) X (by rfl) dX10_act_71 ?_
      refine am_get (v := (σ 84 b.toNat)) X 63 fl_X10_330 (by decide) sh_63 (by decide) (by simp [am_up]) dX10_act_72 ?_
      refine am_iload_n (x := x) X (by rfl) dX10_act_75 ?_
      refine am_callVi (ci := 9) X hY lk_X10_327 mf_X10_worksAs hM1 (by omega) (by decide) (Nat.le_refl _) (Nat.le_refl _) sh_63 rfl rfl rfl (Nat.le_of_ble_eq_true rfl) dX10_act_76 (fun r76 sh76 σ76 hr76 hp76 => ?_)
      obtain ⟨rfl, rfl, hq76⟩ := hp76
      exact hret _ _ _ _ _ dX10_act_79 rfl rfl (⟨rfl, Or.inl ⟨by omega, by rw [h31], by rw [h31]; exact hq76⟩⟩)
    · skip
      refine am_tableIn (off := 49) (tgt := 80) X dX10_act_31 (by omega) (by omega) (by rw [h31]; rfl) (by decide) ?_
      obtain ⟨d2, hd2, hM2⟩ := m_X10_act_2 (σ 84 b.toNat) x hkb b.toNat (am_up (am_up (am_up σ 63 42 0) 63 43 (σ 84 b.toNat)) 63 44 b) (by rw [am_up_eq, hbc]) (by rw [am_up_k (by omega), am_up_eq]) (by rw [am_up_k (by omega), am_up_k (by omega), am_up_eq])
      rw [hbc] at hM2
      refine am_aload_n (x := 63) X (by rfl) dX10_act_80 ?_
      refine am_aload_n (x := 63) X (by rfl) dX10_act_81 ?_
      refine am_get (v := (σ 84 b.toNat)) X 63 fl_X10_330 (by decide) sh_63 (by decide) (by simp [am_up]) dX10_act_82 ?_
      refine am_iload_n (x := x) X (by rfl) dX10_act_85 ?_
      refine am_callVi (ci := 9) X hY lk_X10_333 mf_X10_asksAs hM2 (by omega) (by decide) (Nat.le_refl _) (Nat.le_refl _) sh_63 rfl rfl rfl (Nat.le_of_ble_eq_true rfl) dX10_act_86 (fun r86 sh86 σ86 hr86 hp86 => ?_)
      obtain ⟨rfl, rfl, hq86⟩ := hp86
      exact hret _ _ _ _ _ dX10_act_89 rfl rfl (⟨rfl, Or.inl ⟨by omega, by rw [h31], by rw [h31]; exact hq86⟩⟩)
    · skip
      refine am_tableIn (off := 59) (tgt := 90) X dX10_act_31 (by omega) (by omega) (by rw [h31]; rfl) (by decide) ?_
      obtain ⟨d3, hd3, hM3⟩ := m_X10_act_3 (σ 84 b.toNat) x hkb b.toNat (am_up (am_up (am_up σ 63 42 0) 63 43 (σ 84 b.toNat)) 63 44 b) (by rw [am_up_eq, hbc]) (by rw [am_up_k (by omega), am_up_eq]) (by rw [am_up_k (by omega), am_up_k (by omega), am_up_eq])
      rw [hbc] at hM3
      refine am_aload_n (x := 63) X (by rfl) dX10_act_90 ?_
      refine am_aload_n (x := 63) X (by rfl) dX10_act_91 ?_
      refine am_get (v := (σ 84 b.toNat)) X 63 fl_X10_330 (by decide) sh_63 (by decide) (by simp [am_up]) dX10_act_92 ?_
      refine am_iload_n (x := x) X (by rfl) dX10_act_95 ?_
      refine am_callVi (ci := 9) X hY lk_X10_336 mf_X10_tellsAs hM3 (by omega) (by decide) (Nat.le_refl _) (Nat.le_refl _) sh_63 rfl rfl rfl (Nat.le_of_ble_eq_true rfl) dX10_act_96 (fun r96 sh96 σ96 hr96 hp96 => ?_)
      obtain ⟨rfl, rfl, hq96⟩ := hp96
      exact hret _ _ _ _ _ dX10_act_99 rfl rfl (⟨rfl, Or.inl ⟨by omega, by rw [h31], by rw [h31]; exact hq96⟩⟩)
  · skip
    refine am_ic X (by decide) dX10_act_13 ?_
    exact hret _ _ _ _ _ dX10_act_14 rfl rfl (⟨rfl, Or.inr (Or.inl ⟨by omega, rfl, rfl⟩)⟩)
