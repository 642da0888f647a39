set_option maxHeartbeats 4000000 in
set_option maxRecDepth 100000 in
theorem gf4_0 {kd : Int}  {d1 h1 : Nat} {l1 : List Int} {v1 : Int → Int → Int} (H1 : bCu 20 0 kd d1 h1 l1 v1) (x dp : Int) (ac : Nat) (σ : am_H) (hdp : 0 ≤ dp) (hdh : dp + (((h1 + 1) : Nat) : Int) ≤ 40) (hac : σ 46 4 = (ac : Int)) (hac2 : ac < 50) (hK : σ 47 ac = kd) (hr : 0 ≤ σ 46 3 ∧ σ 46 3 + ((20 :: l1).length : Int) ≤ 1000) : am_Mi yX0_from cX0_from 7 (some .int) (d1 + 1) 0 0 [vr 46, vi 4, vi 0, vi x, vi dp] SH σ (fun r sh' σ' => SH = sh' ∧ bn (20 :: l1) σ = σ' ∧ r = v1 x (ac : Int)) := by
  refine am_Mi_of (by decide +kernel) (Nat.le_of_ble_eq_true rfl) (fun K X hY hI hret => ?_)
  show am_G K 0 [some (vr 46), some (vi 4), some (vi 0), some (vi x), some (vi dp), none, none] [] SH σ
  refine am_iload_n (x := 4) X (by rfl) dX0_from_0 ?_
  refine am_istore (i := 5) (L' := [some (vr 46), some (vi 4), some (vi 0), some (vi x), some (vi dp), some (vi 4), none]) X (Nat.le_of_ble_eq_true rfl) (by rfl) dX0_from_1 ?_
  refine am_ic X (by decide) dX0_from_3 ?_
  refine am_istore (i := 6) (L' := [some (vr 46), some (vi 4), some (vi 0), some (vi x), some (vi dp), some (vi 4), some (vi 0)]) X (Nat.le_of_ble_eq_true rfl) (by rfl) dX0_from_4 ?_
  refine am_iload (x := 0) X (by rfl) dX0_from_6 ?_
  refine am_bipush X (by decide) dX0_from_8 ?_
  refine am_icmp_ge (tgt := 45) X dX0_from_10 (by decide) (fun h => absurd h (by decide)) (fun _ => ?_)
  refine am_iload (x := 4) X (by rfl) dX0_from_13 ?_
  refine am_if_le (tgt := 45) X dX0_from_15 (by decide) (fun h => absurd h (by decide)) (fun _ => ?_)
  refine am_gsOWN X gs_X0_40 dX0_from_18 ?_
  refine am_iload (x := 4) X (by rfl) dX0_from_21 ?_
  refine am_ic X (by decide) dX0_from_23 ?_
  refine am_mul (v := 16) X (by first | rfl | omega) (by omega) dX0_from_24 ?_
  refine am_iload_n (x := 0) X (by rfl) dX0_from_25 ?_
  refine am_add (v := 16) X (by first | rfl | omega) (by omega) dX0_from_26 ?_
  refine am_ldOWN X (by decide) (by decide) (by unfold R32; decide) dX0_from_27 ?_
  show am_G K 28 [some (vr 46), some (vi 4), some (vi 0), some (vi x), some (vi dp), some (vi 4), some (vi 0)] [vi 0] SH σ
  refine am_if_ne (tgt := 45) X dX0_from_28 (by decide) (fun h => absurd h (by decide)) (fun _ => ?_)
  refine am_gsABOVE X gs_X0_26 dX0_from_31 ?_
  refine am_iload (x := 4) X (by rfl) dX0_from_34 ?_
  refine am_ldABOVE X (by decide) (by decide) (by unfold R32; decide) dX0_from_36 ?_
  show am_G K 37 [some (vr 46), some (vi 4), some (vi 0), some (vi x), some (vi dp), some (vi 4), some (vi 0)] [vi 1] SH σ
  refine am_istore (i := 5) (L' := [some (vr 46), some (vi 4), some (vi 0), some (vi x), some (vi dp), some (vi 1), some (vi 0)]) X (Nat.le_of_ble_eq_true rfl) (by rfl) dX0_from_37 ?_
  refine am_inc (x := 0) (v := 1) (L' := [some (vr 46), some (vi 4), some (vi 0), some (vi x), some (vi dp), some (vi 1), some (vi 1)]) X (by rfl) (by omega) (by omega) (by rfl) dX0_from_39 ?_
  refine am_goto (tgt := 6) X dX0_from_42 (by decide) ?_
  refine am_iload (x := 1) X (by rfl) dX0_from_6 ?_
  refine am_bipush X (by decide) dX0_from_8 ?_
  refine am_icmp_ge (tgt := 45) X dX0_from_10 (by decide) (fun h => absurd h (by decide)) (fun _ => ?_)
  refine am_iload (x := 1) X (by rfl) dX0_from_13 ?_
  refine am_if_le (tgt := 45) X dX0_from_15 (by decide) (fun h => absurd h (by decide)) (fun _ => ?_)
  refine am_gsOWN X gs_X0_40 dX0_from_18 ?_
  refine am_iload (x := 1) X (by rfl) dX0_from_21 ?_
  refine am_ic X (by decide) dX0_from_23 ?_
  refine am_mul (v := 4) X (by first | rfl | omega) (by omega) dX0_from_24 ?_
  refine am_iload_n (x := 0) X (by rfl) dX0_from_25 ?_
  refine am_add (v := 4) X (by first | rfl | omega) (by omega) dX0_from_26 ?_
  refine am_ldOWN X (by decide) (by decide) (by unfold R32; decide) dX0_from_27 ?_
  show am_G K 28 [some (vr 46), some (vi 4), some (vi 0), some (vi x), some (vi dp), some (vi 1), some (vi 1)] [vi 20] SH σ
  refine am_if_ne (tgt := 45) X dX0_from_28 (by decide) (fun _ => ?_) (fun h => absurd h (by decide))
  refine am_iload (x := 1) X (by rfl) dX0_from_45 ?_
  refine am_if_lt (tgt := 57) X dX0_from_47 (by decide) (fun h => absurd h (by decide)) (fun _ => ?_)
  refine am_iload (x := dp) X (by rfl) dX0_from_50 ?_
  refine am_bipush X (by decide) dX0_from_52 ?_
  refine am_icmp_le (tgt := 59) X dX0_from_54 (by decide) (fun h54 => ?_) (fun h54 => ?_)
  · skip
    refine am_gsOWN X gs_X0_40 dX0_from_59 ?_
    refine am_iload (x := 1) X (by rfl) dX0_from_62 ?_
    refine am_ic X (by decide) dX0_from_64 ?_
    refine am_mul (v := 4) X (by first | rfl | omega) (by omega) dX0_from_65 ?_
    refine am_iload_n (x := 0) X (by rfl) dX0_from_66 ?_
    refine am_add (v := 4) X (by first | rfl | omega) (by omega) dX0_from_67 ?_
    refine am_ldOWN X (by decide) (by decide) (by unfold R32; decide) dX0_from_68 ?_
    show am_G K 69 [some (vr 46), some (vi 4), some (vi 0), some (vi x), some (vi dp), some (vi 1), some (vi 1)] [vi 20] SH σ
    refine am_istore (i := 6) (L' := [some (vr 46), some (vi 4), some (vi 0), some (vi x), some (vi dp), some (vi 1), some (vi 20)]) X (Nat.le_of_ble_eq_true rfl) (by rfl) dX0_from_69 ?_
    refine am_aload_n (x := 46) X (by rfl) dX0_from_71 ?_
    refine am_iload (x := 20) X (by rfl) dX0_from_72 ?_
    refine am_callVv (ci := 0) X hY lk_X0_43 mf_X0_note (m_X0_note 20 σ (by omega)) (by omega) (by decide) (Nat.le_refl _) (Nat.le_refl _) sh_46 rfl rfl rfl (Nat.le_of_ble_eq_true rfl) dX0_from_74 (fun sh74 σ74 hp74 => ?_)
    obtain ⟨rfl, rfl, -⟩ := hp74
    refine am_sg (bn [20] σ) rfl ?_
    refine am_iload (x := 1) X (by rfl) dX0_from_77 ?_
    refine am_if_ne (tgt := 96) X dX0_from_79 (by decide) (fun _ => ?_) (fun h => absurd h (by decide))
    refine am_aload_n (x := 46) X (by rfl) dX0_from_96 ?_
    refine am_iload (x := 20) X (by rfl) dX0_from_97 ?_
    refine am_gsABOVE X gs_X0_26 dX0_from_99 ?_
    refine am_iload (x := 1) X (by rfl) dX0_from_102 ?_
    refine am_ldABOVE X (by decide) (by decide) (by unfold R32; decide) dX0_from_104 ?_
    show am_G K 105 [some (vr 46), some (vi 4), some (vi 0), some (vi x), some (vi dp), some (vi 1), some (vi 20)] [vi 0, vi 20, vr 46] SH (bn [20] σ)
    refine am_iload_n (x := x) X (by rfl) dX0_from_105 ?_
    refine am_iload (x := dp) X (by rfl) dX0_from_106 ?_
    refine am_ic X (by decide) dX0_from_108 ?_
    refine am_add (v := (dp + 1)) X (by first | rfl | omega) (by omega) dX0_from_109 ?_
    refine am_callVi (ci := 0) X hY lk_X0_50 mf_X0_runUnderDay (H1.2 x (dp + 1) ac (bn [20] σ) (by omega) (by omega) ((bn_at [20] (by decide) (Or.inr (by decide))).trans hac) hac2 ((bn_at [20] (by decide) (Or.inl (by decide))).trans hK) (by rw [bn_3]; simp only [List.length_cons, List.length_append, List.length_nil] at hr ⊢; omega)) (by omega) (by decide) (Nat.le_refl _) (Nat.le_refl _) sh_46 rfl rfl rfl (Nat.le_of_ble_eq_true rfl) dX0_from_110 (fun r110 sh110 σ110 hr110 hp110 => ?_)
    obtain ⟨rfl, rfl, hq110⟩ := hp110
    refine am_sg (bn ([20] ++ l1) σ) (bn_app _ _ _) ?_
    exact hret _ _ _ _ _ dX0_from_113 rfl rfl (by subst_vars; exact ⟨rfl, by first | rfl | (simp only [List.cons_append, List.nil_append, List.append_assoc]), rfl⟩)
  · skip
    (exfalso; omega)

set_option maxHeartbeats 4000000 in
set_option maxRecDepth 100000 in
theorem gf4_1 {kd : Int}  {d1 h1 : Nat} {l1 : List Int} {v1 : Int → Int → Int} (H1 : bCr 10 kd d1 h1 l1 v1) (x dp : Int) (ac : Nat) (σ : am_H) (hdp : 0 ≤ dp) (hdh : dp + (((h1 + 1) : Nat) : Int) ≤ 40) (hac : σ 46 4 = (ac : Int)) (hac2 : ac < 50) (hK : σ 47 ac = kd) (hr : 0 ≤ σ 46 3 ∧ σ 46 3 + ((10 :: l1).length : Int) ≤ 1000) : am_Mi yX0_from cX0_from 7 (some .int) (d1 + 1) 0 0 [vr 46, vi 4, vi 1, vi x, vi dp] SH σ (fun r sh' σ' => SH = sh' ∧ bn (10 :: l1) σ = σ' ∧ r = v1 x (ac : Int)) := by
  refine am_Mi_of (by decide +kernel) (Nat.le_of_ble_eq_true rfl) (fun K X hY hI hret => ?_)
  show am_G K 0 [some (vr 46), some (vi 4), some (vi 1), some (vi x), some (vi dp), none, none] [] SH σ
  refine am_iload_n (x := 4) X (by rfl) dX0_from_0 ?_
  refine am_istore (i := 5) (L' := [some (vr 46), some (vi 4), some (vi 1), some (vi x), some (vi dp), some (vi 4), none]) X (Nat.le_of_ble_eq_true rfl) (by rfl) dX0_from_1 ?_
  refine am_ic X (by decide) dX0_from_3 ?_
  refine am_istore (i := 6) (L' := [some (vr 46), some (vi 4), some (vi 1), some (vi x), some (vi dp), some (vi 4), some (vi 0)]) X (Nat.le_of_ble_eq_true rfl) (by rfl) dX0_from_4 ?_
  refine am_iload (x := 0) X (by rfl) dX0_from_6 ?_
  refine am_bipush X (by decide) dX0_from_8 ?_
  refine am_icmp_ge (tgt := 45) X dX0_from_10 (by decide) (fun h => absurd h (by decide)) (fun _ => ?_)
  refine am_iload (x := 4) X (by rfl) dX0_from_13 ?_
  refine am_if_le (tgt := 45) X dX0_from_15 (by decide) (fun h => absurd h (by decide)) (fun _ => ?_)
  refine am_gsOWN X gs_X0_40 dX0_from_18 ?_
  refine am_iload (x := 4) X (by rfl) dX0_from_21 ?_
  refine am_ic X (by decide) dX0_from_23 ?_
  refine am_mul (v := 16) X (by first | rfl | omega) (by omega) dX0_from_24 ?_
  refine am_iload_n (x := 1) X (by rfl) dX0_from_25 ?_
  refine am_add (v := 17) X (by first | rfl | omega) (by omega) dX0_from_26 ?_
  refine am_ldOWN X (by decide) (by decide) (by unfold R32; decide) dX0_from_27 ?_
  show am_G K 28 [some (vr 46), some (vi 4), some (vi 1), some (vi x), some (vi dp), some (vi 4), some (vi 0)] [vi 0] SH σ
  refine am_if_ne (tgt := 45) X dX0_from_28 (by decide) (fun h => absurd h (by decide)) (fun _ => ?_)
  refine am_gsABOVE X gs_X0_26 dX0_from_31 ?_
  refine am_iload (x := 4) X (by rfl) dX0_from_34 ?_
  refine am_ldABOVE X (by decide) (by decide) (by unfold R32; decide) dX0_from_36 ?_
  show am_G K 37 [some (vr 46), some (vi 4), some (vi 1), some (vi x), some (vi dp), some (vi 4), some (vi 0)] [vi 1] SH σ
  refine am_istore (i := 5) (L' := [some (vr 46), some (vi 4), some (vi 1), some (vi x), some (vi dp), some (vi 1), some (vi 0)]) X (Nat.le_of_ble_eq_true rfl) (by rfl) dX0_from_37 ?_
  refine am_inc (x := 0) (v := 1) (L' := [some (vr 46), some (vi 4), some (vi 1), some (vi x), some (vi dp), some (vi 1), some (vi 1)]) X (by rfl) (by omega) (by omega) (by rfl) dX0_from_39 ?_
  refine am_goto (tgt := 6) X dX0_from_42 (by decide) ?_
  refine am_iload (x := 1) X (by rfl) dX0_from_6 ?_
  refine am_bipush X (by decide) dX0_from_8 ?_
  refine am_icmp_ge (tgt := 45) X dX0_from_10 (by decide) (fun h => absurd h (by decide)) (fun _ => ?_)
  refine am_iload (x := 1) X (by rfl) dX0_from_13 ?_
  refine am_if_le (tgt := 45) X dX0_from_15 (by decide) (fun h => absurd h (by decide)) (fun _ => ?_)
  refine am_gsOWN X gs_X0_40 dX0_from_18 ?_
  refine am_iload (x := 1) X (by rfl) dX0_from_21 ?_
  refine am_ic X (by decide) dX0_from_23 ?_
  refine am_mul (v := 4) X (by first | rfl | omega) (by omega) dX0_from_24 ?_
  refine am_iload_n (x := 1) X (by rfl) dX0_from_25 ?_
  refine am_add (v := 5) X (by first | rfl | omega) (by omega) dX0_from_26 ?_
  refine am_ldOWN X (by decide) (by decide) (by unfold R32; decide) dX0_from_27 ?_
  show am_G K 28 [some (vr 46), some (vi 4), some (vi 1), some (vi x), some (vi dp), some (vi 1), some (vi 1)] [vi 0] SH σ
  refine am_if_ne (tgt := 45) X dX0_from_28 (by decide) (fun h => absurd h (by decide)) (fun _ => ?_)
  refine am_gsABOVE X gs_X0_26 dX0_from_31 ?_
  refine am_iload (x := 1) X (by rfl) dX0_from_34 ?_
  refine am_ldABOVE X (by decide) (by decide) (by unfold R32; decide) dX0_from_36 ?_
  show am_G K 37 [some (vr 46), some (vi 4), some (vi 1), some (vi x), some (vi dp), some (vi 1), some (vi 1)] [vi 0] SH σ
  refine am_istore (i := 5) (L' := [some (vr 46), some (vi 4), some (vi 1), some (vi x), some (vi dp), some (vi 0), some (vi 1)]) X (Nat.le_of_ble_eq_true rfl) (by rfl) dX0_from_37 ?_
  refine am_inc (x := 1) (v := 2) (L' := [some (vr 46), some (vi 4), some (vi 1), some (vi x), some (vi dp), some (vi 0), some (vi 2)]) X (by rfl) (by omega) (by omega) (by rfl) dX0_from_39 ?_
  refine am_goto (tgt := 6) X dX0_from_42 (by decide) ?_
  refine am_iload (x := 2) X (by rfl) dX0_from_6 ?_
  refine am_bipush X (by decide) dX0_from_8 ?_
  refine am_icmp_ge (tgt := 45) X dX0_from_10 (by decide) (fun h => absurd h (by decide)) (fun _ => ?_)
  refine am_iload (x := 0) X (by rfl) dX0_from_13 ?_
  refine am_if_le (tgt := 45) X dX0_from_15 (by decide) (fun _ => ?_) (fun h => absurd h (by decide))
  refine am_iload (x := 0) X (by rfl) dX0_from_45 ?_
  refine am_if_lt (tgt := 57) X dX0_from_47 (by decide) (fun h => absurd h (by decide)) (fun _ => ?_)
  refine am_iload (x := dp) X (by rfl) dX0_from_50 ?_
  refine am_bipush X (by decide) dX0_from_52 ?_
  refine am_icmp_le (tgt := 59) X dX0_from_54 (by decide) (fun h54 => ?_) (fun h54 => ?_)
  · skip
    refine am_gsOWN X gs_X0_40 dX0_from_59 ?_
    refine am_iload (x := 0) X (by rfl) dX0_from_62 ?_
    refine am_ic X (by decide) dX0_from_64 ?_
    refine am_mul (v := 0) X (by first | rfl | omega) (by omega) dX0_from_65 ?_
    refine am_iload_n (x := 1) X (by rfl) dX0_from_66 ?_
    refine am_add (v := 1) X (by first | rfl | omega) (by omega) dX0_from_67 ?_
    refine am_ldOWN X (by decide) (by decide) (by unfold R32; decide) dX0_from_68 ?_
    show am_G K 69 [some (vr 46), some (vi 4), some (vi 1), some (vi x), some (vi dp), some (vi 0), some (vi 2)] [vi 10] SH σ
    refine am_istore (i := 6) (L' := [some (vr 46), some (vi 4), some (vi 1), some (vi x), some (vi dp), some (vi 0), some (vi 10)]) X (Nat.le_of_ble_eq_true rfl) (by rfl) dX0_from_69 ?_
    refine am_aload_n (x := 46) X (by rfl) dX0_from_71 ?_
    refine am_iload (x := 10) X (by rfl) dX0_from_72 ?_
    refine am_callVv (ci := 0) X hY lk_X0_43 mf_X0_note (m_X0_note 10 σ (by omega)) (by omega) (by decide) (Nat.le_refl _) (Nat.le_refl _) sh_46 rfl rfl rfl (Nat.le_of_ble_eq_true rfl) dX0_from_74 (fun sh74 σ74 hp74 => ?_)
    obtain ⟨rfl, rfl, -⟩ := hp74
    refine am_sg (bn [10] σ) rfl ?_
    refine am_iload (x := 0) X (by rfl) dX0_from_77 ?_
    refine am_if_ne (tgt := 96) X dX0_from_79 (by decide) (fun h => absurd h (by decide)) (fun _ => ?_)
    refine am_aload_n (x := 46) X (by rfl) dX0_from_82 ?_
    refine am_iload (x := 10) X (by rfl) dX0_from_83 ?_
    refine am_iload_n (x := x) X (by rfl) dX0_from_85 ?_
    refine am_iload (x := dp) X (by rfl) dX0_from_86 ?_
    refine am_ic X (by decide) dX0_from_88 ?_
    refine am_add (v := (dp + 1)) X (by first | rfl | omega) (by omega) dX0_from_89 ?_
    refine am_callVi (ci := 0) X hY lk_X0_47 mf_X0_runOfDay (H1.2 x (dp + 1) ac (bn [10] σ) (by omega) (by omega) ((bn_at [10] (by decide) (Or.inr (by decide))).trans hac) hac2 ((bn_at [10] (by decide) (Or.inl (by decide))).trans hK) (by rw [bn_3]; simp only [List.length_cons, List.length_append, List.length_nil] at hr ⊢; omega)) (by omega) (by decide) (Nat.le_refl _) (Nat.le_refl _) sh_46 rfl rfl rfl (Nat.le_of_ble_eq_true rfl) dX0_from_90 (fun r90 sh90 σ90 hr90 hp90 => ?_)
    obtain ⟨rfl, rfl, hq90⟩ := hp90
    refine am_sg (bn ([10] ++ l1) σ) (bn_app _ _ _) ?_
    refine am_goto (tgt := 113) X dX0_from_93 (by decide) ?_
    exact hret _ _ _ _ _ dX0_from_113 rfl rfl (by subst_vars; exact ⟨rfl, by first | rfl | (simp only [List.cons_append, List.nil_append, List.append_assoc]), rfl⟩)
  · skip
    (exfalso; omega)

set_option maxHeartbeats 4000000 in
set_option maxRecDepth 100000 in
theorem gf4_2 {kd : Int}  {d1 h1 : Nat} {l1 : List Int} {v1 : Int → Int → Int} (H1 : bCu 50 1 kd d1 h1 l1 v1) (x dp : Int) (ac : Nat) (σ : am_H) (hdp : 0 ≤ dp) (hdh : dp + (((h1 + 1) : Nat) : Int) ≤ 40) (hac : σ 46 4 = (ac : Int)) (hac2 : ac < 50) (hK : σ 47 ac = kd) (hr : 0 ≤ σ 46 3 ∧ σ 46 3 + ((50 :: l1).length : Int) ≤ 1000) : am_Mi yX0_from cX0_from 7 (some .int) (d1 + 1) 0 0 [vr 46, vi 4, vi 2, vi x, vi dp] SH σ (fun r sh' σ' => SH = sh' ∧ bn (50 :: l1) σ = σ' ∧ r = v1 x (ac : Int)) := by
  refine am_Mi_of (by decide +kernel) (Nat.le_of_ble_eq_true rfl) (fun K X hY hI hret => ?_)
  show am_G K 0 [some (vr 46), some (vi 4), some (vi 2), some (vi x), some (vi dp), none, none] [] SH σ
  refine am_iload_n (x := 4) X (by rfl) dX0_from_0 ?_
  refine am_istore (i := 5) (L' := [some (vr 46), some (vi 4), some (vi 2), some (vi x), some (vi dp), some (vi 4), none]) X (Nat.le_of_ble_eq_true rfl) (by rfl) dX0_from_1 ?_
  refine am_ic X (by decide) dX0_from_3 ?_
  refine am_istore (i := 6) (L' := [some (vr 46), some (vi 4), some (vi 2), some (vi x), some (vi dp), some (vi 4), some (vi 0)]) X (Nat.le_of_ble_eq_true rfl) (by rfl) dX0_from_4 ?_
  refine am_iload (x := 0) X (by rfl) dX0_from_6 ?_
  refine am_bipush X (by decide) dX0_from_8 ?_
  refine am_icmp_ge (tgt := 45) X dX0_from_10 (by decide) (fun h => absurd h (by decide)) (fun _ => ?_)
  refine am_iload (x := 4) X (by rfl) dX0_from_13 ?_
  refine am_if_le (tgt := 45) X dX0_from_15 (by decide) (fun h => absurd h (by decide)) (fun _ => ?_)
  refine am_gsOWN X gs_X0_40 dX0_from_18 ?_
  refine am_iload (x := 4) X (by rfl) dX0_from_21 ?_
  refine am_ic X (by decide) dX0_from_23 ?_
  refine am_mul (v := 16) X (by first | rfl | omega) (by omega) dX0_from_24 ?_
  refine am_iload_n (x := 2) X (by rfl) dX0_from_25 ?_
  refine am_add (v := 18) X (by first | rfl | omega) (by omega) dX0_from_26 ?_
  refine am_ldOWN X (by decide) (by decide) (by unfold R32; decide) dX0_from_27 ?_
  show am_G K 28 [some (vr 46), some (vi 4), some (vi 2), some (vi x), some (vi dp), some (vi 4), some (vi 0)] [vi 50] SH σ
  refine am_if_ne (tgt := 45) X dX0_from_28 (by decide) (fun _ => ?_) (fun h => absurd h (by decide))
  refine am_iload (x := 4) X (by rfl) dX0_from_45 ?_
  refine am_if_lt (tgt := 57) X dX0_from_47 (by decide) (fun h => absurd h (by decide)) (fun _ => ?_)
  refine am_iload (x := dp) X (by rfl) dX0_from_50 ?_
  refine am_bipush X (by decide) dX0_from_52 ?_
  refine am_icmp_le (tgt := 59) X dX0_from_54 (by decide) (fun h54 => ?_) (fun h54 => ?_)
  · skip
    refine am_gsOWN X gs_X0_40 dX0_from_59 ?_
    refine am_iload (x := 4) X (by rfl) dX0_from_62 ?_
    refine am_ic X (by decide) dX0_from_64 ?_
    refine am_mul (v := 16) X (by first | rfl | omega) (by omega) dX0_from_65 ?_
    refine am_iload_n (x := 2) X (by rfl) dX0_from_66 ?_
    refine am_add (v := 18) X (by first | rfl | omega) (by omega) dX0_from_67 ?_
    refine am_ldOWN X (by decide) (by decide) (by unfold R32; decide) dX0_from_68 ?_
    show am_G K 69 [some (vr 46), some (vi 4), some (vi 2), some (vi x), some (vi dp), some (vi 4), some (vi 0)] [vi 50] SH σ
    refine am_istore (i := 6) (L' := [some (vr 46), some (vi 4), some (vi 2), some (vi x), some (vi dp), some (vi 4), some (vi 50)]) X (Nat.le_of_ble_eq_true rfl) (by rfl) dX0_from_69 ?_
    refine am_aload_n (x := 46) X (by rfl) dX0_from_71 ?_
    refine am_iload (x := 50) X (by rfl) dX0_from_72 ?_
    refine am_callVv (ci := 0) X hY lk_X0_43 mf_X0_note (m_X0_note 50 σ (by omega)) (by omega) (by decide) (Nat.le_refl _) (Nat.le_refl _) sh_46 rfl rfl rfl (Nat.le_of_ble_eq_true rfl) dX0_from_74 (fun sh74 σ74 hp74 => ?_)
    obtain ⟨rfl, rfl, -⟩ := hp74
    refine am_sg (bn [50] σ) rfl ?_
    refine am_iload (x := 4) X (by rfl) dX0_from_77 ?_
    refine am_if_ne (tgt := 96) X dX0_from_79 (by decide) (fun _ => ?_) (fun h => absurd h (by decide))
    refine am_aload_n (x := 46) X (by rfl) dX0_from_96 ?_
    refine am_iload (x := 50) X (by rfl) dX0_from_97 ?_
    refine am_gsABOVE X gs_X0_26 dX0_from_99 ?_
    refine am_iload (x := 4) X (by rfl) dX0_from_102 ?_
    refine am_ldABOVE X (by decide) (by decide) (by unfold R32; decide) dX0_from_104 ?_
    show am_G K 105 [some (vr 46), some (vi 4), some (vi 2), some (vi x), some (vi dp), some (vi 4), some (vi 50)] [vi 1, vi 50, vr 46] SH (bn [50] σ)
    refine am_iload_n (x := x) X (by rfl) dX0_from_105 ?_
    refine am_iload (x := dp) X (by rfl) dX0_from_106 ?_
    refine am_ic X (by decide) dX0_from_108 ?_
    refine am_add (v := (dp + 1)) X (by first | rfl | omega) (by omega) dX0_from_109 ?_
    refine am_callVi (ci := 0) X hY lk_X0_50 mf_X0_runUnderDay (H1.2 x (dp + 1) ac (bn [50] σ) (by omega) (by omega) ((bn_at [50] (by decide) (Or.inr (by decide))).trans hac) hac2 ((bn_at [50] (by decide) (Or.inl (by decide))).trans hK) (by rw [bn_3]; simp only [List.length_cons, List.length_append, List.length_nil] at hr ⊢; omega)) (by omega) (by decide) (Nat.le_refl _) (Nat.le_refl _) sh_46 rfl rfl rfl (Nat.le_of_ble_eq_true rfl) dX0_from_110 (fun r110 sh110 σ110 hr110 hp110 => ?_)
    obtain ⟨rfl, rfl, hq110⟩ := hp110
    refine am_sg (bn ([50] ++ l1) σ) (bn_app _ _ _) ?_
    exact hret _ _ _ _ _ dX0_from_113 rfl rfl (by subst_vars; exact ⟨rfl, by first | rfl | (simp only [List.cons_append, List.nil_append, List.append_assoc]), rfl⟩)
  · skip
    (exfalso; omega)

set_option maxHeartbeats 4000000 in
set_option maxRecDepth 100000 in
theorem gf4_3 {kd : Int}  {d1 h1 : Nat} {l1 : List Int} {v1 : Int → Int → Int} (H1 : bCr 2 kd d1 h1 l1 v1) (x dp : Int) (ac : Nat) (σ : am_H) (hdp : 0 ≤ dp) (hdh : dp + (((h1 + 1) : Nat) : Int) ≤ 40) (hac : σ 46 4 = (ac : Int)) (hac2 : ac < 50) (hK : σ 47 ac = kd) (hr : 0 ≤ σ 46 3 ∧ σ 46 3 + ((2 :: l1).length : Int) ≤ 1000) : am_Mi yX0_from cX0_from 7 (some .int) (d1 + 1) 0 0 [vr 46, vi 4, vi 3, vi x, vi dp] SH σ (fun r sh' σ' => SH = sh' ∧ bn (2 :: l1) σ = σ' ∧ r = v1 x (ac : Int)) := by
  refine am_Mi_of (by decide +kernel) (Nat.le_of_ble_eq_true rfl) (fun K X hY hI hret => ?_)
  show am_G K 0 [some (vr 46), some (vi 4), some (vi 3), some (vi x), some (vi dp), none, none] [] SH σ
  refine am_iload_n (x := 4) X (by rfl) dX0_from_0 ?_
  refine am_istore (i := 5) (L' := [some (vr 46), some (vi 4), some (vi 3), some (vi x), some (vi dp), some (vi 4), none]) X (Nat.le_of_ble_eq_true rfl) (by rfl) dX0_from_1 ?_
  refine am_ic X (by decide) dX0_from_3 ?_
  refine am_istore (i := 6) (L' := [some (vr 46), some (vi 4), some (vi 3), some (vi x), some (vi dp), some (vi 4), some (vi 0)]) X (Nat.le_of_ble_eq_true rfl) (by rfl) dX0_from_4 ?_
  refine am_iload (x := 0) X (by rfl) dX0_from_6 ?_
  refine am_bipush X (by decide) dX0_from_8 ?_
  refine am_icmp_ge (tgt := 45) X dX0_from_10 (by decide) (fun h => absurd h (by decide)) (fun _ => ?_)
  refine am_iload (x := 4) X (by rfl) dX0_from_13 ?_
  refine am_if_le (tgt := 45) X dX0_from_15 (by decide) (fun h => absurd h (by decide)) (fun _ => ?_)
  refine am_gsOWN X gs_X0_40 dX0_from_18 ?_
  refine am_iload (x := 4) X (by rfl) dX0_from_21 ?_
  refine am_ic X (by decide) dX0_from_23 ?_
  refine am_mul (v := 16) X (by first | rfl | omega) (by omega) dX0_from_24 ?_
  refine am_iload_n (x := 3) X (by rfl) dX0_from_25 ?_
  refine am_add (v := 19) X (by first | rfl | omega) (by omega) dX0_from_26 ?_
  refine am_ldOWN X (by decide) (by decide) (by unfold R32; decide) dX0_from_27 ?_
  show am_G K 28 [some (vr 46), some (vi 4), some (vi 3), some (vi x), some (vi dp), some (vi 4), some (vi 0)] [vi 0] SH σ
  refine am_if_ne (tgt := 45) X dX0_from_28 (by decide) (fun h => absurd h (by decide)) (fun _ => ?_)
  refine am_gsABOVE X gs_X0_26 dX0_from_31 ?_
  refine am_iload (x := 4) X (by rfl) dX0_from_34 ?_
  refine am_ldABOVE X (by decide) (by decide) (by unfold R32; decide) dX0_from_36 ?_
  show am_G K 37 [some (vr 46), some (vi 4), some (vi 3), some (vi x), some (vi dp), some (vi 4), some (vi 0)] [vi 1] SH σ
  refine am_istore (i := 5) (L' := [some (vr 46), some (vi 4), some (vi 3), some (vi x), some (vi dp), some (vi 1), some (vi 0)]) X (Nat.le_of_ble_eq_true rfl) (by rfl) dX0_from_37 ?_
  refine am_inc (x := 0) (v := 1) (L' := [some (vr 46), some (vi 4), some (vi 3), some (vi x), some (vi dp), some (vi 1), some (vi 1)]) X (by rfl) (by omega) (by omega) (by rfl) dX0_from_39 ?_
  refine am_goto (tgt := 6) X dX0_from_42 (by decide) ?_
  refine am_iload (x := 1) X (by rfl) dX0_from_6 ?_
  refine am_bipush X (by decide) dX0_from_8 ?_
  refine am_icmp_ge (tgt := 45) X dX0_from_10 (by decide) (fun h => absurd h (by decide)) (fun _ => ?_)
  refine am_iload (x := 1) X (by rfl) dX0_from_13 ?_
  refine am_if_le (tgt := 45) X dX0_from_15 (by decide) (fun h => absurd h (by decide)) (fun _ => ?_)
  refine am_gsOWN X gs_X0_40 dX0_from_18 ?_
  refine am_iload (x := 1) X (by rfl) dX0_from_21 ?_
  refine am_ic X (by decide) dX0_from_23 ?_
  refine am_mul (v := 4) X (by first | rfl | omega) (by omega) dX0_from_24 ?_
  refine am_iload_n (x := 3) X (by rfl) dX0_from_25 ?_
  refine am_add (v := 7) X (by first | rfl | omega) (by omega) dX0_from_26 ?_
  refine am_ldOWN X (by decide) (by decide) (by unfold R32; decide) dX0_from_27 ?_
  show am_G K 28 [some (vr 46), some (vi 4), some (vi 3), some (vi x), some (vi dp), some (vi 1), some (vi 1)] [vi 0] SH σ
  refine am_if_ne (tgt := 45) X dX0_from_28 (by decide) (fun h => absurd h (by decide)) (fun _ => ?_)
  refine am_gsABOVE X gs_X0_26 dX0_from_31 ?_
  refine am_iload (x := 1) X (by rfl) dX0_from_34 ?_
  refine am_ldABOVE X (by decide) (by decide) (by unfold R32; decide) dX0_from_36 ?_
  show am_G K 37 [some (vr 46), some (vi 4), some (vi 3), some (vi x), some (vi dp), some (vi 1), some (vi 1)] [vi 0] SH σ
  refine am_istore (i := 5) (L' := [some (vr 46), some (vi 4), some (vi 3), some (vi x), some (vi dp), some (vi 0), some (vi 1)]) X (Nat.le_of_ble_eq_true rfl) (by rfl) dX0_from_37 ?_
  refine am_inc (x := 1) (v := 2) (L' := [some (vr 46), some (vi 4), some (vi 3), some (vi x), some (vi dp), some (vi 0), some (vi 2)]) X (by rfl) (by omega) (by omega) (by rfl) dX0_from_39 ?_
  refine am_goto (tgt := 6) X dX0_from_42 (by decide) ?_
  refine am_iload (x := 2) X (by rfl) dX0_from_6 ?_
  refine am_bipush X (by decide) dX0_from_8 ?_
  refine am_icmp_ge (tgt := 45) X dX0_from_10 (by decide) (fun h => absurd h (by decide)) (fun _ => ?_)
  refine am_iload (x := 0) X (by rfl) dX0_from_13 ?_
  refine am_if_le (tgt := 45) X dX0_from_15 (by decide) (fun _ => ?_) (fun h => absurd h (by decide))
  refine am_iload (x := 0) X (by rfl) dX0_from_45 ?_
  refine am_if_lt (tgt := 57) X dX0_from_47 (by decide) (fun h => absurd h (by decide)) (fun _ => ?_)
  refine am_iload (x := dp) X (by rfl) dX0_from_50 ?_
  refine am_bipush X (by decide) dX0_from_52 ?_
  refine am_icmp_le (tgt := 59) X dX0_from_54 (by decide) (fun h54 => ?_) (fun h54 => ?_)
  · skip
    refine am_gsOWN X gs_X0_40 dX0_from_59 ?_
    refine am_iload (x := 0) X (by rfl) dX0_from_62 ?_
    refine am_ic X (by decide) dX0_from_64 ?_
    refine am_mul (v := 0) X (by first | rfl | omega) (by omega) dX0_from_65 ?_
    refine am_iload_n (x := 3) X (by rfl) dX0_from_66 ?_
    refine am_add (v := 3) X (by first | rfl | omega) (by omega) dX0_from_67 ?_
    refine am_ldOWN X (by decide) (by decide) (by unfold R32; decide) dX0_from_68 ?_
    show am_G K 69 [some (vr 46), some (vi 4), some (vi 3), some (vi x), some (vi dp), some (vi 0), some (vi 2)] [vi 2] SH σ
    refine am_istore (i := 6) (L' := [some (vr 46), some (vi 4), some (vi 3), some (vi x), some (vi dp), some (vi 0), some (vi 2)]) X (Nat.le_of_ble_eq_true rfl) (by rfl) dX0_from_69 ?_
    refine am_aload_n (x := 46) X (by rfl) dX0_from_71 ?_
    refine am_iload (x := 2) X (by rfl) dX0_from_72 ?_
    refine am_callVv (ci := 0) X hY lk_X0_43 mf_X0_note (m_X0_note 2 σ (by omega)) (by omega) (by decide) (Nat.le_refl _) (Nat.le_refl _) sh_46 rfl rfl rfl (Nat.le_of_ble_eq_true rfl) dX0_from_74 (fun sh74 σ74 hp74 => ?_)
    obtain ⟨rfl, rfl, -⟩ := hp74
    refine am_sg (bn [2] σ) rfl ?_
    refine am_iload (x := 0) X (by rfl) dX0_from_77 ?_
    refine am_if_ne (tgt := 96) X dX0_from_79 (by decide) (fun h => absurd h (by decide)) (fun _ => ?_)
    refine am_aload_n (x := 46) X (by rfl) dX0_from_82 ?_
    refine am_iload (x := 2) X (by rfl) dX0_from_83 ?_
    refine am_iload_n (x := x) X (by rfl) dX0_from_85 ?_
    refine am_iload (x := dp) X (by rfl) dX0_from_86 ?_
    refine am_ic X (by decide) dX0_from_88 ?_
    refine am_add (v := (dp + 1)) X (by first | rfl | omega) (by omega) dX0_from_89 ?_
    refine am_callVi (ci := 0) X hY lk_X0_47 mf_X0_runOfDay (H1.2 x (dp + 1) ac (bn [2] σ) (by omega) (by omega) ((bn_at [2] (by decide) (Or.inr (by decide))).trans hac) hac2 ((bn_at [2] (by decide) (Or.inl (by decide))).trans hK) (by rw [bn_3]; simp only [List.length_cons, List.length_append, List.length_nil] at hr ⊢; omega)) (by omega) (by decide) (Nat.le_refl _) (Nat.le_refl _) sh_46 rfl rfl rfl (Nat.le_of_ble_eq_true rfl) dX0_from_90 (fun r90 sh90 σ90 hr90 hp90 => ?_)
    obtain ⟨rfl, rfl, hq90⟩ := hp90
    refine am_sg (bn ([2] ++ l1) σ) (bn_app _ _ _) ?_
    refine am_goto (tgt := 113) X dX0_from_93 (by decide) ?_
    exact hret _ _ _ _ _ dX0_from_113 rfl rfl (by subst_vars; exact ⟨rfl, by first | rfl | (simp only [List.cons_append, List.nil_append, List.append_assoc]), rfl⟩)
  · skip
    (exfalso; omega)

set_option maxHeartbeats 4000000 in
set_option maxRecDepth 100000 in
theorem gf5_0 {kd : Int}  {d1 h1 : Nat} {l1 : List Int} {v1 : Int → Int → Int} (H1 : bCr 1 kd d1 h1 l1 v1) (x dp : Int) (ac : Nat) (σ : am_H) (hdp : 0 ≤ dp) (hdh : dp + (((h1 + 1) : Nat) : Int) ≤ 40) (hac : σ 46 4 = (ac : Int)) (hac2 : ac < 50) (hK : σ 47 ac = kd) (hr : 0 ≤ σ 46 3 ∧ σ 46 3 + ((1 :: l1).length : Int) ≤ 1000) : am_Mi yX0_from cX0_from 7 (some .int) (d1 + 1) 0 0 [vr 46, vi 5, vi 0, vi x, vi dp] SH σ (fun r sh' σ' => SH = sh' ∧ bn (1 :: l1) σ = σ' ∧ r = v1 x (ac : Int)) := by
  refine am_Mi_of (by decide +kernel) (Nat.le_of_ble_eq_true rfl) (fun K X hY hI hret => ?_)
  show am_G K 0 [some (vr 46), some (vi 5), some (vi 0), some (vi x), some (vi dp), none, none] [] SH σ
  refine am_iload_n (x := 5) X (by rfl) dX0_from_0 ?_
  refine am_istore (i := 5) (L' := [some (vr 46), some (vi 5), some (vi 0), some (vi x), some (vi dp), some (vi 5), none]) X (Nat.le_of_ble_eq_true rfl) (by rfl) dX0_from_1 ?_
  refine am_ic X (by decide) dX0_from_3 ?_
  refine am_istore (i := 6) (L' := [some (vr 46), some (vi 5), some (vi 0), some (vi x), some (vi dp), some (vi 5), some (vi 0)]) X (Nat.le_of_ble_eq_true rfl) (by rfl) dX0_from_4 ?_
  refine am_iload (x := 0) X (by rfl) dX0_from_6 ?_
  refine am_bipush X (by decide) dX0_from_8 ?_
  refine am_icmp_ge (tgt := 45) X dX0_from_10 (by decide) (fun h => absurd h (by decide)) (fun _ => ?_)
  refine am_iload (x := 5) X (by rfl) dX0_from_13 ?_
  refine am_if_le (tgt := 45) X dX0_from_15 (by decide) (fun h => absurd h (by decide)) (fun _ => ?_)
  refine am_gsOWN X gs_X0_40 dX0_from_18 ?_
  refine am_iload (x := 5) X (by rfl) dX0_from_21 ?_
  refine am_ic X (by decide) dX0_from_23 ?_
  refine am_mul (v := 20) X (by first | rfl | omega) (by omega) dX0_from_24 ?_
  refine am_iload_n (x := 0) X (by rfl) dX0_from_25 ?_
  refine am_add (v := 20) X (by first | rfl | omega) (by omega) dX0_from_26 ?_
  refine am_ldOWN X (by decide) (by decide) (by unfold R32; decide) dX0_from_27 ?_
  show am_G K 28 [some (vr 46), some (vi 5), some (vi 0), some (vi x), some (vi dp), some (vi 5), some (vi 0)] [vi 0] SH σ
  refine am_if_ne (tgt := 45) X dX0_from_28 (by decide) (fun h => absurd h (by decide)) (fun _ => ?_)
  refine am_gsABOVE X gs_X0_26 dX0_from_31 ?_
  refine am_iload (x := 5) X (by rfl) dX0_from_34 ?_
  refine am_ldABOVE X (by decide) (by decide) (by unfold R32; decide) dX0_from_36 ?_
  show am_G K 37 [some (vr 46), some (vi 5), some (vi 0), some (vi x), some (vi dp), some (vi 5), some (vi 0)] [vi 3] SH σ
  refine am_istore (i := 5) (L' := [some (vr 46), some (vi 5), some (vi 0), some (vi x), some (vi dp), some (vi 3), some (vi 0)]) X (Nat.le_of_ble_eq_true rfl) (by rfl) dX0_from_37 ?_
  refine am_inc (x := 0) (v := 1) (L' := [some (vr 46), some (vi 5), some (vi 0), some (vi x), some (vi dp), some (vi 3), some (vi 1)]) X (by rfl) (by omega) (by omega) (by rfl) dX0_from_39 ?_
  refine am_goto (tgt := 6) X dX0_from_42 (by decide) ?_
  refine am_iload (x := 1) X (by rfl) dX0_from_6 ?_
  refine am_bipush X (by decide) dX0_from_8 ?_
  refine am_icmp_ge (tgt := 45) X dX0_from_10 (by decide) (fun h => absurd h (by decide)) (fun _ => ?_)
  refine am_iload (x := 3) X (by rfl) dX0_from_13 ?_
  refine am_if_le (tgt := 45) X dX0_from_15 (by decide) (fun h => absurd h (by decide)) (fun _ => ?_)
  refine am_gsOWN X gs_X0_40 dX0_from_18 ?_
  refine am_iload (x := 3) X (by rfl) dX0_from_21 ?_
  refine am_ic X (by decide) dX0_from_23 ?_
  refine am_mul (v := 12) X (by first | rfl | omega) (by omega) dX0_from_24 ?_
  refine am_iload_n (x := 0) X (by rfl) dX0_from_25 ?_
  refine am_add (v := 12) X (by first | rfl | omega) (by omega) dX0_from_26 ?_
  refine am_ldOWN X (by decide) (by decide) (by unfold R32; decide) dX0_from_27 ?_
  show am_G K 28 [some (vr 46), some (vi 5), some (vi 0), some (vi x), some (vi dp), some (vi 3), some (vi 1)] [vi 0] SH σ
  refine am_if_ne (tgt := 45) X dX0_from_28 (by decide) (fun h => absurd h (by decide)) (fun _ => ?_)
  refine am_gsABOVE X gs_X0_26 dX0_from_31 ?_
  refine am_iload (x := 3) X (by rfl) dX0_from_34 ?_
  refine am_ldABOVE X (by decide) (by decide) (by unfold R32; decide) dX0_from_36 ?_
  show am_G K 37 [some (vr 46), some (vi 5), some (vi 0), some (vi x), some (vi dp), some (vi 3), some (vi 1)] [vi 2] SH σ
  refine am_istore (i := 5) (L' := [some (vr 46), some (vi 5), some (vi 0), some (vi x), some (vi dp), some (vi 2), some (vi 1)]) X (Nat.le_of_ble_eq_true rfl) (by rfl) dX0_from_37 ?_
  refine am_inc (x := 1) (v := 2) (L' := [some (vr 46), some (vi 5), some (vi 0), some (vi x), some (vi dp), some (vi 2), some (vi 2)]) X (by rfl) (by omega) (by omega) (by rfl) dX0_from_39 ?_
  refine am_goto (tgt := 6) X dX0_from_42 (by decide) ?_
  refine am_iload (x := 2) X (by rfl) dX0_from_6 ?_
  refine am_bipush X (by decide) dX0_from_8 ?_
  refine am_icmp_ge (tgt := 45) X dX0_from_10 (by decide) (fun h => absurd h (by decide)) (fun _ => ?_)
  refine am_iload (x := 2) X (by rfl) dX0_from_13 ?_
  refine am_if_le (tgt := 45) X dX0_from_15 (by decide) (fun h => absurd h (by decide)) (fun _ => ?_)
  refine am_gsOWN X gs_X0_40 dX0_from_18 ?_
  refine am_iload (x := 2) X (by rfl) dX0_from_21 ?_
  refine am_ic X (by decide) dX0_from_23 ?_
  refine am_mul (v := 8) X (by first | rfl | omega) (by omega) dX0_from_24 ?_
  refine am_iload_n (x := 0) X (by rfl) dX0_from_25 ?_
  refine am_add (v := 8) X (by first | rfl | omega) (by omega) dX0_from_26 ?_
  refine am_ldOWN X (by decide) (by decide) (by unfold R32; decide) dX0_from_27 ?_
  show am_G K 28 [some (vr 46), some (vi 5), some (vi 0), some (vi x), some (vi dp), some (vi 2), some (vi 2)] [vi 0] SH σ
  refine am_if_ne (tgt := 45) X dX0_from_28 (by decide) (fun h => absurd h (by decide)) (fun _ => ?_)
  refine am_gsABOVE X gs_X0_26 dX0_from_31 ?_
  refine am_iload (x := 2) X (by rfl) dX0_from_34 ?_
  refine am_ldABOVE X (by decide) (by decide) (by unfold R32; decide) dX0_from_36 ?_
  show am_G K 37 [some (vr 46), some (vi 5), some (vi 0), some (vi x), some (vi dp), some (vi 2), some (vi 2)] [vi 0] SH σ
  refine am_istore (i := 5) (L' := [some (vr 46), some (vi 5), some (vi 0), some (vi x), some (vi dp), some (vi 0), some (vi 2)]) X (Nat.le_of_ble_eq_true rfl) (by rfl) dX0_from_37 ?_
  refine am_inc (x := 2) (v := 3) (L' := [some (vr 46), some (vi 5), some (vi 0), some (vi x), some (vi dp), some (vi 0), some (vi 3)]) X (by rfl) (by omega) (by omega) (by rfl) dX0_from_39 ?_
  refine am_goto (tgt := 6) X dX0_from_42 (by decide) ?_
  refine am_iload (x := 3) X (by rfl) dX0_from_6 ?_
  refine am_bipush X (by decide) dX0_from_8 ?_
  refine am_icmp_ge (tgt := 45) X dX0_from_10 (by decide) (fun h => absurd h (by decide)) (fun _ => ?_)
  refine am_iload (x := 0) X (by rfl) dX0_from_13 ?_
  refine am_if_le (tgt := 45) X dX0_from_15 (by decide) (fun _ => ?_) (fun h => absurd h (by decide))
  refine am_iload (x := 0) X (by rfl) dX0_from_45 ?_
  refine am_if_lt (tgt := 57) X dX0_from_47 (by decide) (fun h => absurd h (by decide)) (fun _ => ?_)
  refine am_iload (x := dp) X (by rfl) dX0_from_50 ?_
  refine am_bipush X (by decide) dX0_from_52 ?_
  refine am_icmp_le (tgt := 59) X dX0_from_54 (by decide) (fun h54 => ?_) (fun h54 => ?_)
  · skip
    refine am_gsOWN X gs_X0_40 dX0_from_59 ?_
    refine am_iload (x := 0) X (by rfl) dX0_from_62 ?_
    refine am_ic X (by decide) dX0_from_64 ?_
    refine am_mul (v := 0) X (by first | rfl | omega) (by omega) dX0_from_65 ?_
    refine am_iload_n (x := 0) X (by rfl) dX0_from_66 ?_
    refine am_add (v := 0) X (by first | rfl | omega) (by omega) dX0_from_67 ?_
    refine am_ldOWN X (by decide) (by decide) (by unfold R32; decide) dX0_from_68 ?_
    show am_G K 69 [some (vr 46), some (vi 5), some (vi 0), some (vi x), some (vi dp), some (vi 0), some (vi 3)] [vi 1] SH σ
    refine am_istore (i := 6) (L' := [some (vr 46), some (vi 5), some (vi 0), some (vi x), some (vi dp), some (vi 0), some (vi 1)]) X (Nat.le_of_ble_eq_true rfl) (by rfl) dX0_from_69 ?_
    refine am_aload_n (x := 46) X (by rfl) dX0_from_71 ?_
    refine am_iload (x := 1) X (by rfl) dX0_from_72 ?_
    refine am_callVv (ci := 0) X hY lk_X0_43 mf_X0_note (m_X0_note 1 σ (by omega)) (by omega) (by decide) (Nat.le_refl _) (Nat.le_refl _) sh_46 rfl rfl rfl (Nat.le_of_ble_eq_true rfl) dX0_from_74 (fun sh74 σ74 hp74 => ?_)
    obtain ⟨rfl, rfl, -⟩ := hp74
    refine am_sg (bn [1] σ) rfl ?_
    refine am_iload (x := 0) X (by rfl) dX0_from_77 ?_
    refine am_if_ne (tgt := 96) X dX0_from_79 (by decide) (fun h => absurd h (by decide)) (fun _ => ?_)
    refine am_aload_n (x := 46) X (by rfl) dX0_from_82 ?_
    refine am_iload (x := 1) X (by rfl) dX0_from_83 ?_
    refine am_iload_n (x := x) X (by rfl) dX0_from_85 ?_
    refine am_iload (x := dp) X (by rfl) dX0_from_86 ?_
    refine am_ic X (by decide) dX0_from_88 ?_
    refine am_add (v := (dp + 1)) X (by first | rfl | omega) (by omega) dX0_from_89 ?_
    refine am_callVi (ci := 0) X hY lk_X0_47 mf_X0_runOfDay (H1.2 x (dp + 1) ac (bn [1] σ) (by omega) (by omega) ((bn_at [1] (by decide) (Or.inr (by decide))).trans hac) hac2 ((bn_at [1] (by decide) (Or.inl (by decide))).trans hK) (by rw [bn_3]; simp only [List.length_cons, List.length_append, List.length_nil] at hr ⊢; omega)) (by omega) (by decide) (Nat.le_refl _) (Nat.le_refl _) sh_46 rfl rfl rfl (Nat.le_of_ble_eq_true rfl) dX0_from_90 (fun r90 sh90 σ90 hr90 hp90 => ?_)
    obtain ⟨rfl, rfl, hq90⟩ := hp90
    refine am_sg (bn ([1] ++ l1) σ) (bn_app _ _ _) ?_
    refine am_goto (tgt := 113) X dX0_from_93 (by decide) ?_
    exact hret _ _ _ _ _ dX0_from_113 rfl rfl (by subst_vars; exact ⟨rfl, by first | rfl | (simp only [List.cons_append, List.nil_append, List.append_assoc]), rfl⟩)
  · skip
    (exfalso; omega)

set_option maxHeartbeats 4000000 in
set_option maxRecDepth 100000 in
theorem gf5_1 {kd : Int}  {d1 h1 : Nat} {l1 : List Int} {v1 : Int → Int → Int} (H1 : bCu 41 2 kd d1 h1 l1 v1) (x dp : Int) (ac : Nat) (σ : am_H) (hdp : 0 ≤ dp) (hdh : dp + (((h1 + 1) : Nat) : Int) ≤ 40) (hac : σ 46 4 = (ac : Int)) (hac2 : ac < 50) (hK : σ 47 ac = kd) (hr : 0 ≤ σ 46 3 ∧ σ 46 3 + ((41 :: l1).length : Int) ≤ 1000) : am_Mi yX0_from cX0_from 7 (some .int) (d1 + 1) 0 0 [vr 46, vi 5, vi 1, vi x, vi dp] SH σ (fun r sh' σ' => SH = sh' ∧ bn (41 :: l1) σ = σ' ∧ r = v1 x (ac : Int)) := by
  refine am_Mi_of (by decide +kernel) (Nat.le_of_ble_eq_true rfl) (fun K X hY hI hret => ?_)
  show am_G K 0 [some (vr 46), some (vi 5), some (vi 1), some (vi x), some (vi dp), none, none] [] SH σ
  refine am_iload_n (x := 5) X (by rfl) dX0_from_0 ?_
  refine am_istore (i := 5) (L' := [some (vr 46), some (vi 5), some (vi 1), some (vi x), some (vi dp), some (vi 5), none]) X (Nat.le_of_ble_eq_true rfl) (by rfl) dX0_from_1 ?_
  refine am_ic X (by decide) dX0_from_3 ?_
  refine am_istore (i := 6) (L' := [some (vr 46), some (vi 5), some (vi 1), some (vi x), some (vi dp), some (vi 5), some (vi 0)]) X (Nat.le_of_ble_eq_true rfl) (by rfl) dX0_from_4 ?_
  refine am_iload (x := 0) X (by rfl) dX0_from_6 ?_
  refine am_bipush X (by decide) dX0_from_8 ?_
  refine am_icmp_ge (tgt := 45) X dX0_from_10 (by decide) (fun h => absurd h (by decide)) (fun _ => ?_)
  refine am_iload (x := 5) X (by rfl) dX0_from_13 ?_
  refine am_if_le (tgt := 45) X dX0_from_15 (by decide) (fun h => absurd h (by decide)) (fun _ => ?_)
  refine am_gsOWN X gs_X0_40 dX0_from_18 ?_
  refine am_iload (x := 5) X (by rfl) dX0_from_21 ?_
  refine am_ic X (by decide) dX0_from_23 ?_
  refine am_mul (v := 20) X (by first | rfl | omega) (by omega) dX0_from_24 ?_
  refine am_iload_n (x := 1) X (by rfl) dX0_from_25 ?_
  refine am_add (v := 21) X (by first | rfl | omega) (by omega) dX0_from_26 ?_
  refine am_ldOWN X (by decide) (by decide) (by unfold R32; decide) dX0_from_27 ?_
  show am_G K 28 [some (vr 46), some (vi 5), some (vi 1), some (vi x), some (vi dp), some (vi 5), some (vi 0)] [vi 0] SH σ
  refine am_if_ne (tgt := 45) X dX0_from_28 (by decide) (fun h => absurd h (by decide)) (fun _ => ?_)
  refine am_gsABOVE X gs_X0_26 dX0_from_31 ?_
  refine am_iload (x := 5) X (by rfl) dX0_from_34 ?_
  refine am_ldABOVE X (by decide) (by decide) (by unfold R32; decide) dX0_from_36 ?_
  show am_G K 37 [some (vr 46), some (vi 5), some (vi 1), some (vi x), some (vi dp), some (vi 5), some (vi 0)] [vi 3] SH σ
  refine am_istore (i := 5) (L' := [some (vr 46), some (vi 5), some (vi 1), some (vi x), some (vi dp), some (vi 3), some (vi 0)]) X (Nat.le_of_ble_eq_true rfl) (by rfl) dX0_from_37 ?_
  refine am_inc (x := 0) (v := 1) (L' := [some (vr 46), some (vi 5), some (vi 1), some (vi x), some (vi dp), some (vi 3), some (vi 1)]) X (by rfl) (by omega) (by omega) (by rfl) dX0_from_39 ?_
  refine am_goto (tgt := 6) X dX0_from_42 (by decide) ?_
  refine am_iload (x := 1) X (by rfl) dX0_from_6 ?_
  refine am_bipush X (by decide) dX0_from_8 ?_
  refine am_icmp_ge (tgt := 45) X dX0_from_10 (by decide) (fun h => absurd h (by decide)) (fun _ => ?_)
  refine am_iload (x := 3) X (by rfl) dX0_from_13 ?_
  refine am_if_le (tgt := 45) X dX0_from_15 (by decide) (fun h => absurd h (by decide)) (fun _ => ?_)
  refine am_gsOWN X gs_X0_40 dX0_from_18 ?_
  refine am_iload (x := 3) X (by rfl) dX0_from_21 ?_
  refine am_ic X (by decide) dX0_from_23 ?_
  refine am_mul (v := 12) X (by first | rfl | omega) (by omega) dX0_from_24 ?_
  refine am_iload_n (x := 1) X (by rfl) dX0_from_25 ?_
  refine am_add (v := 13) X (by first | rfl | omega) (by omega) dX0_from_26 ?_
  refine am_ldOWN X (by decide) (by decide) (by unfold R32; decide) dX0_from_27 ?_
  show am_G K 28 [some (vr 46), some (vi 5), some (vi 1), some (vi x), some (vi dp), some (vi 3), some (vi 1)] [vi 41] SH σ
  refine am_if_ne (tgt := 45) X dX0_from_28 (by decide) (fun _ => ?_) (fun h => absurd h (by decide))
  refine am_iload (x := 3) X (by rfl) dX0_from_45 ?_
  refine am_if_lt (tgt := 57) X dX0_from_47 (by decide) (fun h => absurd h (by decide)) (fun _ => ?_)
  refine am_iload (x := dp) X (by rfl) dX0_from_50 ?_
  refine am_bipush X (by decide) dX0_from_52 ?_
  refine am_icmp_le (tgt := 59) X dX0_from_54 (by decide) (fun h54 => ?_) (fun h54 => ?_)
  · skip
    refine am_gsOWN X gs_X0_40 dX0_from_59 ?_
    refine am_iload (x := 3) X (by rfl) dX0_from_62 ?_
    refine am_ic X (by decide) dX0_from_64 ?_
    refine am_mul (v := 12) X (by first | rfl | omega) (by omega) dX0_from_65 ?_
    refine am_iload_n (x := 1) X (by rfl) dX0_from_66 ?_
    refine am_add (v := 13) X (by first | rfl | omega) (by omega) dX0_from_67 ?_
    refine am_ldOWN X (by decide) (by decide) (by unfold R32; decide) dX0_from_68 ?_
    show am_G K 69 [some (vr 46), some (vi 5), some (vi 1), some (vi x), some (vi dp), some (vi 3), some (vi 1)] [vi 41] SH σ
    refine am_istore (i := 6) (L' := [some (vr 46), some (vi 5), some (vi 1), some (vi x), some (vi dp), some (vi 3), some (vi 41)]) X (Nat.le_of_ble_eq_true rfl) (by rfl) dX0_from_69 ?_
    refine am_aload_n (x := 46) X (by rfl) dX0_from_71 ?_
    refine am_iload (x := 41) X (by rfl) dX0_from_72 ?_
    refine am_callVv (ci := 0) X hY lk_X0_43 mf_X0_note (m_X0_note 41 σ (by omega)) (by omega) (by decide) (Nat.le_refl _) (Nat.le_refl _) sh_46 rfl rfl rfl (Nat.le_of_ble_eq_true rfl) dX0_from_74 (fun sh74 σ74 hp74 => ?_)
    obtain ⟨rfl, rfl, -⟩ := hp74
    refine am_sg (bn [41] σ) rfl ?_
    refine am_iload (x := 3) X (by rfl) dX0_from_77 ?_
    refine am_if_ne (tgt := 96) X dX0_from_79 (by decide) (fun _ => ?_) (fun h => absurd h (by decide))
    refine am_aload_n (x := 46) X (by rfl) dX0_from_96 ?_
    refine am_iload (x := 41) X (by rfl) dX0_from_97 ?_
    refine am_gsABOVE X gs_X0_26 dX0_from_99 ?_
    refine am_iload (x := 3) X (by rfl) dX0_from_102 ?_
    refine am_ldABOVE X (by decide) (by decide) (by unfold R32; decide) dX0_from_104 ?_
    show am_G K 105 [some (vr 46), some (vi 5), some (vi 1), some (vi x), some (vi dp), some (vi 3), some (vi 41)] [vi 2, vi 41, vr 46] SH (bn [41] σ)
    refine am_iload_n (x := x) X (by rfl) dX0_from_105 ?_
    refine am_iload (x := dp) X (by rfl) dX0_from_106 ?_
    refine am_ic X (by decide) dX0_from_108 ?_
    refine am_add (v := (dp + 1)) X (by first | rfl | omega) (by omega) dX0_from_109 ?_
    refine am_callVi (ci := 0) X hY lk_X0_50 mf_X0_runUnderDay (H1.2 x (dp + 1) ac (bn [41] σ) (by omega) (by omega) ((bn_at [41] (by decide) (Or.inr (by decide))).trans hac) hac2 ((bn_at [41] (by decide) (Or.inl (by decide))).trans hK) (by rw [bn_3]; simp only [List.length_cons, List.length_append, List.length_nil] at hr ⊢; omega)) (by omega) (by decide) (Nat.le_refl _) (Nat.le_refl _) sh_46 rfl rfl rfl (Nat.le_of_ble_eq_true rfl) dX0_from_110 (fun r110 sh110 σ110 hr110 hp110 => ?_)
    obtain ⟨rfl, rfl, hq110⟩ := hp110
    refine am_sg (bn ([41] ++ l1) σ) (bn_app _ _ _) ?_
    exact hret _ _ _ _ _ dX0_from_113 rfl rfl (by subst_vars; exact ⟨rfl, by first | rfl | (simp only [List.cons_append, List.nil_append, List.append_assoc]), rfl⟩)
  · skip
    (exfalso; omega)

set_option maxHeartbeats 4000000 in
set_option maxRecDepth 100000 in
theorem gf5_2 {kd : Int}  {d1 h1 : Nat} {l1 : List Int} {v1 : Int → Int → Int} (H1 : bCu 40 2 kd d1 h1 l1 v1) (x dp : Int) (ac : Nat) (σ : am_H) (hdp : 0 ≤ dp) (hdh : dp + (((h1 + 1) : Nat) : Int) ≤ 40) (hac : σ 46 4 = (ac : Int)) (hac2 : ac < 50) (hK : σ 47 ac = kd) (hr : 0 ≤ σ 46 3 ∧ σ 46 3 + ((40 :: l1).length : Int) ≤ 1000) : am_Mi yX0_from cX0_from 7 (some .int) (d1 + 1) 0 0 [vr 46, vi 5, vi 2, vi x, vi dp] SH σ (fun r sh' σ' => SH = sh' ∧ bn (40 :: l1) σ = σ' ∧ r = v1 x (ac : Int)) := by
  refine am_Mi_of (by decide +kernel) (Nat.le_of_ble_eq_true rfl) (fun K X hY hI hret => ?_)
  show am_G K 0 [some (vr 46), some (vi 5), some (vi 2), some (vi x), some (vi dp), none, none] [] SH σ
  refine am_iload_n (x := 5) X (by rfl) dX0_from_0 ?_
  refine am_istore (i := 5) (L' := [some (vr 46), some (vi 5), some (vi 2), some (vi x), some (vi dp), some (vi 5), none]) X (Nat.le_of_ble_eq_true rfl) (by rfl) dX0_from_1 ?_
  refine am_ic X (by decide) dX0_from_3 ?_
  refine am_istore (i := 6) (L' := [some (vr 46), some (vi 5), some (vi 2), some (vi x), some (vi dp), some (vi 5), some (vi 0)]) X (Nat.le_of_ble_eq_true rfl) (by rfl) dX0_from_4 ?_
  refine am_iload (x := 0) X (by rfl) dX0_from_6 ?_
  refine am_bipush X (by decide) dX0_from_8 ?_
  refine am_icmp_ge (tgt := 45) X dX0_from_10 (by decide) (fun h => absurd h (by decide)) (fun _ => ?_)
  refine am_iload (x := 5) X (by rfl) dX0_from_13 ?_
  refine am_if_le (tgt := 45) X dX0_from_15 (by decide) (fun h => absurd h (by decide)) (fun _ => ?_)
  refine am_gsOWN X gs_X0_40 dX0_from_18 ?_
  refine am_iload (x := 5) X (by rfl) dX0_from_21 ?_
  refine am_ic X (by decide) dX0_from_23 ?_
  refine am_mul (v := 20) X (by first | rfl | omega) (by omega) dX0_from_24 ?_
  refine am_iload_n (x := 2) X (by rfl) dX0_from_25 ?_
  refine am_add (v := 22) X (by first | rfl | omega) (by omega) dX0_from_26 ?_
  refine am_ldOWN X (by decide) (by decide) (by unfold R32; decide) dX0_from_27 ?_
  show am_G K 28 [some (vr 46), some (vi 5), some (vi 2), some (vi x), some (vi dp), some (vi 5), some (vi 0)] [vi 0] SH σ
  refine am_if_ne (tgt := 45) X dX0_from_28 (by decide) (fun h => absurd h (by decide)) (fun _ => ?_)
  refine am_gsABOVE X gs_X0_26 dX0_from_31 ?_
  refine am_iload (x := 5) X (by rfl) dX0_from_34 ?_
  refine am_ldABOVE X (by decide) (by decide) (by unfold R32; decide) dX0_from_36 ?_
  show am_G K 37 [some (vr 46), some (vi 5), some (vi 2), some (vi x), some (vi dp), some (vi 5), some (vi 0)] [vi 3] SH σ
  refine am_istore (i := 5) (L' := [some (vr 46), some (vi 5), some (vi 2), some (vi x), some (vi dp), some (vi 3), some (vi 0)]) X (Nat.le_of_ble_eq_true rfl) (by rfl) dX0_from_37 ?_
  refine am_inc (x := 0) (v := 1) (L' := [some (vr 46), some (vi 5), some (vi 2), some (vi x), some (vi dp), some (vi 3), some (vi 1)]) X (by rfl) (by omega) (by omega) (by rfl) dX0_from_39 ?_
  refine am_goto (tgt := 6) X dX0_from_42 (by decide) ?_
  refine am_iload (x := 1) X (by rfl) dX0_from_6 ?_
  refine am_bipush X (by decide) dX0_from_8 ?_
  refine am_icmp_ge (tgt := 45) X dX0_from_10 (by decide) (fun h => absurd h (by decide)) (fun _ => ?_)
  refine am_iload (x := 3) X (by rfl) dX0_from_13 ?_
  refine am_if_le (tgt := 45) X dX0_from_15 (by decide) (fun h => absurd h (by decide)) (fun _ => ?_)
  refine am_gsOWN X gs_X0_40 dX0_from_18 ?_
  refine am_iload (x := 3) X (by rfl) dX0_from_21 ?_
  refine am_ic X (by decide) dX0_from_23 ?_
  refine am_mul (v := 12) X (by first | rfl | omega) (by omega) dX0_from_24 ?_
  refine am_iload_n (x := 2) X (by rfl) dX0_from_25 ?_
  refine am_add (v := 14) X (by first | rfl | omega) (by omega) dX0_from_26 ?_
  refine am_ldOWN X (by decide) (by decide) (by unfold R32; decide) dX0_from_27 ?_
  show am_G K 28 [some (vr 46), some (vi 5), some (vi 2), some (vi x), some (vi dp), some (vi 3), some (vi 1)] [vi 40] SH σ
  refine am_if_ne (tgt := 45) X dX0_from_28 (by decide) (fun _ => ?_) (fun h => absurd h (by decide))
  refine am_iload (x := 3) X (by rfl) dX0_from_45 ?_
  refine am_if_lt (tgt := 57) X dX0_from_47 (by decide) (fun h => absurd h (by decide)) (fun _ => ?_)
  refine am_iload (x := dp) X (by rfl) dX0_from_50 ?_
  refine am_bipush X (by decide) dX0_from_52 ?_
  refine am_icmp_le (tgt := 59) X dX0_from_54 (by decide) (fun h54 => ?_) (fun h54 => ?_)
  · skip
    refine am_gsOWN X gs_X0_40 dX0_from_59 ?_
    refine am_iload (x := 3) X (by rfl) dX0_from_62 ?_
    refine am_ic X (by decide) dX0_from_64 ?_
    refine am_mul (v := 12) X (by first | rfl | omega) (by omega) dX0_from_65 ?_
    refine am_iload_n (x := 2) X (by rfl) dX0_from_66 ?_
    refine am_add (v := 14) X (by first | rfl | omega) (by omega) dX0_from_67 ?_
    refine am_ldOWN X (by decide) (by decide) (by unfold R32; decide) dX0_from_68 ?_
    show am_G K 69 [some (vr 46), some (vi 5), some (vi 2), some (vi x), some (vi dp), some (vi 3), some (vi 1)] [vi 40] SH σ
    refine am_istore (i := 6) (L' := [some (vr 46), some (vi 5), some (vi 2), some (vi x), some (vi dp), some (vi 3), some (vi 40)]) X (Nat.le_of_ble_eq_true rfl) (by rfl) dX0_from_69 ?_
    refine am_aload_n (x := 46) X (by rfl) dX0_from_71 ?_
    refine am_iload (x := 40) X (by rfl) dX0_from_72 ?_
    refine am_callVv (ci := 0) X hY lk_X0_43 mf_X0_note (m_X0_note 40 σ (by omega)) (by omega) (by decide) (Nat.le_refl _) (Nat.le_refl _) sh_46 rfl rfl rfl (Nat.le_of_ble_eq_true rfl) dX0_from_74 (fun sh74 σ74 hp74 => ?_)
    obtain ⟨rfl, rfl, -⟩ := hp74
    refine am_sg (bn [40] σ) rfl ?_
    refine am_iload (x := 3) X (by rfl) dX0_from_77 ?_
    refine am_if_ne (tgt := 96) X dX0_from_79 (by decide) (fun _ => ?_) (fun h => absurd h (by decide))
    refine am_aload_n (x := 46) X (by rfl) dX0_from_96 ?_
    refine am_iload (x := 40) X (by rfl) dX0_from_97 ?_
    refine am_gsABOVE X gs_X0_26 dX0_from_99 ?_
    refine am_iload (x := 3) X (by rfl) dX0_from_102 ?_
    refine am_ldABOVE X (by decide) (by decide) (by unfold R32; decide) dX0_from_104 ?_
    show am_G K 105 [some (vr 46), some (vi 5), some (vi 2), some (vi x), some (vi dp), some (vi 3), some (vi 40)] [vi 2, vi 40, vr 46] SH (bn [40] σ)
    refine am_iload_n (x := x) X (by rfl) dX0_from_105 ?_
    refine am_iload (x := dp) X (by rfl) dX0_from_106 ?_
    refine am_ic X (by decide) dX0_from_108 ?_
    refine am_add (v := (dp + 1)) X (by first | rfl | omega) (by omega) dX0_from_109 ?_
    refine am_callVi (ci := 0) X hY lk_X0_50 mf_X0_runUnderDay (H1.2 x (dp + 1) ac (bn [40] σ) (by omega) (by omega) ((bn_at [40] (by decide) (Or.inr (by decide))).trans hac) hac2 ((bn_at [40] (by decide) (Or.inl (by decide))).trans hK) (by rw [bn_3]; simp only [List.length_cons, List.length_append, List.length_nil] at hr ⊢; omega)) (by omega) (by decide) (Nat.le_refl _) (Nat.le_refl _) sh_46 rfl rfl rfl (Nat.le_of_ble_eq_true rfl) dX0_from_110 (fun r110 sh110 σ110 hr110 hp110 => ?_)
    obtain ⟨rfl, rfl, hq110⟩ := hp110
    refine am_sg (bn ([40] ++ l1) σ) (bn_app _ _ _) ?_
    exact hret _ _ _ _ _ dX0_from_113 rfl rfl (by subst_vars; exact ⟨rfl, by first | rfl | (simp only [List.cons_append, List.nil_append, List.append_assoc]), rfl⟩)
  · skip
    (exfalso; omega)

set_option maxHeartbeats 4000000 in
set_option maxRecDepth 100000 in
theorem gf5_3 {kd : Int}  {d1 h1 : Nat} {l1 : List Int} {v1 : Int → Int → Int} (H1 : bCu 60 3 kd d1 h1 l1 v1) (x dp : Int) (ac : Nat) (σ : am_H) (hdp : 0 ≤ dp) (hdh : dp + (((h1 + 1) : Nat) : Int) ≤ 40) (hac : σ 46 4 = (ac : Int)) (hac2 : ac < 50) (hK : σ 47 ac = kd) (hr : 0 ≤ σ 46 3 ∧ σ 46 3 + ((60 :: l1).length : Int) ≤ 1000) : am_Mi yX0_from cX0_from 7 (some .int) (d1 + 1) 0 0 [vr 46, vi 5, vi 3, vi x, vi dp] SH σ (fun r sh' σ' => SH = sh' ∧ bn (60 :: l1) σ = σ' ∧ r = v1 x (ac : Int)) := by
  refine am_Mi_of (by decide +kernel) (Nat.le_of_ble_eq_true rfl) (fun K X hY hI hret => ?_)
  show am_G K 0 [some (vr 46), some (vi 5), some (vi 3), some (vi x), some (vi dp), none, none] [] SH σ
  refine am_iload_n (x := 5) X (by rfl) dX0_from_0 ?_
  refine am_istore (i := 5) (L' := [some (vr 46), some (vi 5), some (vi 3), some (vi x), some (vi dp), some (vi 5), none]) X (Nat.le_of_ble_eq_true rfl) (by rfl) dX0_from_1 ?_
  refine am_ic X (by decide) dX0_from_3 ?_
  refine am_istore (i := 6) (L' := [some (vr 46), some (vi 5), some (vi 3), some (vi x), some (vi dp), some (vi 5), some (vi 0)]) X (Nat.le_of_ble_eq_true rfl) (by rfl) dX0_from_4 ?_
  refine am_iload (x := 0) X (by rfl) dX0_from_6 ?_
  refine am_bipush X (by decide) dX0_from_8 ?_
  refine am_icmp_ge (tgt := 45) X dX0_from_10 (by decide) (fun h => absurd h (by decide)) (fun _ => ?_)
  refine am_iload (x := 5) X (by rfl) dX0_from_13 ?_
  refine am_if_le (tgt := 45) X dX0_from_15 (by decide) (fun h => absurd h (by decide)) (fun _ => ?_)
  refine am_gsOWN X gs_X0_40 dX0_from_18 ?_
  refine am_iload (x := 5) X (by rfl) dX0_from_21 ?_
  refine am_ic X (by decide) dX0_from_23 ?_
  refine am_mul (v := 20) X (by first | rfl | omega) (by omega) dX0_from_24 ?_
  refine am_iload_n (x := 3) X (by rfl) dX0_from_25 ?_
  refine am_add (v := 23) X (by first | rfl | omega) (by omega) dX0_from_26 ?_
  refine am_ldOWN X (by decide) (by decide) (by unfold R32; decide) dX0_from_27 ?_
  show am_G K 28 [some (vr 46), some (vi 5), some (vi 3), some (vi x), some (vi dp), some (vi 5), some (vi 0)] [vi 60] SH σ
  refine am_if_ne (tgt := 45) X dX0_from_28 (by decide) (fun _ => ?_) (fun h => absurd h (by decide))
  refine am_iload (x := 5) X (by rfl) dX0_from_45 ?_
  refine am_if_lt (tgt := 57) X dX0_from_47 (by decide) (fun h => absurd h (by decide)) (fun _ => ?_)
  refine am_iload (x := dp) X (by rfl) dX0_from_50 ?_
  refine am_bipush X (by decide) dX0_from_52 ?_
  refine am_icmp_le (tgt := 59) X dX0_from_54 (by decide) (fun h54 => ?_) (fun h54 => ?_)
  · skip
    refine am_gsOWN X gs_X0_40 dX0_from_59 ?_
    refine am_iload (x := 5) X (by rfl) dX0_from_62 ?_
    refine am_ic X (by decide) dX0_from_64 ?_
    refine am_mul (v := 20) X (by first | rfl | omega) (by omega) dX0_from_65 ?_
    refine am_iload_n (x := 3) X (by rfl) dX0_from_66 ?_
    refine am_add (v := 23) X (by first | rfl | omega) (by omega) dX0_from_67 ?_
    refine am_ldOWN X (by decide) (by decide) (by unfold R32; decide) dX0_from_68 ?_
    show am_G K 69 [some (vr 46), some (vi 5), some (vi 3), some (vi x), some (vi dp), some (vi 5), some (vi 0)] [vi 60] SH σ
    refine am_istore (i := 6) (L' := [some (vr 46), some (vi 5), some (vi 3), some (vi x), some (vi dp), some (vi 5), some (vi 60)]) X (Nat.le_of_ble_eq_true rfl) (by rfl) dX0_from_69 ?_
    refine am_aload_n (x := 46) X (by rfl) dX0_from_71 ?_
    refine am_iload (x := 60) X (by rfl) dX0_from_72 ?_
    refine am_callVv (ci := 0) X hY lk_X0_43 mf_X0_note (m_X0_note 60 σ (by omega)) (by omega) (by decide) (Nat.le_refl _) (Nat.le_refl _) sh_46 rfl rfl rfl (Nat.le_of_ble_eq_true rfl) dX0_from_74 (fun sh74 σ74 hp74 => ?_)
    obtain ⟨rfl, rfl, -⟩ := hp74
    refine am_sg (bn [60] σ) rfl ?_
    refine am_iload (x := 5) X (by rfl) dX0_from_77 ?_
    refine am_if_ne (tgt := 96) X dX0_from_79 (by decide) (fun _ => ?_) (fun h => absurd h (by decide))
    refine am_aload_n (x := 46) X (by rfl) dX0_from_96 ?_
    refine am_iload (x := 60) X (by rfl) dX0_from_97 ?_
    refine am_gsABOVE X gs_X0_26 dX0_from_99 ?_
    refine am_iload (x := 5) X (by rfl) dX0_from_102 ?_
    refine am_ldABOVE X (by decide) (by decide) (by unfold R32; decide) dX0_from_104 ?_
    show am_G K 105 [some (vr 46), some (vi 5), some (vi 3), some (vi x), some (vi dp), some (vi 5), some (vi 60)] [vi 3, vi 60, vr 46] SH (bn [60] σ)
    refine am_iload_n (x := x) X (by rfl) dX0_from_105 ?_
    refine am_iload (x := dp) X (by rfl) dX0_from_106 ?_
    refine am_ic X (by decide) dX0_from_108 ?_
    refine am_add (v := (dp + 1)) X (by first | rfl | omega) (by omega) dX0_from_109 ?_
    refine am_callVi (ci := 0) X hY lk_X0_50 mf_X0_runUnderDay (H1.2 x (dp + 1) ac (bn [60] σ) (by omega) (by omega) ((bn_at [60] (by decide) (Or.inr (by decide))).trans hac) hac2 ((bn_at [60] (by decide) (Or.inl (by decide))).trans hK) (by rw [bn_3]; simp only [List.length_cons, List.length_append, List.length_nil] at hr ⊢; omega)) (by omega) (by decide) (Nat.le_refl _) (Nat.le_refl _) sh_46 rfl rfl rfl (Nat.le_of_ble_eq_true rfl) dX0_from_110 (fun r110 sh110 σ110 hr110 hp110 => ?_)
    obtain ⟨rfl, rfl, hq110⟩ := hp110
    refine am_sg (bn ([60] ++ l1) σ) (bn_app _ _ _) ?_
    exact hret _ _ _ _ _ dX0_from_113 rfl rfl (by subst_vars; exact ⟨rfl, by first | rfl | (simp only [List.cons_append, List.nil_append, List.append_assoc]), rfl⟩)
  · skip
    (exfalso; omega)

set_option maxHeartbeats 4000000 in
set_option maxRecDepth 100000 in
theorem gf6_0 {kd : Int}  {d1 h1 : Nat} {l1 : List Int} {v1 : Int → Int → Int} (H1 : bCu 70 0 kd d1 h1 l1 v1) (x dp : Int) (ac : Nat) (σ : am_H) (hdp : 0 ≤ dp) (hdh : dp + (((h1 + 1) : Nat) : Int) ≤ 40) (hac : σ 46 4 = (ac : Int)) (hac2 : ac < 50) (hK : σ 47 ac = kd) (hr : 0 ≤ σ 46 3 ∧ σ 46 3 + ((70 :: l1).length : Int) ≤ 1000) : am_Mi yX0_from cX0_from 7 (some .int) (d1 + 1) 0 0 [vr 46, vi 6, vi 0, vi x, vi dp] SH σ (fun r sh' σ' => SH = sh' ∧ bn (70 :: l1) σ = σ' ∧ r = v1 x (ac : Int)) := by
  refine am_Mi_of (by decide +kernel) (Nat.le_of_ble_eq_true rfl) (fun K X hY hI hret => ?_)
  show am_G K 0 [some (vr 46), some (vi 6), some (vi 0), some (vi x), some (vi dp), none, none] [] SH σ
  refine am_iload_n (x := 6) X (by rfl) dX0_from_0 ?_
  refine am_istore (i := 5) (L' := [some (vr 46), some (vi 6), some (vi 0), some (vi x), some (vi dp), some (vi 6), none]) X (Nat.le_of_ble_eq_true rfl) (by rfl) dX0_from_1 ?_
  refine am_ic X (by decide) dX0_from_3 ?_
  refine am_istore (i := 6) (L' := [some (vr 46), some (vi 6), some (vi 0), some (vi x), some (vi dp), some (vi 6), some (vi 0)]) X (Nat.le_of_ble_eq_true rfl) (by rfl) dX0_from_4 ?_
  refine am_iload (x := 0) X (by rfl) dX0_from_6 ?_
  refine am_bipush X (by decide) dX0_from_8 ?_
  refine am_icmp_ge (tgt := 45) X dX0_from_10 (by decide) (fun h => absurd h (by decide)) (fun _ => ?_)
  refine am_iload (x := 6) X (by rfl) dX0_from_13 ?_
  refine am_if_le (tgt := 45) X dX0_from_15 (by decide) (fun h => absurd h (by decide)) (fun _ => ?_)
  refine am_gsOWN X gs_X0_40 dX0_from_18 ?_
  refine am_iload (x := 6) X (by rfl) dX0_from_21 ?_
  refine am_ic X (by decide) dX0_from_23 ?_
  refine am_mul (v := 24) X (by first | rfl | omega) (by omega) dX0_from_24 ?_
  refine am_iload_n (x := 0) X (by rfl) dX0_from_25 ?_
  refine am_add (v := 24) X (by first | rfl | omega) (by omega) dX0_from_26 ?_
  refine am_ldOWN X (by decide) (by decide) (by unfold R32; decide) dX0_from_27 ?_
  show am_G K 28 [some (vr 46), some (vi 6), some (vi 0), some (vi x), some (vi dp), some (vi 6), some (vi 0)] [vi 70] SH σ
  refine am_if_ne (tgt := 45) X dX0_from_28 (by decide) (fun _ => ?_) (fun h => absurd h (by decide))
  refine am_iload (x := 6) X (by rfl) dX0_from_45 ?_
  refine am_if_lt (tgt := 57) X dX0_from_47 (by decide) (fun h => absurd h (by decide)) (fun _ => ?_)
  refine am_iload (x := dp) X (by rfl) dX0_from_50 ?_
  refine am_bipush X (by decide) dX0_from_52 ?_
  refine am_icmp_le (tgt := 59) X dX0_from_54 (by decide) (fun h54 => ?_) (fun h54 => ?_)
  · skip
    refine am_gsOWN X gs_X0_40 dX0_from_59 ?_
    refine am_iload (x := 6) X (by rfl) dX0_from_62 ?_
    refine am_ic X (by decide) dX0_from_64 ?_
    refine am_mul (v := 24) X (by first | rfl | omega) (by omega) dX0_from_65 ?_
    refine am_iload_n (x := 0) X (by rfl) dX0_from_66 ?_
    refine am_add (v := 24) X (by first | rfl | omega) (by omega) dX0_from_67 ?_
    refine am_ldOWN X (by decide) (by decide) (by unfold R32; decide) dX0_from_68 ?_
    show am_G K 69 [some (vr 46), some (vi 6), some (vi 0), some (vi x), some (vi dp), some (vi 6), some (vi 0)] [vi 70] SH σ
    refine am_istore (i := 6) (L' := [some (vr 46), some (vi 6), some (vi 0), some (vi x), some (vi dp), some (vi 6), some (vi 70)]) X (Nat.le_of_ble_eq_true rfl) (by rfl) dX0_from_69 ?_
    refine am_aload_n (x := 46) X (by rfl) dX0_from_71 ?_
    refine am_iload (x := 70) X (by rfl) dX0_from_72 ?_
    refine am_callVv (ci := 0) X hY lk_X0_43 mf_X0_note (m_X0_note 70 σ (by omega)) (by omega) (by decide) (Nat.le_refl _) (Nat.le_refl _) sh_46 rfl rfl rfl (Nat.le_of_ble_eq_true rfl) dX0_from_74 (fun sh74 σ74 hp74 => ?_)
    obtain ⟨rfl, rfl, -⟩ := hp74
    refine am_sg (bn [70] σ) rfl ?_
    refine am_iload (x := 6) X (by rfl) dX0_from_77 ?_
    refine am_if_ne (tgt := 96) X dX0_from_79 (by decide) (fun _ => ?_) (fun h => absurd h (by decide))
    refine am_aload_n (x := 46) X (by rfl) dX0_from_96 ?_
    refine am_iload (x := 70) X (by rfl) dX0_from_97 ?_
    refine am_gsABOVE X gs_X0_26 dX0_from_99 ?_
    refine am_iload (x := 6) X (by rfl) dX0_from_102 ?_
    refine am_ldABOVE X (by decide) (by decide) (by unfold R32; decide) dX0_from_104 ?_
    show am_G K 105 [some (vr 46), some (vi 6), some (vi 0), some (vi x), some (vi dp), some (vi 6), some (vi 70)] [vi 0, vi 70, vr 46] SH (bn [70] σ)
    refine am_iload_n (x := x) X (by rfl) dX0_from_105 ?_
    refine am_iload (x := dp) X (by rfl) dX0_from_106 ?_
    refine am_ic X (by decide) dX0_from_108 ?_
    refine am_add (v := (dp + 1)) X (by first | rfl | omega) (by omega) dX0_from_109 ?_
    refine am_callVi (ci := 0) X hY lk_X0_50 mf_X0_runUnderDay (H1.2 x (dp + 1) ac (bn [70] σ) (by omega) (by omega) ((bn_at [70] (by decide) (Or.inr (by decide))).trans hac) hac2 ((bn_at [70] (by decide) (Or.inl (by decide))).trans hK) (by rw [bn_3]; simp only [List.length_cons, List.length_append, List.length_nil] at hr ⊢; omega)) (by omega) (by decide) (Nat.le_refl _) (Nat.le_refl _) sh_46 rfl rfl rfl (Nat.le_of_ble_eq_true rfl) dX0_from_110 (fun r110 sh110 σ110 hr110 hp110 => ?_)
    obtain ⟨rfl, rfl, hq110⟩ := hp110
    refine am_sg (bn ([70] ++ l1) σ) (bn_app _ _ _) ?_
    exact hret _ _ _ _ _ dX0_from_113 rfl rfl (by subst_vars; exact ⟨rfl, by first | rfl | (simp only [List.cons_append, List.nil_append, List.append_assoc]), rfl⟩)
  · skip
    (exfalso; omega)

set_option maxHeartbeats 4000000 in
set_option maxRecDepth 100000 in
theorem gf6_1 {kd : Int}  {d1 h1 : Nat} {l1 : List Int} {v1 : Int → Int → Int} (H1 : bCr 10 kd d1 h1 l1 v1) (x dp : Int) (ac : Nat) (σ : am_H) (hdp : 0 ≤ dp) (hdh : dp + (((h1 + 1) : Nat) : Int) ≤ 40) (hac : σ 46 4 = (ac : Int)) (hac2 : ac < 50) (hK : σ 47 ac = kd) (hr : 0 ≤ σ 46 3 ∧ σ 46 3 + ((10 :: l1).length : Int) ≤ 1000) : am_Mi yX0_from cX0_from 7 (some .int) (d1 + 1) 0 0 [vr 46, vi 6, vi 1, vi x, vi dp] SH σ (fun r sh' σ' => SH = sh' ∧ bn (10 :: l1) σ = σ' ∧ r = v1 x (ac : Int)) := by
  refine am_Mi_of (by decide +kernel) (Nat.le_of_ble_eq_true rfl) (fun K X hY hI hret => ?_)
  show am_G K 0 [some (vr 46), some (vi 6), some (vi 1), some (vi x), some (vi dp), none, none] [] SH σ
  refine am_iload_n (x := 6) X (by rfl) dX0_from_0 ?_
  refine am_istore (i := 5) (L' := [some (vr 46), some (vi 6), some (vi 1), some (vi x), some (vi dp), some (vi 6), none]) X (Nat.le_of_ble_eq_true rfl) (by rfl) dX0_from_1 ?_
  refine am_ic X (by decide) dX0_from_3 ?_
  refine am_istore (i := 6) (L' := [some (vr 46), some (vi 6), some (vi 1), some (vi x), some (vi dp), some (vi 6), some (vi 0)]) X (Nat.le_of_ble_eq_true rfl) (by rfl) dX0_from_4 ?_
  refine am_iload (x := 0) X (by rfl) dX0_from_6 ?_
  refine am_bipush X (by decide) dX0_from_8 ?_
  refine am_icmp_ge (tgt := 45) X dX0_from_10 (by decide) (fun h => absurd h (by decide)) (fun _ => ?_)
  refine am_iload (x := 6) X (by rfl) dX0_from_13 ?_
  refine am_if_le (tgt := 45) X dX0_from_15 (by decide) (fun h => absurd h (by decide)) (fun _ => ?_)
  refine am_gsOWN X gs_X0_40 dX0_from_18 ?_
  refine am_iload (x := 6) X (by rfl) dX0_from_21 ?_
  refine am_ic X (by decide) dX0_from_23 ?_
  refine am_mul (v := 24) X (by first | rfl | omega) (by omega) dX0_from_24 ?_
  refine am_iload_n (x := 1) X (by rfl) dX0_from_25 ?_
  refine am_add (v := 25) X (by first | rfl | omega) (by omega) dX0_from_26 ?_
  refine am_ldOWN X (by decide) (by decide) (by unfold R32; decide) dX0_from_27 ?_
  show am_G K 28 [some (vr 46), some (vi 6), some (vi 1), some (vi x), some (vi dp), some (vi 6), some (vi 0)] [vi 0] SH σ
  refine am_if_ne (tgt := 45) X dX0_from_28 (by decide) (fun h => absurd h (by decide)) (fun _ => ?_)
  refine am_gsABOVE X gs_X0_26 dX0_from_31 ?_
  refine am_iload (x := 6) X (by rfl) dX0_from_34 ?_
  refine am_ldABOVE X (by decide) (by decide) (by unfold R32; decide) dX0_from_36 ?_
  show am_G K 37 [some (vr 46), some (vi 6), some (vi 1), some (vi x), some (vi dp), some (vi 6), some (vi 0)] [vi 0] SH σ
  refine am_istore (i := 5) (L' := [some (vr 46), some (vi 6), some (vi 1), some (vi x), some (vi dp), some (vi 0), some (vi 0)]) X (Nat.le_of_ble_eq_true rfl) (by rfl) dX0_from_37 ?_
  refine am_inc (x := 0) (v := 1) (L' := [some (vr 46), some (vi 6), some (vi 1), some (vi x), some (vi dp), some (vi 0), some (vi 1)]) X (by rfl) (by omega) (by omega) (by rfl) dX0_from_39 ?_
  refine am_goto (tgt := 6) X dX0_from_42 (by decide) ?_
  refine am_iload (x := 1) X (by rfl) dX0_from_6 ?_
  refine am_bipush X (by decide) dX0_from_8 ?_
  refine am_icmp_ge (tgt := 45) X dX0_from_10 (by decide) (fun h => absurd h (by decide)) (fun _ => ?_)
  refine am_iload (x := 0) X (by rfl) dX0_from_13 ?_
  refine am_if_le (tgt := 45) X dX0_from_15 (by decide) (fun _ => ?_) (fun h => absurd h (by decide))
  refine am_iload (x := 0) X (by rfl) dX0_from_45 ?_
  refine am_if_lt (tgt := 57) X dX0_from_47 (by decide) (fun h => absurd h (by decide)) (fun _ => ?_)
  refine am_iload (x := dp) X (by rfl) dX0_from_50 ?_
  refine am_bipush X (by decide) dX0_from_52 ?_
  refine am_icmp_le (tgt := 59) X dX0_from_54 (by decide) (fun h54 => ?_) (fun h54 => ?_)
  · skip
    refine am_gsOWN X gs_X0_40 dX0_from_59 ?_
    refine am_iload (x := 0) X (by rfl) dX0_from_62 ?_
    refine am_ic X (by decide) dX0_from_64 ?_
    refine am_mul (v := 0) X (by first | rfl | omega) (by omega) dX0_from_65 ?_
    refine am_iload_n (x := 1) X (by rfl) dX0_from_66 ?_
    refine am_add (v := 1) X (by first | rfl | omega) (by omega) dX0_from_67 ?_
    refine am_ldOWN X (by decide) (by decide) (by unfold R32; decide) dX0_from_68 ?_
    show am_G K 69 [some (vr 46), some (vi 6), some (vi 1), some (vi x), some (vi dp), some (vi 0), some (vi 1)] [vi 10] SH σ
    refine am_istore (i := 6) (L' := [some (vr 46), some (vi 6), some (vi 1), some (vi x), some (vi dp), some (vi 0), some (vi 10)]) X (Nat.le_of_ble_eq_true rfl) (by rfl) dX0_from_69 ?_
    refine am_aload_n (x := 46) X (by rfl) dX0_from_71 ?_
    refine am_iload (x := 10) X (by rfl) dX0_from_72 ?_
    refine am_callVv (ci := 0) X hY lk_X0_43 mf_X0_note (m_X0_note 10 σ (by omega)) (by omega) (by decide) (Nat.le_refl _) (Nat.le_refl _) sh_46 rfl rfl rfl (Nat.le_of_ble_eq_true rfl) dX0_from_74 (fun sh74 σ74 hp74 => ?_)
    obtain ⟨rfl, rfl, -⟩ := hp74
    refine am_sg (bn [10] σ) rfl ?_
    refine am_iload (x := 0) X (by rfl) dX0_from_77 ?_
    refine am_if_ne (tgt := 96) X dX0_from_79 (by decide) (fun h => absurd h (by decide)) (fun _ => ?_)
    refine am_aload_n (x := 46) X (by rfl) dX0_from_82 ?_
    refine am_iload (x := 10) X (by rfl) dX0_from_83 ?_
    refine am_iload_n (x := x) X (by rfl) dX0_from_85 ?_
    refine am_iload (x := dp) X (by rfl) dX0_from_86 ?_
    refine am_ic X (by decide) dX0_from_88 ?_
    refine am_add (v := (dp + 1)) X (by first | rfl | omega) (by omega) dX0_from_89 ?_
    refine am_callVi (ci := 0) X hY lk_X0_47 mf_X0_runOfDay (H1.2 x (dp + 1) ac (bn [10] σ) (by omega) (by omega) ((bn_at [10] (by decide) (Or.inr (by decide))).trans hac) hac2 ((bn_at [10] (by decide) (Or.inl (by decide))).trans hK) (by rw [bn_3]; simp only [List.length_cons, List.length_append, List.length_nil] at hr ⊢; omega)) (by omega) (by decide) (Nat.le_refl _) (Nat.le_refl _) sh_46 rfl rfl rfl (Nat.le_of_ble_eq_true rfl) dX0_from_90 (fun r90 sh90 σ90 hr90 hp90 => ?_)
    obtain ⟨rfl, rfl, hq90⟩ := hp90
    refine am_sg (bn ([10] ++ l1) σ) (bn_app _ _ _) ?_
    refine am_goto (tgt := 113) X dX0_from_93 (by decide) ?_
    exact hret _ _ _ _ _ dX0_from_113 rfl rfl (by subst_vars; exact ⟨rfl, by first | rfl | (simp only [List.cons_append, List.nil_append, List.append_assoc]), rfl⟩)
  · skip
    (exfalso; omega)

set_option maxHeartbeats 4000000 in
set_option maxRecDepth 100000 in
theorem gf6_2 {kd : Int}  {d1 h1 : Nat} {l1 : List Int} {v1 : Int → Int → Int} (H1 : bCr 11 kd d1 h1 l1 v1) (x dp : Int) (ac : Nat) (σ : am_H) (hdp : 0 ≤ dp) (hdh : dp + (((h1 + 1) : Nat) : Int) ≤ 40) (hac : σ 46 4 = (ac : Int)) (hac2 : ac < 50) (hK : σ 47 ac = kd) (hr : 0 ≤ σ 46 3 ∧ σ 46 3 + ((11 :: l1).length : Int) ≤ 1000) : am_Mi yX0_from cX0_from 7 (some .int) (d1 + 1) 0 0 [vr 46, vi 6, vi 2, vi x, vi dp] SH σ (fun r sh' σ' => SH = sh' ∧ bn (11 :: l1) σ = σ' ∧ r = v1 x (ac : Int)) := by
  refine am_Mi_of (by decide +kernel) (Nat.le_of_ble_eq_true rfl) (fun K X hY hI hret => ?_)
  show am_G K 0 [some (vr 46), some (vi 6), some (vi 2), some (vi x), some (vi dp), none, none] [] SH σ
  refine am_iload_n (x := 6) X (by rfl) dX0_from_0 ?_
  refine am_istore (i := 5) (L' := [some (vr 46), some (vi 6), some (vi 2), some (vi x), some (vi dp), some (vi 6), none]) X (Nat.le_of_ble_eq_true rfl) (by rfl) dX0_from_1 ?_
  refine am_ic X (by decide) dX0_from_3 ?_
  refine am_istore (i := 6) (L' := [some (vr 46), some (vi 6), some (vi 2), some (vi x), some (vi dp), some (vi 6), some (vi 0)]) X (Nat.le_of_ble_eq_true rfl) (by rfl) dX0_from_4 ?_
  refine am_iload (x := 0) X (by rfl) dX0_from_6 ?_
  refine am_bipush X (by decide) dX0_from_8 ?_
  refine am_icmp_ge (tgt := 45) X dX0_from_10 (by decide) (fun h => absurd h (by decide)) (fun _ => ?_)
  refine am_iload (x := 6) X (by rfl) dX0_from_13 ?_
  refine am_if_le (tgt := 45) X dX0_from_15 (by decide) (fun h => absurd h (by decide)) (fun _ => ?_)
  refine am_gsOWN X gs_X0_40 dX0_from_18 ?_
  refine am_iload (x := 6) X (by rfl) dX0_from_21 ?_
  refine am_ic X (by decide) dX0_from_23 ?_
  refine am_mul (v := 24) X (by first | rfl | omega) (by omega) dX0_from_24 ?_
  refine am_iload_n (x := 2) X (by rfl) dX0_from_25 ?_
  refine am_add (v := 26) X (by first | rfl | omega) (by omega) dX0_from_26 ?_
  refine am_ldOWN X (by decide) (by decide) (by unfold R32; decide) dX0_from_27 ?_
  show am_G K 28 [some (vr 46), some (vi 6), some (vi 2), some (vi x), some (vi dp), some (vi 6), some (vi 0)] [vi 0] SH σ
  refine am_if_ne (tgt := 45) X dX0_from_28 (by decide) (fun h => absurd h (by decide)) (fun _ => ?_)
  refine am_gsABOVE X gs_X0_26 dX0_from_31 ?_
  refine am_iload (x := 6) X (by rfl) dX0_from_34 ?_
  refine am_ldABOVE X (by decide) (by decide) (by unfold R32; decide) dX0_from_36 ?_
  show am_G K 37 [some (vr 46), some (vi 6), some (vi 2), some (vi x), some (vi dp), some (vi 6), some (vi 0)] [vi 0] SH σ
  refine am_istore (i := 5) (L' := [some (vr 46), some (vi 6), some (vi 2), some (vi x), some (vi dp), some (vi 0), some (vi 0)]) X (Nat.le_of_ble_eq_true rfl) (by rfl) dX0_from_37 ?_
  refine am_inc (x := 0) (v := 1) (L' := [some (vr 46), some (vi 6), some (vi 2), some (vi x), some (vi dp), some (vi 0), some (vi 1)]) X (by rfl) (by omega) (by omega) (by rfl) dX0_from_39 ?_
  refine am_goto (tgt := 6) X dX0_from_42 (by decide) ?_
  refine am_iload (x := 1) X (by rfl) dX0_from_6 ?_
  refine am_bipush X (by decide) dX0_from_8 ?_
  refine am_icmp_ge (tgt := 45) X dX0_from_10 (by decide) (fun h => absurd h (by decide)) (fun _ => ?_)
  refine am_iload (x := 0) X (by rfl) dX0_from_13 ?_
  refine am_if_le (tgt := 45) X dX0_from_15 (by decide) (fun _ => ?_) (fun h => absurd h (by decide))
  refine am_iload (x := 0) X (by rfl) dX0_from_45 ?_
  refine am_if_lt (tgt := 57) X dX0_from_47 (by decide) (fun h => absurd h (by decide)) (fun _ => ?_)
  refine am_iload (x := dp) X (by rfl) dX0_from_50 ?_
  refine am_bipush X (by decide) dX0_from_52 ?_
  refine am_icmp_le (tgt := 59) X dX0_from_54 (by decide) (fun h54 => ?_) (fun h54 => ?_)
  · skip
    refine am_gsOWN X gs_X0_40 dX0_from_59 ?_
    refine am_iload (x := 0) X (by rfl) dX0_from_62 ?_
    refine am_ic X (by decide) dX0_from_64 ?_
    refine am_mul (v := 0) X (by first | rfl | omega) (by omega) dX0_from_65 ?_
    refine am_iload_n (x := 2) X (by rfl) dX0_from_66 ?_
    refine am_add (v := 2) X (by first | rfl | omega) (by omega) dX0_from_67 ?_
    refine am_ldOWN X (by decide) (by decide) (by unfold R32; decide) dX0_from_68 ?_
    show am_G K 69 [some (vr 46), some (vi 6), some (vi 2), some (vi x), some (vi dp), some (vi 0), some (vi 1)] [vi 11] SH σ
    refine am_istore (i := 6) (L' := [some (vr 46), some (vi 6), some (vi 2), some (vi x), some (vi dp), some (vi 0), some (vi 11)]) X (Nat.le_of_ble_eq_true rfl) (by rfl) dX0_from_69 ?_
    refine am_aload_n (x := 46) X (by rfl) dX0_from_71 ?_
    refine am_iload (x := 11) X (by rfl) dX0_from_72 ?_
    refine am_callVv (ci := 0) X hY lk_X0_43 mf_X0_note (m_X0_note 11 σ (by omega)) (by omega) (by decide) (Nat.le_refl _) (Nat.le_refl _) sh_46 rfl rfl rfl (Nat.le_of_ble_eq_true rfl) dX0_from_74 (fun sh74 σ74 hp74 => ?_)
    obtain ⟨rfl, rfl, -⟩ := hp74
    refine am_sg (bn [11] σ) rfl ?_
    refine am_iload (x := 0) X (by rfl) dX0_from_77 ?_
    refine am_if_ne (tgt := 96) X dX0_from_79 (by decide) (fun h => absurd h (by decide)) (fun _ => ?_)
    refine am_aload_n (x := 46) X (by rfl) dX0_from_82 ?_
    refine am_iload (x := 11) X (by rfl) dX0_from_83 ?_
    refine am_iload_n (x := x) X (by rfl) dX0_from_85 ?_
    refine am_iload (x := dp) X (by rfl) dX0_from_86 ?_
    refine am_ic X (by decide) dX0_from_88 ?_
    refine am_add (v := (dp + 1)) X (by first | rfl | omega) (by omega) dX0_from_89 ?_
    refine am_callVi (ci := 0) X hY lk_X0_47 mf_X0_runOfDay (H1.2 x (dp + 1) ac (bn [11] σ) (by omega) (by omega) ((bn_at [11] (by decide) (Or.inr (by decide))).trans hac) hac2 ((bn_at [11] (by decide) (Or.inl (by decide))).trans hK) (by rw [bn_3]; simp only [List.length_cons, List.length_append, List.length_nil] at hr ⊢; omega)) (by omega) (by decide) (Nat.le_refl _) (Nat.le_refl _) sh_46 rfl rfl rfl (Nat.le_of_ble_eq_true rfl) dX0_from_90 (fun r90 sh90 σ90 hr90 hp90 => ?_)
    obtain ⟨rfl, rfl, hq90⟩ := hp90
    refine am_sg (bn ([11] ++ l1) σ) (bn_app _ _ _) ?_
    refine am_goto (tgt := 113) X dX0_from_93 (by decide) ?_
    exact hret _ _ _ _ _ dX0_from_113 rfl rfl (by subst_vars; exact ⟨rfl, by first | rfl | (simp only [List.cons_append, List.nil_append, List.append_assoc]), rfl⟩)
  · skip
    (exfalso; omega)

set_option maxHeartbeats 4000000 in
set_option maxRecDepth 100000 in
theorem gf6_3 {kd : Int}  {d1 h1 : Nat} {l1 : List Int} {v1 : Int → Int → Int} (H1 : bCr 2 kd d1 h1 l1 v1) (x dp : Int) (ac : Nat) (σ : am_H) (hdp : 0 ≤ dp) (hdh : dp + (((h1 + 1) : Nat) : Int) ≤ 40) (hac : σ 46 4 = (ac : Int)) (hac2 : ac < 50) (hK : σ 47 ac = kd) (hr : 0 ≤ σ 46 3 ∧ σ 46 3 + ((2 :: l1).length : Int) ≤ 1000) : am_Mi yX0_from cX0_from 7 (some .int) (d1 + 1) 0 0 [vr 46, vi 6, vi 3, vi x, vi dp] SH σ (fun r sh' σ' => SH = sh' ∧ bn (2 :: l1) σ = σ' ∧ r = v1 x (ac : Int)) := by
  refine am_Mi_of (by decide +kernel) (Nat.le_of_ble_eq_true rfl) (fun K X hY hI hret => ?_)
  show am_G K 0 [some (vr 46), some (vi 6), some (vi 3), some (vi x), some (vi dp), none, none] [] SH σ
  refine am_iload_n (x := 6) X (by rfl) dX0_from_0 ?_
  refine am_istore (i := 5) (L' := [some (vr 46), some (vi 6), some (vi 3), some (vi x), some (vi dp), some (vi 6), none]) X (Nat.le_of_ble_eq_true rfl) (by rfl) dX0_from_1 ?_
  refine am_ic X (by decide) dX0_from_3 ?_
  refine am_istore (i := 6) (L' := [some (vr 46), some (vi 6), some (vi 3), some (vi x), some (vi dp), some (vi 6), some (vi 0)]) X (Nat.le_of_ble_eq_true rfl) (by rfl) dX0_from_4 ?_
  refine am_iload (x := 0) X (by rfl) dX0_from_6 ?_
  refine am_bipush X (by decide) dX0_from_8 ?_
  refine am_icmp_ge (tgt := 45) X dX0_from_10 (by decide) (fun h => absurd h (by decide)) (fun _ => ?_)
  refine am_iload (x := 6) X (by rfl) dX0_from_13 ?_
  refine am_if_le (tgt := 45) X dX0_from_15 (by decide) (fun h => absurd h (by decide)) (fun _ => ?_)
  refine am_gsOWN X gs_X0_40 dX0_from_18 ?_
  refine am_iload (x := 6) X (by rfl) dX0_from_21 ?_
  refine am_ic X (by decide) dX0_from_23 ?_
  refine am_mul (v := 24) X (by first | rfl | omega) (by omega) dX0_from_24 ?_
  refine am_iload_n (x := 3) X (by rfl) dX0_from_25 ?_
  refine am_add (v := 27) X (by first | rfl | omega) (by omega) dX0_from_26 ?_
  refine am_ldOWN X (by decide) (by decide) (by unfold R32; decide) dX0_from_27 ?_
  show am_G K 28 [some (vr 46), some (vi 6), some (vi 3), some (vi x), some (vi dp), some (vi 6), some (vi 0)] [vi 0] SH σ
  refine am_if_ne (tgt := 45) X dX0_from_28 (by decide) (fun h => absurd h (by decide)) (fun _ => ?_)
  refine am_gsABOVE X gs_X0_26 dX0_from_31 ?_
  refine am_iload (x := 6) X (by rfl) dX0_from_34 ?_
  refine am_ldABOVE X (by decide) (by decide) (by unfold R32; decide) dX0_from_36 ?_
  show am_G K 37 [some (vr 46), some (vi 6), some (vi 3), some (vi x), some (vi dp), some (vi 6), some (vi 0)] [vi 0] SH σ
  refine am_istore (i := 5) (L' := [some (vr 46), some (vi 6), some (vi 3), some (vi x), some (vi dp), some (vi 0), some (vi 0)]) X (Nat.le_of_ble_eq_true rfl) (by rfl) dX0_from_37 ?_
  refine am_inc (x := 0) (v := 1) (L' := [some (vr 46), some (vi 6), some (vi 3), some (vi x), some (vi dp), some (vi 0), some (vi 1)]) X (by rfl) (by omega) (by omega) (by rfl) dX0_from_39 ?_
  refine am_goto (tgt := 6) X dX0_from_42 (by decide) ?_
  refine am_iload (x := 1) X (by rfl) dX0_from_6 ?_
  refine am_bipush X (by decide) dX0_from_8 ?_
  refine am_icmp_ge (tgt := 45) X dX0_from_10 (by decide) (fun h => absurd h (by decide)) (fun _ => ?_)
  refine am_iload (x := 0) X (by rfl) dX0_from_13 ?_
  refine am_if_le (tgt := 45) X dX0_from_15 (by decide) (fun _ => ?_) (fun h => absurd h (by decide))
  refine am_iload (x := 0) X (by rfl) dX0_from_45 ?_
  refine am_if_lt (tgt := 57) X dX0_from_47 (by decide) (fun h => absurd h (by decide)) (fun _ => ?_)
  refine am_iload (x := dp) X (by rfl) dX0_from_50 ?_
  refine am_bipush X (by decide) dX0_from_52 ?_
  refine am_icmp_le (tgt := 59) X dX0_from_54 (by decide) (fun h54 => ?_) (fun h54 => ?_)
  · skip
    refine am_gsOWN X gs_X0_40 dX0_from_59 ?_
    refine am_iload (x := 0) X (by rfl) dX0_from_62 ?_
    refine am_ic X (by decide) dX0_from_64 ?_
    refine am_mul (v := 0) X (by first | rfl | omega) (by omega) dX0_from_65 ?_
    refine am_iload_n (x := 3) X (by rfl) dX0_from_66 ?_
    refine am_add (v := 3) X (by first | rfl | omega) (by omega) dX0_from_67 ?_
    refine am_ldOWN X (by decide) (by decide) (by unfold R32; decide) dX0_from_68 ?_
    show am_G K 69 [some (vr 46), some (vi 6), some (vi 3), some (vi x), some (vi dp), some (vi 0), some (vi 1)] [vi 2] SH σ
    refine am_istore (i := 6) (L' := [some (vr 46), some (vi 6), some (vi 3), some (vi x), some (vi dp), some (vi 0), some (vi 2)]) X (Nat.le_of_ble_eq_true rfl) (by rfl) dX0_from_69 ?_
    refine am_aload_n (x := 46) X (by rfl) dX0_from_71 ?_
    refine am_iload (x := 2) X (by rfl) dX0_from_72 ?_
    refine am_callVv (ci := 0) X hY lk_X0_43 mf_X0_note (m_X0_note 2 σ (by omega)) (by omega) (by decide) (Nat.le_refl _) (Nat.le_refl _) sh_46 rfl rfl rfl (Nat.le_of_ble_eq_true rfl) dX0_from_74 (fun sh74 σ74 hp74 => ?_)
    obtain ⟨rfl, rfl, -⟩ := hp74
    refine am_sg (bn [2] σ) rfl ?_
    refine am_iload (x := 0) X (by rfl) dX0_from_77 ?_
    refine am_if_ne (tgt := 96) X dX0_from_79 (by decide) (fun h => absurd h (by decide)) (fun _ => ?_)
    refine am_aload_n (x := 46) X (by rfl) dX0_from_82 ?_
    refine am_iload (x := 2) X (by rfl) dX0_from_83 ?_
    refine am_iload_n (x := x) X (by rfl) dX0_from_85 ?_
    refine am_iload (x := dp) X (by rfl) dX0_from_86 ?_
    refine am_ic X (by decide) dX0_from_88 ?_
    refine am_add (v := (dp + 1)) X (by first | rfl | omega) (by omega) dX0_from_89 ?_
    refine am_callVi (ci := 0) X hY lk_X0_47 mf_X0_runOfDay (H1.2 x (dp + 1) ac (bn [2] σ) (by omega) (by omega) ((bn_at [2] (by decide) (Or.inr (by decide))).trans hac) hac2 ((bn_at [2] (by decide) (Or.inl (by decide))).trans hK) (by rw [bn_3]; simp only [List.length_cons, List.length_append, List.length_nil] at hr ⊢; omega)) (by omega) (by decide) (Nat.le_refl _) (Nat.le_refl _) sh_46 rfl rfl rfl (Nat.le_of_ble_eq_true rfl) dX0_from_90 (fun r90 sh90 σ90 hr90 hp90 => ?_)
    obtain ⟨rfl, rfl, hq90⟩ := hp90
    refine am_sg (bn ([2] ++ l1) σ) (bn_app _ _ _) ?_
    refine am_goto (tgt := 113) X dX0_from_93 (by decide) ?_
    exact hret _ _ _ _ _ dX0_from_113 rfl rfl (by subst_vars; exact ⟨rfl, by first | rfl | (simp only [List.cons_append, List.nil_append, List.append_assoc]), rfl⟩)
  · skip
    (exfalso; omega)

set_option maxHeartbeats 4000000 in
set_option maxRecDepth 100000 in
theorem gf7_0 {kd : Int}  {d1 h1 : Nat} {l1 : List Int} {v1 : Int → Int → Int} (H1 : bCu 20 0 kd d1 h1 l1 v1) (x dp : Int) (ac : Nat) (σ : am_H) (hdp : 0 ≤ dp) (hdh : dp + (((h1 + 1) : Nat) : Int) ≤ 40) (hac : σ 46 4 = (ac : Int)) (hac2 : ac < 50) (hK : σ 47 ac = kd) (hr : 0 ≤ σ 46 3 ∧ σ 46 3 + ((20 :: l1).length : Int) ≤ 1000) : am_Mi yX0_from cX0_from 7 (some .int) (d1 + 1) 0 0 [vr 46, vi 7, vi 0, vi x, vi dp] SH σ (fun r sh' σ' => SH = sh' ∧ bn (20 :: l1) σ = σ' ∧ r = v1 x (ac : Int)) := by
  refine am_Mi_of (by decide +kernel) (Nat.le_of_ble_eq_true rfl) (fun K X hY hI hret => ?_)
  show am_G K 0 [some (vr 46), some (vi 7), some (vi 0), some (vi x), some (vi dp), none, none] [] SH σ
  refine am_iload_n (x := 7) X (by rfl) dX0_from_0 ?_
  refine am_istore (i := 5) (L' := [some (vr 46), some (vi 7), some (vi 0), some (vi x), some (vi dp), some (vi 7), none]) X (Nat.le_of_ble_eq_true rfl) (by rfl) dX0_from_1 ?_
  refine am_ic X (by decide) dX0_from_3 ?_
  refine am_istore (i := 6) (L' := [some (vr 46), some (vi 7), some (vi 0), some (vi x), some (vi dp), some (vi 7), some (vi 0)]) X (Nat.le_of_ble_eq_true rfl) (by rfl) dX0_from_4 ?_
  refine am_iload (x := 0) X (by rfl) dX0_from_6 ?_
  refine am_bipush X (by decide) dX0_from_8 ?_
  refine am_icmp_ge (tgt := 45) X dX0_from_10 (by decide) (fun h => absurd h (by decide)) (fun _ => ?_)
  refine am_iload (x := 7) X (by rfl) dX0_from_13 ?_
  refine am_if_le (tgt := 45) X dX0_from_15 (by decide) (fun h => absurd h (by decide)) (fun _ => ?_)
  refine am_gsOWN X gs_X0_40 dX0_from_18 ?_
  refine am_iload (x := 7) X (by rfl) dX0_from_21 ?_
  refine am_ic X (by decide) dX0_from_23 ?_
  refine am_mul (v := 28) X (by first | rfl | omega) (by omega) dX0_from_24 ?_
  refine am_iload_n (x := 0) X (by rfl) dX0_from_25 ?_
  refine am_add (v := 28) X (by first | rfl | omega) (by omega) dX0_from_26 ?_
  refine am_ldOWN X (by decide) (by decide) (by unfold R32; decide) dX0_from_27 ?_
  show am_G K 28 [some (vr 46), some (vi 7), some (vi 0), some (vi x), some (vi dp), some (vi 7), some (vi 0)] [vi 0] SH σ
  refine am_if_ne (tgt := 45) X dX0_from_28 (by decide) (fun h => absurd h (by decide)) (fun _ => ?_)
  refine am_gsABOVE X gs_X0_26 dX0_from_31 ?_
  refine am_iload (x := 7) X (by rfl) dX0_from_34 ?_
  refine am_ldABOVE X (by decide) (by decide) (by unfold R32; decide) dX0_from_36 ?_
  show am_G K 37 [some (vr 46), some (vi 7), some (vi 0), some (vi x), some (vi dp), some (vi 7), some (vi 0)] [vi 4] SH σ
  refine am_istore (i := 5) (L' := [some (vr 46), some (vi 7), some (vi 0), some (vi x), some (vi dp), some (vi 4), some (vi 0)]) X (Nat.le_of_ble_eq_true rfl) (by rfl) dX0_from_37 ?_
  refine am_inc (x := 0) (v := 1) (L' := [some (vr 46), some (vi 7), some (vi 0), some (vi x), some (vi dp), some (vi 4), some (vi 1)]) X (by rfl) (by omega) (by omega) (by rfl) dX0_from_39 ?_
  refine am_goto (tgt := 6) X dX0_from_42 (by decide) ?_
  refine am_iload (x := 1) X (by rfl) dX0_from_6 ?_
  refine am_bipush X (by decide) dX0_from_8 ?_
  refine am_icmp_ge (tgt := 45) X dX0_from_10 (by decide) (fun h => absurd h (by decide)) (fun _ => ?_)
  refine am_iload (x := 4) X (by rfl) dX0_from_13 ?_
  refine am_if_le (tgt := 45) X dX0_from_15 (by decide) (fun h => absurd h (by decide)) (fun _ => ?_)
  refine am_gsOWN X gs_X0_40 dX0_from_18 ?_
  refine am_iload (x := 4) X (by rfl) dX0_from_21 ?_
  refine am_ic X (by decide) dX0_from_23 ?_
  refine am_mul (v := 16) X (by first | rfl | omega) (by omega) dX0_from_24 ?_
  refine am_iload_n (x := 0) X (by rfl) dX0_from_25 ?_
  refine am_add (v := 16) X (by first | rfl | omega) (by omega) dX0_from_26 ?_
  refine am_ldOWN X (by decide) (by decide) (by unfold R32; decide) dX0_from_27 ?_
  show am_G K 28 [some (vr 46), some (vi 7), some (vi 0), some (vi x), some (vi dp), some (vi 4), some (vi 1)] [vi 0] SH σ
  refine am_if_ne (tgt := 45) X dX0_from_28 (by decide) (fun h => absurd h (by decide)) (fun _ => ?_)
  refine am_gsABOVE X gs_X0_26 dX0_from_31 ?_
  refine am_iload (x := 4) X (by rfl) dX0_from_34 ?_
  refine am_ldABOVE X (by decide) (by decide) (by unfold R32; decide) dX0_from_36 ?_
  show am_G K 37 [some (vr 46), some (vi 7), some (vi 0), some (vi x), some (vi dp), some (vi 4), some (vi 1)] [vi 1] SH σ
  refine am_istore (i := 5) (L' := [some (vr 46), some (vi 7), some (vi 0), some (vi x), some (vi dp), some (vi 1), some (vi 1)]) X (Nat.le_of_ble_eq_true rfl) (by rfl) dX0_from_37 ?_
  refine am_inc (x := 1) (v := 2) (L' := [some (vr 46), some (vi 7), some (vi 0), some (vi x), some (vi dp), some (vi 1), some (vi 2)]) X (by rfl) (by omega) (by omega) (by rfl) dX0_from_39 ?_
  refine am_goto (tgt := 6) X dX0_from_42 (by decide) ?_
  refine am_iload (x := 2) X (by rfl) dX0_from_6 ?_
  refine am_bipush X (by decide) dX0_from_8 ?_
  refine am_icmp_ge (tgt := 45) X dX0_from_10 (by decide) (fun h => absurd h (by decide)) (fun _ => ?_)
  refine am_iload (x := 1) X (by rfl) dX0_from_13 ?_
  refine am_if_le (tgt := 45) X dX0_from_15 (by decide) (fun h => absurd h (by decide)) (fun _ => ?_)
  refine am_gsOWN X gs_X0_40 dX0_from_18 ?_
  refine am_iload (x := 1) X (by rfl) dX0_from_21 ?_
  refine am_ic X (by decide) dX0_from_23 ?_
  refine am_mul (v := 4) X (by first | rfl | omega) (by omega) dX0_from_24 ?_
  refine am_iload_n (x := 0) X (by rfl) dX0_from_25 ?_
  refine am_add (v := 4) X (by first | rfl | omega) (by omega) dX0_from_26 ?_
  refine am_ldOWN X (by decide) (by decide) (by unfold R32; decide) dX0_from_27 ?_
  show am_G K 28 [some (vr 46), some (vi 7), some (vi 0), some (vi x), some (vi dp), some (vi 1), some (vi 2)] [vi 20] SH σ
  refine am_if_ne (tgt := 45) X dX0_from_28 (by decide) (fun _ => ?_) (fun h => absurd h (by decide))
  refine am_iload (x := 1) X (by rfl) dX0_from_45 ?_
  refine am_if_lt (tgt := 57) X dX0_from_47 (by decide) (fun h => absurd h (by decide)) (fun _ => ?_)
  refine am_iload (x := dp) X (by rfl) dX0_from_50 ?_
  refine am_bipush X (by decide) dX0_from_52 ?_
  refine am_icmp_le (tgt := 59) X dX0_from_54 (by decide) (fun h54 => ?_) (fun h54 => ?_)
  · skip
    refine am_gsOWN X gs_X0_40 dX0_from_59 ?_
    refine am_iload (x := 1) X (by rfl) dX0_from_62 ?_
    refine am_ic X (by decide) dX0_from_64 ?_
    refine am_mul (v := 4) X (by first | rfl | omega) (by omega) dX0_from_65 ?_
    refine am_iload_n (x := 0) X (by rfl) dX0_from_66 ?_
    refine am_add (v := 4) X (by first | rfl | omega) (by omega) dX0_from_67 ?_
    refine am_ldOWN X (by decide) (by decide) (by unfold R32; decide) dX0_from_68 ?_
    show am_G K 69 [some (vr 46), some (vi 7), some (vi 0), some (vi x), some (vi dp), some (vi 1), some (vi 2)] [vi 20] SH σ
    refine am_istore (i := 6) (L' := [some (vr 46), some (vi 7), some (vi 0), some (vi x), some (vi dp), some (vi 1), some (vi 20)]) X (Nat.le_of_ble_eq_true rfl) (by rfl) dX0_from_69 ?_
    refine am_aload_n (x := 46) X (by rfl) dX0_from_71 ?_
    refine am_iload (x := 20) X (by rfl) dX0_from_72 ?_
    refine am_callVv (ci := 0) X hY lk_X0_43 mf_X0_note (m_X0_note 20 σ (by omega)) (by omega) (by decide) (Nat.le_refl _) (Nat.le_refl _) sh_46 rfl rfl rfl (Nat.le_of_ble_eq_true rfl) dX0_from_74 (fun sh74 σ74 hp74 => ?_)
    obtain ⟨rfl, rfl, -⟩ := hp74
    refine am_sg (bn [20] σ) rfl ?_
    refine am_iload (x := 1) X (by rfl) dX0_from_77 ?_
    refine am_if_ne (tgt := 96) X dX0_from_79 (by decide) (fun _ => ?_) (fun h => absurd h (by decide))
    refine am_aload_n (x := 46) X (by rfl) dX0_from_96 ?_
    refine am_iload (x := 20) X (by rfl) dX0_from_97 ?_
    refine am_gsABOVE X gs_X0_26 dX0_from_99 ?_
    refine am_iload (x := 1) X (by rfl) dX0_from_102 ?_
    refine am_ldABOVE X (by decide) (by decide) (by unfold R32; decide) dX0_from_104 ?_
    show am_G K 105 [some (vr 46), some (vi 7), some (vi 0), some (vi x), some (vi dp), some (vi 1), some (vi 20)] [vi 0, vi 20, vr 46] SH (bn [20] σ)
    refine am_iload_n (x := x) X (by rfl) dX0_from_105 ?_
    refine am_iload (x := dp) X (by rfl) dX0_from_106 ?_
    refine am_ic X (by decide) dX0_from_108 ?_
    refine am_add (v := (dp + 1)) X (by first | rfl | omega) (by omega) dX0_from_109 ?_
    refine am_callVi (ci := 0) X hY lk_X0_50 mf_X0_runUnderDay (H1.2 x (dp + 1) ac (bn [20] σ) (by omega) (by omega) ((bn_at [20] (by decide) (Or.inr (by decide))).trans hac) hac2 ((bn_at [20] (by decide) (Or.inl (by decide))).trans hK) (by rw [bn_3]; simp only [List.length_cons, List.length_append, List.length_nil] at hr ⊢; omega)) (by omega) (by decide) (Nat.le_refl _) (Nat.le_refl _) sh_46 rfl rfl rfl (Nat.le_of_ble_eq_true rfl) dX0_from_110 (fun r110 sh110 σ110 hr110 hp110 => ?_)
    obtain ⟨rfl, rfl, hq110⟩ := hp110
    refine am_sg (bn ([20] ++ l1) σ) (bn_app _ _ _) ?_
    exact hret _ _ _ _ _ dX0_from_113 rfl rfl (by subst_vars; exact ⟨rfl, by first | rfl | (simp only [List.cons_append, List.nil_append, List.append_assoc]), rfl⟩)
  · skip
    (exfalso; omega)

set_option maxHeartbeats 4000000 in
set_option maxRecDepth 100000 in
theorem gf7_1 {kd : Int}  {d1 h1 : Nat} {l1 : List Int} {v1 : Int → Int → Int} (H1 : bCu 80 4 kd d1 h1 l1 v1) (x dp : Int) (ac : Nat) (σ : am_H) (hdp : 0 ≤ dp) (hdh : dp + (((h1 + 1) : Nat) : Int) ≤ 40) (hac : σ 46 4 = (ac : Int)) (hac2 : ac < 50) (hK : σ 47 ac = kd) (hr : 0 ≤ σ 46 3 ∧ σ 46 3 + ((80 :: l1).length : Int) ≤ 1000) : am_Mi yX0_from cX0_from 7 (some .int) (d1 + 1) 0 0 [vr 46, vi 7, vi 1, vi x, vi dp] SH σ (fun r sh' σ' => SH = sh' ∧ bn (80 :: l1) σ = σ' ∧ r = v1 x (ac : Int)) := by
  refine am_Mi_of (by decide +kernel) (Nat.le_of_ble_eq_true rfl) (fun K X hY hI hret => ?_)
  show am_G K 0 [some (vr 46), some (vi 7), some (vi 1), some (vi x), some (vi dp), none, none] [] SH σ
  refine am_iload_n (x := 7) X (by rfl) dX0_from_0 ?_
  refine am_istore (i := 5) (L' := [some (vr 46), some (vi 7), some (vi 1), some (vi x), some (vi dp), some (vi 7), none]) X (Nat.le_of_ble_eq_true rfl) (by rfl) dX0_from_1 ?_
  refine am_ic X (by decide) dX0_from_3 ?_
  refine am_istore (i := 6) (L' := [some (vr 46), some (vi 7), some (vi 1), some (vi x), some (vi dp), some (vi 7), some (vi 0)]) X (Nat.le_of_ble_eq_true rfl) (by rfl) dX0_from_4 ?_
  refine am_iload (x := 0) X (by rfl) dX0_from_6 ?_
  refine am_bipush X (by decide) dX0_from_8 ?_
  refine am_icmp_ge (tgt := 45) X dX0_from_10 (by decide) (fun h => absurd h (by decide)) (fun _ => ?_)
  refine am_iload (x := 7) X (by rfl) dX0_from_13 ?_
  refine am_if_le (tgt := 45) X dX0_from_15 (by decide) (fun h => absurd h (by decide)) (fun _ => ?_)
  refine am_gsOWN X gs_X0_40 dX0_from_18 ?_
  refine am_iload (x := 7) X (by rfl) dX0_from_21 ?_
  refine am_ic X (by decide) dX0_from_23 ?_
  refine am_mul (v := 28) X (by first | rfl | omega) (by omega) dX0_from_24 ?_
  refine am_iload_n (x := 1) X (by rfl) dX0_from_25 ?_
  refine am_add (v := 29) X (by first | rfl | omega) (by omega) dX0_from_26 ?_
  refine am_ldOWN X (by decide) (by decide) (by unfold R32; decide) dX0_from_27 ?_
  show am_G K 28 [some (vr 46), some (vi 7), some (vi 1), some (vi x), some (vi dp), some (vi 7), some (vi 0)] [vi 80] SH σ
  refine am_if_ne (tgt := 45) X dX0_from_28 (by decide) (fun _ => ?_) (fun h => absurd h (by decide))
  refine am_iload (x := 7) X (by rfl) dX0_from_45 ?_
  refine am_if_lt (tgt := 57) X dX0_from_47 (by decide) (fun h => absurd h (by decide)) (fun _ => ?_)
  refine am_iload (x := dp) X (by rfl) dX0_from_50 ?_
  refine am_bipush X (by decide) dX0_from_52 ?_
  refine am_icmp_le (tgt := 59) X dX0_from_54 (by decide) (fun h54 => ?_) (fun h54 => ?_)
  · skip
    refine am_gsOWN X gs_X0_40 dX0_from_59 ?_
    refine am_iload (x := 7) X (by rfl) dX0_from_62 ?_
    refine am_ic X (by decide) dX0_from_64 ?_
    refine am_mul (v := 28) X (by first | rfl | omega) (by omega) dX0_from_65 ?_
    refine am_iload_n (x := 1) X (by rfl) dX0_from_66 ?_
    refine am_add (v := 29) X (by first | rfl | omega) (by omega) dX0_from_67 ?_
    refine am_ldOWN X (by decide) (by decide) (by unfold R32; decide) dX0_from_68 ?_
    show am_G K 69 [some (vr 46), some (vi 7), some (vi 1), some (vi x), some (vi dp), some (vi 7), some (vi 0)] [vi 80] SH σ
    refine am_istore (i := 6) (L' := [some (vr 46), some (vi 7), some (vi 1), some (vi x), some (vi dp), some (vi 7), some (vi 80)]) X (Nat.le_of_ble_eq_true rfl) (by rfl) dX0_from_69 ?_
    refine am_aload_n (x := 46) X (by rfl) dX0_from_71 ?_
    refine am_iload (x := 80) X (by rfl) dX0_from_72 ?_
    refine am_callVv (ci := 0) X hY lk_X0_43 mf_X0_note (m_X0_note 80 σ (by omega)) (by omega) (by decide) (Nat.le_refl _) (Nat.le_refl _) sh_46 rfl rfl rfl (Nat.le_of_ble_eq_true rfl) dX0_from_74 (fun sh74 σ74 hp74 => ?_)
    obtain ⟨rfl, rfl, -⟩ := hp74
    refine am_sg (bn [80] σ) rfl ?_
    refine am_iload (x := 7) X (by rfl) dX0_from_77 ?_
    refine am_if_ne (tgt := 96) X dX0_from_79 (by decide) (fun _ => ?_) (fun h => absurd h (by decide))
    refine am_aload_n (x := 46) X (by rfl) dX0_from_96 ?_
    refine am_iload (x := 80) X (by rfl) dX0_from_97 ?_
    refine am_gsABOVE X gs_X0_26 dX0_from_99 ?_
    refine am_iload (x := 7) X (by rfl) dX0_from_102 ?_
    refine am_ldABOVE X (by decide) (by decide) (by unfold R32; decide) dX0_from_104 ?_
    show am_G K 105 [some (vr 46), some (vi 7), some (vi 1), some (vi x), some (vi dp), some (vi 7), some (vi 80)] [vi 4, vi 80, vr 46] SH (bn [80] σ)
    refine am_iload_n (x := x) X (by rfl) dX0_from_105 ?_
    refine am_iload (x := dp) X (by rfl) dX0_from_106 ?_
    refine am_ic X (by decide) dX0_from_108 ?_
    refine am_add (v := (dp + 1)) X (by first | rfl | omega) (by omega) dX0_from_109 ?_
    refine am_callVi (ci := 0) X hY lk_X0_50 mf_X0_runUnderDay (H1.2 x (dp + 1) ac (bn [80] σ) (by omega) (by omega) ((bn_at [80] (by decide) (Or.inr (by decide))).trans hac) hac2 ((bn_at [80] (by decide) (Or.inl (by decide))).trans hK) (by rw [bn_3]; simp only [List.length_cons, List.length_append, List.length_nil] at hr ⊢; omega)) (by omega) (by decide) (Nat.le_refl _) (Nat.le_refl _) sh_46 rfl rfl rfl (Nat.le_of_ble_eq_true rfl) dX0_from_110 (fun r110 sh110 σ110 hr110 hp110 => ?_)
    obtain ⟨rfl, rfl, hq110⟩ := hp110
    refine am_sg (bn ([80] ++ l1) σ) (bn_app _ _ _) ?_
    exact hret _ _ _ _ _ dX0_from_113 rfl rfl (by subst_vars; exact ⟨rfl, by first | rfl | (simp only [List.cons_append, List.nil_append, List.append_assoc]), rfl⟩)
  · skip
    (exfalso; omega)

set_option maxHeartbeats 4000000 in
set_option maxRecDepth 100000 in
theorem gf7_2 {kd : Int}  {d1 h1 : Nat} {l1 : List Int} {v1 : Int → Int → Int} (H1 : bCu 50 1 kd d1 h1 l1 v1) (x dp : Int) (ac : Nat) (σ : am_H) (hdp : 0 ≤ dp) (hdh : dp + (((h1 + 1) : Nat) : Int) ≤ 40) (hac : σ 46 4 = (ac : Int)) (hac2 : ac < 50) (hK : σ 47 ac = kd) (hr : 0 ≤ σ 46 3 ∧ σ 46 3 + ((50 :: l1).length : Int) ≤ 1000) : am_Mi yX0_from cX0_from 7 (some .int) (d1 + 1) 0 0 [vr 46, vi 7, vi 2, vi x, vi dp] SH σ (fun r sh' σ' => SH = sh' ∧ bn (50 :: l1) σ = σ' ∧ r = v1 x (ac : Int)) := by
  refine am_Mi_of (by decide +kernel) (Nat.le_of_ble_eq_true rfl) (fun K X hY hI hret => ?_)
  show am_G K 0 [some (vr 46), some (vi 7), some (vi 2), some (vi x), some (vi dp), none, none] [] SH σ
  refine am_iload_n (x := 7) X (by rfl) dX0_from_0 ?_
  refine am_istore (i := 5) (L' := [some (vr 46), some (vi 7), some (vi 2), some (vi x), some (vi dp), some (vi 7), none]) X (Nat.le_of_ble_eq_true rfl) (by rfl) dX0_from_1 ?_
  refine am_ic X (by decide) dX0_from_3 ?_
  refine am_istore (i := 6) (L' := [some (vr 46), some (vi 7), some (vi 2), some (vi x), some (vi dp), some (vi 7), some (vi 0)]) X (Nat.le_of_ble_eq_true rfl) (by rfl) dX0_from_4 ?_
  refine am_iload (x := 0) X (by rfl) dX0_from_6 ?_
  refine am_bipush X (by decide) dX0_from_8 ?_
  refine am_icmp_ge (tgt := 45) X dX0_from_10 (by decide) (fun h => absurd h (by decide)) (fun _ => ?_)
  refine am_iload (x := 7) X (by rfl) dX0_from_13 ?_
  refine am_if_le (tgt := 45) X dX0_from_15 (by decide) (fun h => absurd h (by decide)) (fun _ => ?_)
  refine am_gsOWN X gs_X0_40 dX0_from_18 ?_
  refine am_iload (x := 7) X (by rfl) dX0_from_21 ?_
  refine am_ic X (by decide) dX0_from_23 ?_
  refine am_mul (v := 28) X (by first | rfl | omega) (by omega) dX0_from_24 ?_
  refine am_iload_n (x := 2) X (by rfl) dX0_from_25 ?_
  refine am_add (v := 30) X (by first | rfl | omega) (by omega) dX0_from_26 ?_
  refine am_ldOWN X (by decide) (by decide) (by unfold R32; decide) dX0_from_27 ?_
  show am_G K 28 [some (vr 46), some (vi 7), some (vi 2), some (vi x), some (vi dp), some (vi 7), some (vi 0)] [vi 0] SH σ
  refine am_if_ne (tgt := 45) X dX0_from_28 (by decide) (fun h => absurd h (by decide)) (fun _ => ?_)
  refine am_gsABOVE X gs_X0_26 dX0_from_31 ?_
  refine am_iload (x := 7) X (by rfl) dX0_from_34 ?_
  refine am_ldABOVE X (by decide) (by decide) (by unfold R32; decide) dX0_from_36 ?_
  show am_G K 37 [some (vr 46), some (vi 7), some (vi 2), some (vi x), some (vi dp), some (vi 7), some (vi 0)] [vi 4] SH σ
  refine am_istore (i := 5) (L' := [some (vr 46), some (vi 7), some (vi 2), some (vi x), some (vi dp), some (vi 4), some (vi 0)]) X (Nat.le_of_ble_eq_true rfl) (by rfl) dX0_from_37 ?_
  refine am_inc (x := 0) (v := 1) (L' := [some (vr 46), some (vi 7), some (vi 2), some (vi x), some (vi dp), some (vi 4), some (vi 1)]) X (by rfl) (by omega) (by omega) (by rfl) dX0_from_39 ?_
  refine am_goto (tgt := 6) X dX0_from_42 (by decide) ?_
  refine am_iload (x := 1) X (by rfl) dX0_from_6 ?_
  refine am_bipush X (by decide) dX0_from_8 ?_
  refine am_icmp_ge (tgt := 45) X dX0_from_10 (by decide) (fun h => absurd h (by decide)) (fun _ => ?_)
  refine am_iload (x := 4) X (by rfl) dX0_from_13 ?_
  refine am_if_le (tgt := 45) X dX0_from_15 (by decide) (fun h => absurd h (by decide)) (fun _ => ?_)
  refine am_gsOWN X gs_X0_40 dX0_from_18 ?_
  refine am_iload (x := 4) X (by rfl) dX0_from_21 ?_
  refine am_ic X (by decide) dX0_from_23 ?_
  refine am_mul (v := 16) X (by first | rfl | omega) (by omega) dX0_from_24 ?_
  refine am_iload_n (x := 2) X (by rfl) dX0_from_25 ?_
  refine am_add (v := 18) X (by first | rfl | omega) (by omega) dX0_from_26 ?_
  refine am_ldOWN X (by decide) (by decide) (by unfold R32; decide) dX0_from_27 ?_
  show am_G K 28 [some (vr 46), some (vi 7), some (vi 2), some (vi x), some (vi dp), some (vi 4), some (vi 1)] [vi 50] SH σ
  refine am_if_ne (tgt := 45) X dX0_from_28 (by decide) (fun _ => ?_) (fun h => absurd h (by decide))
  refine am_iload (x := 4) X (by rfl) dX0_from_45 ?_
  refine am_if_lt (tgt := 57) X dX0_from_47 (by decide) (fun h => absurd h (by decide)) (fun _ => ?_)
  refine am_iload (x := dp) X (by rfl) dX0_from_50 ?_
  refine am_bipush X (by decide) dX0_from_52 ?_
  refine am_icmp_le (tgt := 59) X dX0_from_54 (by decide) (fun h54 => ?_) (fun h54 => ?_)
  · skip
    refine am_gsOWN X gs_X0_40 dX0_from_59 ?_
    refine am_iload (x := 4) X (by rfl) dX0_from_62 ?_
    refine am_ic X (by decide) dX0_from_64 ?_
    refine am_mul (v := 16) X (by first | rfl | omega) (by omega) dX0_from_65 ?_
    refine am_iload_n (x := 2) X (by rfl) dX0_from_66 ?_
    refine am_add (v := 18) X (by first | rfl | omega) (by omega) dX0_from_67 ?_
    refine am_ldOWN X (by decide) (by decide) (by unfold R32; decide) dX0_from_68 ?_
    show am_G K 69 [some (vr 46), some (vi 7), some (vi 2), some (vi x), some (vi dp), some (vi 4), some (vi 1)] [vi 50] SH σ
    refine am_istore (i := 6) (L' := [some (vr 46), some (vi 7), some (vi 2), some (vi x), some (vi dp), some (vi 4), some (vi 50)]) X (Nat.le_of_ble_eq_true rfl) (by rfl) dX0_from_69 ?_
    refine am_aload_n (x := 46) X (by rfl) dX0_from_71 ?_
    refine am_iload (x := 50) X (by rfl) dX0_from_72 ?_
    refine am_callVv (ci := 0) X hY lk_X0_43 mf_X0_note (m_X0_note 50 σ (by omega)) (by omega) (by decide) (Nat.le_refl _) (Nat.le_refl _) sh_46 rfl rfl rfl (Nat.le_of_ble_eq_true rfl) dX0_from_74 (fun sh74 σ74 hp74 => ?_)
    obtain ⟨rfl, rfl, -⟩ := hp74
    refine am_sg (bn [50] σ) rfl ?_
    refine am_iload (x := 4) X (by rfl) dX0_from_77 ?_
    refine am_if_ne (tgt := 96) X dX0_from_79 (by decide) (fun _ => ?_) (fun h => absurd h (by decide))
    refine am_aload_n (x := 46) X (by rfl) dX0_from_96 ?_
    refine am_iload (x := 50) X (by rfl) dX0_from_97 ?_
    refine am_gsABOVE X gs_X0_26 dX0_from_99 ?_
    refine am_iload (x := 4) X (by rfl) dX0_from_102 ?_
    refine am_ldABOVE X (by decide) (by decide) (by unfold R32; decide) dX0_from_104 ?_
    show am_G K 105 [some (vr 46), some (vi 7), some (vi 2), some (vi x), some (vi dp), some (vi 4), some (vi 50)] [vi 1, vi 50, vr 46] SH (bn [50] σ)
    refine am_iload_n (x := x) X (by rfl) dX0_from_105 ?_
    refine am_iload (x := dp) X (by rfl) dX0_from_106 ?_
    refine am_ic X (by decide) dX0_from_108 ?_
    refine am_add (v := (dp + 1)) X (by first | rfl | omega) (by omega) dX0_from_109 ?_
    refine am_callVi (ci := 0) X hY lk_X0_50 mf_X0_runUnderDay (H1.2 x (dp + 1) ac (bn [50] σ) (by omega) (by omega) ((bn_at [50] (by decide) (Or.inr (by decide))).trans hac) hac2 ((bn_at [50] (by decide) (Or.inl (by decide))).trans hK) (by rw [bn_3]; simp only [List.length_cons, List.length_append, List.length_nil] at hr ⊢; omega)) (by omega) (by decide) (Nat.le_refl _) (Nat.le_refl _) sh_46 rfl rfl rfl (Nat.le_of_ble_eq_true rfl) dX0_from_110 (fun r110 sh110 σ110 hr110 hp110 => ?_)
    obtain ⟨rfl, rfl, hq110⟩ := hp110
    refine am_sg (bn ([50] ++ l1) σ) (bn_app _ _ _) ?_
    exact hret _ _ _ _ _ dX0_from_113 rfl rfl (by subst_vars; exact ⟨rfl, by first | rfl | (simp only [List.cons_append, List.nil_append, List.append_assoc]), rfl⟩)
  · skip
    (exfalso; omega)

set_option maxHeartbeats 4000000 in
set_option maxRecDepth 100000 in
theorem gf7_3 {kd : Int}  {d1 h1 : Nat} {l1 : List Int} {v1 : Int → Int → Int} (H1 : bCu 81 4 kd d1 h1 l1 v1) (x dp : Int) (ac : Nat) (σ : am_H) (hdp : 0 ≤ dp) (hdh : dp + (((h1 + 1) : Nat) : Int) ≤ 40) (hac : σ 46 4 = (ac : Int)) (hac2 : ac < 50) (hK : σ 47 ac = kd) (hr : 0 ≤ σ 46 3 ∧ σ 46 3 + ((81 :: l1).length : Int) ≤ 1000) : am_Mi yX0_from cX0_from 7 (some .int) (d1 + 1) 0 0 [vr 46, vi 7, vi 3, vi x, vi dp] SH σ (fun r sh' σ' => SH = sh' ∧ bn (81 :: l1) σ = σ' ∧ r = v1 x (ac : Int)) := by
  refine am_Mi_of (by decide +kernel) (Nat.le_of_ble_eq_true rfl) (fun K X hY hI hret => ?_)
  show am_G K 0 [some (vr 46), some (vi 7), some (vi 3), some (vi x), some (vi dp), none, none] [] SH σ
  refine am_iload_n (x := 7) X (by rfl) dX0_from_0 ?_
  refine am_istore (i := 5) (L' := [some (vr 46), some (vi 7), some (vi 3), some (vi x), some (vi dp), some (vi 7), none]) X (Nat.le_of_ble_eq_true rfl) (by rfl) dX0_from_1 ?_
  refine am_ic X (by decide) dX0_from_3 ?_
  refine am_istore (i := 6) (L' := [some (vr 46), some (vi 7), some (vi 3), some (vi x), some (vi dp), some (vi 7), some (vi 0)]) X (Nat.le_of_ble_eq_true rfl) (by rfl) dX0_from_4 ?_
  refine am_iload (x := 0) X (by rfl) dX0_from_6 ?_
  refine am_bipush X (by decide) dX0_from_8 ?_
  refine am_icmp_ge (tgt := 45) X dX0_from_10 (by decide) (fun h => absurd h (by decide)) (fun _ => ?_)
  refine am_iload (x := 7) X (by rfl) dX0_from_13 ?_
  refine am_if_le (tgt := 45) X dX0_from_15 (by decide) (fun h => absurd h (by decide)) (fun _ => ?_)
  refine am_gsOWN X gs_X0_40 dX0_from_18 ?_
  refine am_iload (x := 7) X (by rfl) dX0_from_21 ?_
  refine am_ic X (by decide) dX0_from_23 ?_
  refine am_mul (v := 28) X (by first | rfl | omega) (by omega) dX0_from_24 ?_
  refine am_iload_n (x := 3) X (by rfl) dX0_from_25 ?_
  refine am_add (v := 31) X (by first | rfl | omega) (by omega) dX0_from_26 ?_
  refine am_ldOWN X (by decide) (by decide) (by unfold R32; decide) dX0_from_27 ?_
  show am_G K 28 [some (vr 46), some (vi 7), some (vi 3), some (vi x), some (vi dp), some (vi 7), some (vi 0)] [vi 81] SH σ
  refine am_if_ne (tgt := 45) X dX0_from_28 (by decide) (fun _ => ?_) (fun h => absurd h (by decide))
  refine am_iload (x := 7) X (by rfl) dX0_from_45 ?_
  refine am_if_lt (tgt := 57) X dX0_from_47 (by decide) (fun h => absurd h (by decide)) (fun _ => ?_)
  refine am_iload (x := dp) X (by rfl) dX0_from_50 ?_
  refine am_bipush X (by decide) dX0_from_52 ?_
  refine am_icmp_le (tgt := 59) X dX0_from_54 (by decide) (fun h54 => ?_) (fun h54 => ?_)
  · skip
    refine am_gsOWN X gs_X0_40 dX0_from_59 ?_
    refine am_iload (x := 7) X (by rfl) dX0_from_62 ?_
    refine am_ic X (by decide) dX0_from_64 ?_
    refine am_mul (v := 28) X (by first | rfl | omega) (by omega) dX0_from_65 ?_
    refine am_iload_n (x := 3) X (by rfl) dX0_from_66 ?_
    refine am_add (v := 31) X (by first | rfl | omega) (by omega) dX0_from_67 ?_
    refine am_ldOWN X (by decide) (by decide) (by unfold R32; decide) dX0_from_68 ?_
    show am_G K 69 [some (vr 46), some (vi 7), some (vi 3), some (vi x), some (vi dp), some (vi 7), some (vi 0)] [vi 81] SH σ
    refine am_istore (i := 6) (L' := [some (vr 46), some (vi 7), some (vi 3), some (vi x), some (vi dp), some (vi 7), some (vi 81)]) X (Nat.le_of_ble_eq_true rfl) (by rfl) dX0_from_69 ?_
    refine am_aload_n (x := 46) X (by rfl) dX0_from_71 ?_
    refine am_iload (x := 81) X (by rfl) dX0_from_72 ?_
    refine am_callVv (ci := 0) X hY lk_X0_43 mf_X0_note (m_X0_note 81 σ (by omega)) (by omega) (by decide) (Nat.le_refl _) (Nat.le_refl _) sh_46 rfl rfl rfl (Nat.le_of_ble_eq_true rfl) dX0_from_74 (fun sh74 σ74 hp74 => ?_)
    obtain ⟨rfl, rfl, -⟩ := hp74
    refine am_sg (bn [81] σ) rfl ?_
    refine am_iload (x := 7) X (by rfl) dX0_from_77 ?_
    refine am_if_ne (tgt := 96) X dX0_from_79 (by decide) (fun _ => ?_) (fun h => absurd h (by decide))
    refine am_aload_n (x := 46) X (by rfl) dX0_from_96 ?_
    refine am_iload (x := 81) X (by rfl) dX0_from_97 ?_
    refine am_gsABOVE X gs_X0_26 dX0_from_99 ?_
    refine am_iload (x := 7) X (by rfl) dX0_from_102 ?_
    refine am_ldABOVE X (by decide) (by decide) (by unfold R32; decide) dX0_from_104 ?_
    show am_G K 105 [some (vr 46), some (vi 7), some (vi 3), some (vi x), some (vi dp), some (vi 7), some (vi 81)] [vi 4, vi 81, vr 46] SH (bn [81] σ)
    refine am_iload_n (x := x) X (by rfl) dX0_from_105 ?_
    refine am_iload (x := dp) X (by rfl) dX0_from_106 ?_
    refine am_ic X (by decide) dX0_from_108 ?_
    refine am_add (v := (dp + 1)) X (by first | rfl | omega) (by omega) dX0_from_109 ?_
    refine am_callVi (ci := 0) X hY lk_X0_50 mf_X0_runUnderDay (H1.2 x (dp + 1) ac (bn [81] σ) (by omega) (by omega) ((bn_at [81] (by decide) (Or.inr (by decide))).trans hac) hac2 ((bn_at [81] (by decide) (Or.inl (by decide))).trans hK) (by rw [bn_3]; simp only [List.length_cons, List.length_append, List.length_nil] at hr ⊢; omega)) (by omega) (by decide) (Nat.le_refl _) (Nat.le_refl _) sh_46 rfl rfl rfl (Nat.le_of_ble_eq_true rfl) dX0_from_110 (fun r110 sh110 σ110 hr110 hp110 => ?_)
    obtain ⟨rfl, rfl, hq110⟩ := hp110
    refine am_sg (bn ([81] ++ l1) σ) (bn_app _ _ _) ?_
    exact hret _ _ _ _ _ dX0_from_113 rfl rfl (by subst_vars; exact ⟨rfl, by first | rfl | (simp only [List.cons_append, List.nil_append, List.append_assoc]), rfl⟩)
  · skip
    (exfalso; omega)
