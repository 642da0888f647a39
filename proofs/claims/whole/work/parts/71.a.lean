set_option maxHeartbeats 4000000 in
set_option maxRecDepth 100000 in
theorem gr1 {kd : Int}   (x dp : Int) (ac : Nat) (σ : am_H) (hdp : 0 ≤ dp) (hdh : dp + ((0 : Nat) : Int) ≤ 40) (hac : σ 46 4 = (ac : Int)) (hac2 : ac < 50) (hK : σ 47 ac = kd) (hr : 0 ≤ σ 46 3 ∧ σ 46 3 + (([] : List Int).length : Int) ≤ 1000) : am_Mi yX0_runOfDay cX0_runOfDay 4 (some .int) 0 0 0 [vr 46, vi 1, vi x, vi dp] SH σ (fun r sh' σ' => SH = sh' ∧ bn ([] : List Int) σ = σ' ∧ r = w32 (x + (ac : Int))) := by
  refine am_Mi_of (by decide +kernel) (Nat.le_of_ble_eq_true rfl) (fun K X hY hI hret => ?_)
  show am_G K 0 [some (vr 46), some (vi 1), some (vi x), some (vi dp)] [] SH σ
  refine am_iload_n (x := 1) X (by rfl) dX0_runOfDay_0 ?_
  refine am_lookup (off := 35) (tgt := 36) X dX0_runOfDay_1 (by decide) (by rfl) (by decide) ?_
  refine am_iload_n (x := x) X (by rfl) dX0_runOfDay_36 ?_
  refine am_aload_n (x := 46) X (by rfl) dX0_runOfDay_37 ?_
  refine am_get (v := (ac : Int)) X 46 fl_X0_29 (by decide) sh_46 (by decide) (hac) dX0_runOfDay_38 ?_
  refine am_iadd X dX0_runOfDay_41 ?_
  exact hret _ _ _ _ _ dX0_runOfDay_42 rfl rfl (by subst_vars; exact ⟨rfl, by first | rfl | (simp only [List.cons_append, List.nil_append, List.append_assoc]), rfl⟩)

set_option maxHeartbeats 4000000 in
set_option maxRecDepth 100000 in
theorem gr11 {kd : Int}   (x dp : Int) (ac : Nat) (σ : am_H) (hdp : 0 ≤ dp) (hdh : dp + ((0 : Nat) : Int) ≤ 40) (hac : σ 46 4 = (ac : Int)) (hac2 : ac < 50) (hK : σ 47 ac = kd) (hr : 0 ≤ σ 46 3 ∧ σ 46 3 + (([] : List Int).length : Int) ≤ 1000) : am_Mi yX0_runOfDay cX0_runOfDay 4 (some .int) 0 0 0 [vr 46, vi 11, vi x, vi dp] SH σ (fun r sh' σ' => SH = sh' ∧ bn ([] : List Int) σ = σ' ∧ r = am_xor x (ac : Int)) := by
  refine am_Mi_of (by decide +kernel) (Nat.le_of_ble_eq_true rfl) (fun K X hY hI hret => ?_)
  show am_G K 0 [some (vr 46), some (vi 11), some (vi x), some (vi dp)] [] SH σ
  refine am_iload_n (x := 11) X (by rfl) dX0_runOfDay_0 ?_
  refine am_lookup (off := 68) (tgt := 69) X dX0_runOfDay_1 (by decide) (by rfl) (by decide) ?_
  refine am_iload_n (x := x) X (by rfl) dX0_runOfDay_69 ?_
  refine am_aload_n (x := 46) X (by rfl) dX0_runOfDay_70 ?_
  refine am_get (v := (ac : Int)) X 46 fl_X0_29 (by decide) sh_46 (by decide) (hac) dX0_runOfDay_71 ?_
  refine am_ixor X dX0_runOfDay_74 ?_
  exact hret _ _ _ _ _ dX0_runOfDay_75 rfl rfl (by subst_vars; exact ⟨rfl, by first | rfl | (simp only [List.cons_append, List.nil_append, List.append_assoc]), rfl⟩)

set_option maxHeartbeats 4000000 in
set_option maxRecDepth 100000 in
theorem gr10 {kd : Int}  {d1 h1 : Nat} {l1 : List Int} {v1 : Int → Int → Int} (H1 : bCo 0 kd d1 h1 l1 v1) (x dp : Int) (ac : Nat) (σ : am_H) (hdp : 0 ≤ dp) (hdh : dp + ((h1 : Nat) : Int) ≤ 40) (hac : σ 46 4 = (ac : Int)) (hac2 : ac < 50) (hK : σ 47 ac = kd) (hr : 0 ≤ σ 46 3 ∧ σ 46 3 + (l1.length : Int) ≤ 1000) : am_Mi yX0_runOfDay cX0_runOfDay 4 (some .int) (d1 + 1) 0 0 [vr 46, vi 10, vi x, vi dp] SH σ (fun r sh' σ' => SH = sh' ∧ bn l1 σ = σ' ∧ r = w32 (v1 x (ac : Int) * 2)) := by
  refine am_Mi_of (by decide +kernel) (Nat.le_of_ble_eq_true rfl) (fun K X hY hI hret => ?_)
  show am_G K 0 [some (vr 46), some (vi 10), some (vi x), some (vi dp)] [] SH σ
  refine am_iload_n (x := 10) X (by rfl) dX0_runOfDay_0 ?_
  refine am_lookup (off := 58) (tgt := 59) X dX0_runOfDay_1 (by decide) (by rfl) (by decide) ?_
  refine am_aload_n (x := 46) X (by rfl) dX0_runOfDay_59 ?_
  refine am_ic X (by decide) dX0_runOfDay_60 ?_
  refine am_iload_n (x := x) X (by rfl) dX0_runOfDay_61 ?_
  refine am_iload_n (x := dp) X (by rfl) dX0_runOfDay_62 ?_
  refine am_callVi (ci := 0) X hY lk_X0_32 mf_X0_own (H1.2 x dp ac σ (by omega) (by omega) hac hac2 hK (by first | omega | (simp only [List.length_cons, List.length_append, List.length_nil] at hr ⊢; omega))) (by omega) (by decide) (Nat.le_refl _) (Nat.le_refl _) sh_46 rfl rfl rfl (Nat.le_of_ble_eq_true rfl) dX0_runOfDay_63 (fun r63 sh63 σ63 hr63 hp63 => ?_)
  obtain ⟨rfl, rfl, hq63⟩ := hp63
  refine am_ic X (by decide) dX0_runOfDay_66 ?_
  refine am_imul X dX0_runOfDay_67 ?_
  exact hret _ _ _ _ _ dX0_runOfDay_68 rfl rfl (by subst_vars; exact ⟨rfl, by first | rfl | (simp only [List.cons_append, List.nil_append, List.append_assoc]), rfl⟩)

set_option maxHeartbeats 4000000 in
set_option maxRecDepth 100000 in
theorem gr2 {kd : Int}  {d1 h1 : Nat} {l1 : List Int} {v1 : Int → Int → Int} (H1 : bCo 1 kd d1 h1 l1 v1) {d2 h2 : Nat} {l2 : List Int} {v2 : Int → Int → Int} (H2 : bCo 2 kd d2 h2 l2 v2) (x dp : Int) (ac : Nat) (σ : am_H) (hdp : 0 ≤ dp) (hdh : dp + (((h1 + h2) : Nat) : Int) ≤ 40) (hac : σ 46 4 = (ac : Int)) (hac2 : ac < 50) (hK : σ 47 ac = kd) (hr : 0 ≤ σ 46 3 ∧ σ 46 3 + ((l1 ++ l2).length : Int) ≤ 1000) : am_Mi yX0_runOfDay cX0_runOfDay 4 (some .int) (d1 + d2 + 1) 0 0 [vr 46, vi 2, vi x, vi dp] SH σ (fun r sh' σ' => SH = sh' ∧ bn (l1 ++ l2) σ = σ' ∧ r = w32 (v1 x (ac : Int) - v2 1 (ac : Int))) := by
  refine am_Mi_of (by decide +kernel) (Nat.le_of_ble_eq_true rfl) (fun K X hY hI hret => ?_)
  show am_G K 0 [some (vr 46), some (vi 2), some (vi x), some (vi dp)] [] SH σ
  refine am_iload_n (x := 2) X (by rfl) dX0_runOfDay_0 ?_
  refine am_lookup (off := 42) (tgt := 43) X dX0_runOfDay_1 (by decide) (by rfl) (by decide) ?_
  refine am_aload_n (x := 46) X (by rfl) dX0_runOfDay_43 ?_
  refine am_ic X (by decide) dX0_runOfDay_44 ?_
  refine am_iload_n (x := x) X (by rfl) dX0_runOfDay_45 ?_
  refine am_iload_n (x := dp) X (by rfl) dX0_runOfDay_46 ?_
  refine am_callVi (ci := 0) X hY lk_X0_32 mf_X0_own (H1.2 x dp ac σ (by omega) (by omega) hac hac2 hK (by first | omega | (simp only [List.length_cons, List.length_append, List.length_nil] at hr ⊢; omega))) (by omega) (by decide) (Nat.le_refl _) (Nat.le_refl _) sh_46 rfl rfl rfl (Nat.le_of_ble_eq_true rfl) dX0_runOfDay_47 (fun r47 sh47 σ47 hr47 hp47 => ?_)
  obtain ⟨rfl, rfl, hq47⟩ := hp47
  refine am_aload_n (x := 46) X (by rfl) dX0_runOfDay_50 ?_
  refine am_ic X (by decide) dX0_runOfDay_51 ?_
  refine am_ic X (by decide) dX0_runOfDay_52 ?_
  refine am_iload_n (x := dp) X (by rfl) dX0_runOfDay_53 ?_
  refine am_callVi (ci := 0) X hY lk_X0_32 mf_X0_own (H2.2 1 dp ac (bn l1 σ) (by omega) (by omega) ((bn_at l1 (by decide) (Or.inr (by decide))).trans hac) hac2 ((bn_at l1 (by decide) (Or.inl (by decide))).trans hK) (by rw [bn_3]; simp only [List.length_cons, List.length_append, List.length_nil] at hr ⊢; omega)) (by omega) (by decide) (Nat.le_refl _) (Nat.le_refl _) sh_46 rfl rfl rfl (Nat.le_of_ble_eq_true rfl) dX0_runOfDay_54 (fun r54 sh54 σ54 hr54 hp54 => ?_)
  obtain ⟨rfl, rfl, hq54⟩ := hp54
  refine am_sg (bn (l1 ++ l2) σ) (bn_app _ _ _) ?_
  refine am_isub X dX0_runOfDay_57 ?_
  exact hret _ _ _ _ _ dX0_runOfDay_58 rfl rfl (by subst_vars; exact ⟨rfl, by first | rfl | (simp only [List.cons_append, List.nil_append, List.append_assoc]), rfl⟩)

set_option maxHeartbeats 4000000 in
set_option maxRecDepth 100000 in
theorem gu20 {kd : Int} {k : Int} {d1 h1 : Nat} {l1 : List Int} {v1 : Int → Int → Int} (H1 : bCf k 0 kd d1 h1 l1 v1) (x dp : Int) (ac : Nat) (σ : am_H) (hdp : 0 ≤ dp) (hdh : dp + ((h1 : Nat) : Int) ≤ 40) (hac : σ 46 4 = (ac : Int)) (hac2 : ac < 50) (hK : σ 47 ac = kd) (hr : 0 ≤ σ 46 3 ∧ σ 46 3 + (l1.length : Int) ≤ 1000) : am_Mi yX0_runUnderDay cX0_runUnderDay 5 (some .int) (d1 + 1) 0 0 [vr 46, vi 20, vi k, vi x, vi dp] SH σ (fun r sh' σ' => SH = sh' ∧ bn l1 σ = σ' ∧ r = w32 (v1 x (ac : Int) + 3)) := by
  refine am_Mi_of (by decide +kernel) (Nat.le_of_ble_eq_true rfl) (fun K X hY hI hret => ?_)
  show am_G K 0 [some (vr 46), some (vi 20), some (vi k), some (vi x), some (vi dp)] [] SH σ
  refine am_iload_n (x := 20) X (by rfl) dX0_runUnderDay_0 ?_
  refine am_lookup (off := 75) (tgt := 76) X dX0_runUnderDay_1 (by decide) (by rfl) (by decide) ?_
  refine am_aload_n (x := 46) X (by rfl) dX0_runUnderDay_76 ?_
  refine am_iload_n (x := k) X (by rfl) dX0_runUnderDay_77 ?_
  refine am_ic X (by decide) dX0_runUnderDay_78 ?_
  refine am_iload_n (x := x) X (by rfl) dX0_runUnderDay_79 ?_
  refine am_iload (x := dp) X (by rfl) dX0_runUnderDay_80 ?_
  refine am_callVi (ci := 0) X hY lk_X0_36 mf_X0_from (H1.2 x dp ac σ (by omega) (by omega) hac hac2 hK (by first | omega | (simp only [List.length_cons, List.length_append, List.length_nil] at hr ⊢; omega))) (by omega) (by decide) (Nat.le_refl _) (Nat.le_refl _) sh_46 rfl rfl rfl (Nat.le_of_ble_eq_true rfl) dX0_runUnderDay_82 (fun r82 sh82 σ82 hr82 hp82 => ?_)
  obtain ⟨rfl, rfl, hq82⟩ := hp82
  refine am_ic X (by decide) dX0_runUnderDay_85 ?_
  refine am_iadd X dX0_runUnderDay_86 ?_
  exact hret _ _ _ _ _ dX0_runUnderDay_87 rfl rfl (by subst_vars; exact ⟨rfl, by first | rfl | (simp only [List.cons_append, List.nil_append, List.append_assoc]), rfl⟩)

set_option maxHeartbeats 4000000 in
set_option maxRecDepth 100000 in
theorem gu30 {kd : Int} {k : Int} {d1 h1 : Nat} {l1 : List Int} {v1 : Int → Int → Int} (H1 : bCf k 1 kd d1 h1 l1 v1) (x dp : Int) (ac : Nat) (σ : am_H) (hdp : 0 ≤ dp) (hdh : dp + ((h1 : Nat) : Int) ≤ 40) (hac : σ 46 4 = (ac : Int)) (hac2 : ac < 50) (hK : σ 47 ac = kd) (hr : 0 ≤ σ 46 3 ∧ σ 46 3 + (l1.length : Int) ≤ 1000) : am_Mi yX0_runUnderDay cX0_runUnderDay 5 (some .int) (d1 + 1) 0 0 [vr 46, vi 30, vi k, vi x, vi dp] SH σ (fun r sh' σ' => SH = sh' ∧ bn l1 σ = σ' ∧ r = w32 (-(v1 x (ac : Int)))) := by
  refine am_Mi_of (by decide +kernel) (Nat.le_of_ble_eq_true rfl) (fun K X hY hI hret => ?_)
  show am_G K 0 [some (vr 46), some (vi 30), some (vi k), some (vi x), some (vi dp)] [] SH σ
  refine am_iload_n (x := 30) X (by rfl) dX0_runUnderDay_0 ?_
  refine am_lookup (off := 87) (tgt := 88) X dX0_runUnderDay_1 (by decide) (by rfl) (by decide) ?_
  refine am_aload_n (x := 46) X (by rfl) dX0_runUnderDay_88 ?_
  refine am_iload_n (x := k) X (by rfl) dX0_runUnderDay_89 ?_
  refine am_ic X (by decide) dX0_runUnderDay_90 ?_
  refine am_iload_n (x := x) X (by rfl) dX0_runUnderDay_91 ?_
  refine am_iload (x := dp) X (by rfl) dX0_runUnderDay_92 ?_
  refine am_callVi (ci := 0) X hY lk_X0_36 mf_X0_from (H1.2 x dp ac σ (by omega) (by omega) hac hac2 hK (by first | omega | (simp only [List.length_cons, List.length_append, List.length_nil] at hr ⊢; omega))) (by omega) (by decide) (Nat.le_refl _) (Nat.le_refl _) sh_46 rfl rfl rfl (Nat.le_of_ble_eq_true rfl) dX0_runUnderDay_94 (fun r94 sh94 σ94 hr94 hp94 => ?_)
  obtain ⟨rfl, rfl, hq94⟩ := hp94
  refine am_ineg X dX0_runUnderDay_97 ?_
  exact hret _ _ _ _ _ dX0_runUnderDay_98 rfl rfl (by subst_vars; exact ⟨rfl, by first | rfl | (simp only [List.cons_append, List.nil_append, List.append_assoc]), rfl⟩)

set_option maxHeartbeats 4000000 in
set_option maxRecDepth 100000 in
theorem gu40 {kd : Int} {k : Int} {d1 h1 : Nat} {l1 : List Int} {v1 : Int → Int → Int} (H1 : bCf k 2 kd d1 h1 l1 v1) (x dp : Int) (ac : Nat) (σ : am_H) (hdp : 0 ≤ dp) (hdh : dp + ((h1 : Nat) : Int) ≤ 40) (hac : σ 46 4 = (ac : Int)) (hac2 : ac < 50) (hK : σ 47 ac = kd) (hr : 0 ≤ σ 46 3 ∧ σ 46 3 + (l1.length : Int) ≤ 1000) : am_Mi yX0_runUnderDay cX0_runUnderDay 5 (some .int) (d1 + 1) 0 0 [vr 46, vi 40, vi k, vi x, vi dp] SH σ (fun r sh' σ' => SH = sh' ∧ bn l1 σ = σ' ∧ r = w32 (v1 x (ac : Int) * 3)) := by
  refine am_Mi_of (by decide +kernel) (Nat.le_of_ble_eq_true rfl) (fun K X hY hI hret => ?_)
  show am_G K 0 [some (vr 46), some (vi 40), some (vi k), some (vi x), some (vi dp)] [] SH σ
  refine am_iload_n (x := 40) X (by rfl) dX0_runUnderDay_0 ?_
  refine am_lookup (off := 98) (tgt := 99) X dX0_runUnderDay_1 (by decide) (by rfl) (by decide) ?_
  refine am_aload_n (x := 46) X (by rfl) dX0_runUnderDay_99 ?_
  refine am_iload_n (x := k) X (by rfl) dX0_runUnderDay_100 ?_
  refine am_ic X (by decide) dX0_runUnderDay_101 ?_
  refine am_iload_n (x := x) X (by rfl) dX0_runUnderDay_102 ?_
  refine am_iload (x := dp) X (by rfl) dX0_runUnderDay_103 ?_
  refine am_callVi (ci := 0) X hY lk_X0_36 mf_X0_from (H1.2 x dp ac σ (by omega) (by omega) hac hac2 hK (by first | omega | (simp only [List.length_cons, List.length_append, List.length_nil] at hr ⊢; omega))) (by omega) (by decide) (Nat.le_refl _) (Nat.le_refl _) sh_46 rfl rfl rfl (Nat.le_of_ble_eq_true rfl) dX0_runUnderDay_105 (fun r105 sh105 σ105 hr105 hp105 => ?_)
  obtain ⟨rfl, rfl, hq105⟩ := hp105
  refine am_ic X (by decide) dX0_runUnderDay_108 ?_
  refine am_imul X dX0_runUnderDay_109 ?_
  exact hret _ _ _ _ _ dX0_runUnderDay_110 rfl rfl (by subst_vars; exact ⟨rfl, by first | rfl | (simp only [List.cons_append, List.nil_append, List.append_assoc]), rfl⟩)

set_option maxHeartbeats 4000000 in
set_option maxRecDepth 100000 in
theorem gu41 {kd : Int} {k : Int} {d1 h1 : Nat} {l1 : List Int} {v1 : Int → Int → Int} (H1 : bCf k 1 kd d1 h1 l1 v1) (x dp : Int) (ac : Nat) (σ : am_H) (hdp : 0 ≤ dp) (hdh : dp + ((h1 : Nat) : Int) ≤ 40) (hac : σ 46 4 = (ac : Int)) (hac2 : ac < 50) (hK : σ 47 ac = kd) (hr : 0 ≤ σ 46 3 ∧ σ 46 3 + (l1.length : Int) ≤ 1000) : am_Mi yX0_runUnderDay cX0_runUnderDay 5 (some .int) (d1 + 1) 0 0 [vr 46, vi 41, vi k, vi x, vi dp] SH σ (fun r sh' σ' => SH = sh' ∧ bn l1 σ = σ' ∧ r = v1 (w32 (x + 1)) (ac : Int)) := by
  refine am_Mi_of (by decide +kernel) (Nat.le_of_ble_eq_true rfl) (fun K X hY hI hret => ?_)
  show am_G K 0 [some (vr 46), some (vi 41), some (vi k), some (vi x), some (vi dp)] [] SH σ
  refine am_iload_n (x := 41) X (by rfl) dX0_runUnderDay_0 ?_
  refine am_lookup (off := 110) (tgt := 111) X dX0_runUnderDay_1 (by decide) (by rfl) (by decide) ?_
  refine am_aload_n (x := 46) X (by rfl) dX0_runUnderDay_111 ?_
  refine am_iload_n (x := k) X (by rfl) dX0_runUnderDay_112 ?_
  refine am_ic X (by decide) dX0_runUnderDay_113 ?_
  refine am_iload_n (x := x) X (by rfl) dX0_runUnderDay_114 ?_
  refine am_ic X (by decide) dX0_runUnderDay_115 ?_
  refine am_iadd X dX0_runUnderDay_116 ?_
  refine am_iload (x := dp) X (by rfl) dX0_runUnderDay_117 ?_
  refine am_callVi (ci := 0) X hY lk_X0_36 mf_X0_from (H1.2 (w32 (x + 1)) dp ac σ (by omega) (by omega) hac hac2 hK (by first | omega | (simp only [List.length_cons, List.length_append, List.length_nil] at hr ⊢; omega))) (by omega) (by decide) (Nat.le_refl _) (Nat.le_refl _) sh_46 rfl rfl rfl (Nat.le_of_ble_eq_true rfl) dX0_runUnderDay_119 (fun r119 sh119 σ119 hr119 hp119 => ?_)
  obtain ⟨rfl, rfl, hq119⟩ := hp119
  exact hret _ _ _ _ _ dX0_runUnderDay_122 rfl rfl (by subst_vars; exact ⟨rfl, by first | rfl | (simp only [List.cons_append, List.nil_append, List.append_assoc]), rfl⟩)

set_option maxHeartbeats 4000000 in
set_option maxRecDepth 100000 in
theorem gu50 {kd : Int} {k : Int} {d1 h1 : Nat} {l1 : List Int} {v1 : Int → Int → Int} (H1 : bCf k 2 kd d1 h1 l1 v1) {d2 h2 : Nat} {l2 : List Int} {v2 : Int → Int → Int} (H2 : bCo 0 kd d2 h2 l2 v2) (x dp : Int) (ac : Nat) (σ : am_H) (hdp : 0 ≤ dp) (hdh : dp + (((h1 + h2) : Nat) : Int) ≤ 40) (hac : σ 46 4 = (ac : Int)) (hac2 : ac < 50) (hK : σ 47 ac = kd) (hr : 0 ≤ σ 46 3 ∧ σ 46 3 + ((l1 ++ l2).length : Int) ≤ 1000) : am_Mi yX0_runUnderDay cX0_runUnderDay 5 (some .int) (d1 + d2 + 1) 0 0 [vr 46, vi 50, vi k, vi x, vi dp] SH σ (fun r sh' σ' => SH = sh' ∧ bn (l1 ++ l2) σ = σ' ∧ r = w32 (v1 x (ac : Int) - v2 2 (ac : Int))) := by
  refine am_Mi_of (by decide +kernel) (Nat.le_of_ble_eq_true rfl) (fun K X hY hI hret => ?_)
  show am_G K 0 [some (vr 46), some (vi 50), some (vi k), some (vi x), some (vi dp)] [] SH σ
  refine am_iload_n (x := 50) X (by rfl) dX0_runUnderDay_0 ?_
  refine am_lookup (off := 122) (tgt := 123) X dX0_runUnderDay_1 (by decide) (by rfl) (by decide) ?_
  refine am_aload_n (x := 46) X (by rfl) dX0_runUnderDay_123 ?_
  refine am_iload_n (x := k) X (by rfl) dX0_runUnderDay_124 ?_
  refine am_ic X (by decide) dX0_runUnderDay_125 ?_
  refine am_iload_n (x := x) X (by rfl) dX0_runUnderDay_126 ?_
  refine am_iload (x := dp) X (by rfl) dX0_runUnderDay_127 ?_
  refine am_callVi (ci := 0) X hY lk_X0_36 mf_X0_from (H1.2 x dp ac σ (by omega) (by omega) hac hac2 hK (by first | omega | (simp only [List.length_cons, List.length_append, List.length_nil] at hr ⊢; omega))) (by omega) (by decide) (Nat.le_refl _) (Nat.le_refl _) sh_46 rfl rfl rfl (Nat.le_of_ble_eq_true rfl) dX0_runUnderDay_129 (fun r129 sh129 σ129 hr129 hp129 => ?_)
  obtain ⟨rfl, rfl, hq129⟩ := hp129
  refine am_aload_n (x := 46) X (by rfl) dX0_runUnderDay_132 ?_
  refine am_ic X (by decide) dX0_runUnderDay_133 ?_
  refine am_ic X (by decide) dX0_runUnderDay_134 ?_
  refine am_iload (x := dp) X (by rfl) dX0_runUnderDay_135 ?_
  refine am_callVi (ci := 0) X hY lk_X0_32 mf_X0_own (H2.2 2 dp ac (bn l1 σ) (by omega) (by omega) ((bn_at l1 (by decide) (Or.inr (by decide))).trans hac) hac2 ((bn_at l1 (by decide) (Or.inl (by decide))).trans hK) (by rw [bn_3]; simp only [List.length_cons, List.length_append, List.length_nil] at hr ⊢; omega)) (by omega) (by decide) (Nat.le_refl _) (Nat.le_refl _) sh_46 rfl rfl rfl (Nat.le_of_ble_eq_true rfl) dX0_runUnderDay_137 (fun r137 sh137 σ137 hr137 hp137 => ?_)
  obtain ⟨rfl, rfl, hq137⟩ := hp137
  refine am_sg (bn (l1 ++ l2) σ) (bn_app _ _ _) ?_
  refine am_isub X dX0_runUnderDay_140 ?_
  exact hret _ _ _ _ _ dX0_runUnderDay_141 rfl rfl (by subst_vars; exact ⟨rfl, by first | rfl | (simp only [List.cons_append, List.nil_append, List.append_assoc]), rfl⟩)

set_option maxHeartbeats 4000000 in
set_option maxRecDepth 100000 in
theorem gu60 {kd : Int} {k : Int} {d1 h1 : Nat} {l1 : List Int} {v1 : Int → Int → Int} (H1 : bCf k 3 kd d1 h1 l1 v1) (x dp : Int) (ac : Nat) (σ : am_H) (hdp : 0 ≤ dp) (hdh : dp + ((h1 : Nat) : Int) ≤ 40) (hac : σ 46 4 = (ac : Int)) (hac2 : ac < 50) (hK : σ 47 ac = kd) (hr : 0 ≤ σ 46 3 ∧ σ 46 3 + (l1.length : Int) ≤ 1000) : am_Mi yX0_runUnderDay cX0_runUnderDay 5 (some .int) (d1 + 1) 0 0 [vr 46, vi 60, vi k, vi x, vi dp] SH σ (fun r sh' σ' => SH = sh' ∧ bn l1 σ = σ' ∧ r = am_xor (v1 x (ac : Int)) 5) := by
  refine am_Mi_of (by decide +kernel) (Nat.le_of_ble_eq_true rfl) (fun K X hY hI hret => ?_)
  show am_G K 0 [some (vr 46), some (vi 60), some (vi k), some (vi x), some (vi dp)] [] SH σ
  refine am_iload_n (x := 60) X (by rfl) dX0_runUnderDay_0 ?_
  refine am_lookup (off := 141) (tgt := 142) X dX0_runUnderDay_1 (by decide) (by rfl) (by decide) ?_
  refine am_aload_n (x := 46) X (by rfl) dX0_runUnderDay_142 ?_
  refine am_iload_n (x := k) X (by rfl) dX0_runUnderDay_143 ?_
  refine am_ic X (by decide) dX0_runUnderDay_144 ?_
  refine am_iload_n (x := x) X (by rfl) dX0_runUnderDay_145 ?_
  refine am_iload (x := dp) X (by rfl) dX0_runUnderDay_146 ?_
  refine am_callVi (ci := 0) X hY lk_X0_36 mf_X0_from (H1.2 x dp ac σ (by omega) (by omega) hac hac2 hK (by first | omega | (simp only [List.length_cons, List.length_append, List.length_nil] at hr ⊢; omega))) (by omega) (by decide) (Nat.le_refl _) (Nat.le_refl _) sh_46 rfl rfl rfl (Nat.le_of_ble_eq_true rfl) dX0_runUnderDay_148 (fun r148 sh148 σ148 hr148 hp148 => ?_)
  obtain ⟨rfl, rfl, hq148⟩ := hp148
  refine am_ic X (by decide) dX0_runUnderDay_151 ?_
  refine am_ixor X dX0_runUnderDay_152 ?_
  exact hret _ _ _ _ _ dX0_runUnderDay_153 rfl rfl (by subst_vars; exact ⟨rfl, by first | rfl | (simp only [List.cons_append, List.nil_append, List.append_assoc]), rfl⟩)

set_option maxHeartbeats 4000000 in
set_option maxRecDepth 100000 in
theorem gu70 {kd : Int} {k : Int} {d1 h1 : Nat} {l1 : List Int} {v1 : Int → Int → Int} (H1 : bCf k 0 kd d1 h1 l1 v1) (x dp : Int) (ac : Nat) (σ : am_H) (hdp : 0 ≤ dp) (hdh : dp + ((h1 : Nat) : Int) ≤ 40) (hac : σ 46 4 = (ac : Int)) (hac2 : ac < 50) (hK : σ 47 ac = kd) (hr : 0 ≤ σ 46 3 ∧ σ 46 3 + (l1.length : Int) ≤ 1000) : am_Mi yX0_runUnderDay cX0_runUnderDay 5 (some .int) (d1 + 1) 0 0 [vr 46, vi 70, vi k, vi x, vi dp] SH σ (fun r sh' σ' => SH = sh' ∧ bn l1 σ = σ' ∧ r = w32 (v1 x (ac : Int) * 2)) := by
  refine am_Mi_of (by decide +kernel) (Nat.le_of_ble_eq_true rfl) (fun K X hY hI hret => ?_)
  show am_G K 0 [some (vr 46), some (vi 70), some (vi k), some (vi x), some (vi dp)] [] SH σ
  refine am_iload_n (x := 70) X (by rfl) dX0_runUnderDay_0 ?_
  refine am_lookup (off := 153) (tgt := 154) X dX0_runUnderDay_1 (by decide) (by rfl) (by decide) ?_
  refine am_aload_n (x := 46) X (by rfl) dX0_runUnderDay_154 ?_
  refine am_iload_n (x := k) X (by rfl) dX0_runUnderDay_155 ?_
  refine am_ic X (by decide) dX0_runUnderDay_156 ?_
  refine am_iload_n (x := x) X (by rfl) dX0_runUnderDay_157 ?_
  refine am_iload (x := dp) X (by rfl) dX0_runUnderDay_158 ?_
  refine am_callVi (ci := 0) X hY lk_X0_36 mf_X0_from (H1.2 x dp ac σ (by omega) (by omega) hac hac2 hK (by first | omega | (simp only [List.length_cons, List.length_append, List.length_nil] at hr ⊢; omega))) (by omega) (by decide) (Nat.le_refl _) (Nat.le_refl _) sh_46 rfl rfl rfl (Nat.le_of_ble_eq_true rfl) dX0_runUnderDay_160 (fun r160 sh160 σ160 hr160 hp160 => ?_)
  obtain ⟨rfl, rfl, hq160⟩ := hp160
  refine am_ic X (by decide) dX0_runUnderDay_163 ?_
  refine am_imul X dX0_runUnderDay_164 ?_
  exact hret _ _ _ _ _ dX0_runUnderDay_165 rfl rfl (by subst_vars; exact ⟨rfl, by first | rfl | (simp only [List.cons_append, List.nil_append, List.append_assoc]), rfl⟩)

set_option maxHeartbeats 4000000 in
set_option maxRecDepth 100000 in
theorem gu80 {kd : Int} {k : Int} {d1 h1 : Nat} {l1 : List Int} {v1 : Int → Int → Int} (H1 : bCf k 1 kd d1 h1 l1 v1) {d2 h2 : Nat} {l2 : List Int} {v2 : Int → Int → Int} (H2 : bCo 2 kd d2 h2 l2 v2) (x dp : Int) (ac : Nat) (σ : am_H) (hdp : 0 ≤ dp) (hdh : dp + (((h1 + h2) : Nat) : Int) ≤ 40) (hac : σ 46 4 = (ac : Int)) (hac2 : ac < 50) (hK : σ 47 ac = kd) (hr : 0 ≤ σ 46 3 ∧ σ 46 3 + ((l1 ++ l2).length : Int) ≤ 1000) : am_Mi yX0_runUnderDay cX0_runUnderDay 5 (some .int) (d1 + d2 + 1) 0 0 [vr 46, vi 80, vi k, vi x, vi dp] SH σ (fun r sh' σ' => SH = sh' ∧ bn (l1 ++ l2) σ = σ' ∧ r = w32 (v1 x (ac : Int) + v2 2 (ac : Int))) := by
  refine am_Mi_of (by decide +kernel) (Nat.le_of_ble_eq_true rfl) (fun K X hY hI hret => ?_)
  show am_G K 0 [some (vr 46), some (vi 80), some (vi k), some (vi x), some (vi dp)] [] SH σ
  refine am_iload_n (x := 80) X (by rfl) dX0_runUnderDay_0 ?_
  refine am_lookup (off := 165) (tgt := 166) X dX0_runUnderDay_1 (by decide) (by rfl) (by decide) ?_
  refine am_aload_n (x := 46) X (by rfl) dX0_runUnderDay_166 ?_
  refine am_iload_n (x := k) X (by rfl) dX0_runUnderDay_167 ?_
  refine am_ic X (by decide) dX0_runUnderDay_168 ?_
  refine am_iload_n (x := x) X (by rfl) dX0_runUnderDay_169 ?_
  refine am_iload (x := dp) X (by rfl) dX0_runUnderDay_170 ?_
  refine am_callVi (ci := 0) X hY lk_X0_36 mf_X0_from (H1.2 x dp ac σ (by omega) (by omega) hac hac2 hK (by first | omega | (simp only [List.length_cons, List.length_append, List.length_nil] at hr ⊢; omega))) (by omega) (by decide) (Nat.le_refl _) (Nat.le_refl _) sh_46 rfl rfl rfl (Nat.le_of_ble_eq_true rfl) dX0_runUnderDay_172 (fun r172 sh172 σ172 hr172 hp172 => ?_)
  obtain ⟨rfl, rfl, hq172⟩ := hp172
  refine am_aload_n (x := 46) X (by rfl) dX0_runUnderDay_175 ?_
  refine am_ic X (by decide) dX0_runUnderDay_176 ?_
  refine am_ic X (by decide) dX0_runUnderDay_177 ?_
  refine am_iload (x := dp) X (by rfl) dX0_runUnderDay_178 ?_
  refine am_callVi (ci := 0) X hY lk_X0_32 mf_X0_own (H2.2 2 dp ac (bn l1 σ) (by omega) (by omega) ((bn_at l1 (by decide) (Or.inr (by decide))).trans hac) hac2 ((bn_at l1 (by decide) (Or.inl (by decide))).trans hK) (by rw [bn_3]; simp only [List.length_cons, List.length_append, List.length_nil] at hr ⊢; omega)) (by omega) (by decide) (Nat.le_refl _) (Nat.le_refl _) sh_46 rfl rfl rfl (Nat.le_of_ble_eq_true rfl) dX0_runUnderDay_180 (fun r180 sh180 σ180 hr180 hp180 => ?_)
  obtain ⟨rfl, rfl, hq180⟩ := hp180
  refine am_sg (bn (l1 ++ l2) σ) (bn_app _ _ _) ?_
  refine am_iadd X dX0_runUnderDay_183 ?_
  exact hret _ _ _ _ _ dX0_runUnderDay_184 rfl rfl (by subst_vars; exact ⟨rfl, by first | rfl | (simp only [List.cons_append, List.nil_append, List.append_assoc]), rfl⟩)

set_option maxHeartbeats 4000000 in
set_option maxRecDepth 100000 in
theorem gu81 {kd : Int} {k : Int} {d1 h1 : Nat} {l1 : List Int} {v1 : Int → Int → Int} (H1 : bCf k 3 kd d1 h1 l1 v1) (x dp : Int) (ac : Nat) (σ : am_H) (hdp : 0 ≤ dp) (hdh : dp + ((h1 : Nat) : Int) ≤ 40) (hac : σ 46 4 = (ac : Int)) (hac2 : ac < 50) (hK : σ 47 ac = kd) (hr : 0 ≤ σ 46 3 ∧ σ 46 3 + (l1.length : Int) ≤ 1000) : am_Mi yX0_runUnderDay cX0_runUnderDay 5 (some .int) (d1 + 1) 0 0 [vr 46, vi 81, vi k, vi x, vi dp] SH σ (fun r sh' σ' => SH = sh' ∧ bn l1 σ = σ' ∧ r = w32 (v1 x (ac : Int) - 1)) := by
  refine am_Mi_of (by decide +kernel) (Nat.le_of_ble_eq_true rfl) (fun K X hY hI hret => ?_)
  show am_G K 0 [some (vr 46), some (vi 81), some (vi k), some (vi x), some (vi dp)] [] SH σ
  refine am_iload_n (x := 81) X (by rfl) dX0_runUnderDay_0 ?_
  refine am_lookup (off := 184) (tgt := 185) X dX0_runUnderDay_1 (by decide) (by rfl) (by decide) ?_
  refine am_aload_n (x := 46) X (by rfl) dX0_runUnderDay_185 ?_
  refine am_iload_n (x := k) X (by rfl) dX0_runUnderDay_186 ?_
  refine am_ic X (by decide) dX0_runUnderDay_187 ?_
  refine am_iload_n (x := x) X (by rfl) dX0_runUnderDay_188 ?_
  refine am_iload (x := dp) X (by rfl) dX0_runUnderDay_189 ?_
  refine am_callVi (ci := 0) X hY lk_X0_36 mf_X0_from (H1.2 x dp ac σ (by omega) (by omega) hac hac2 hK (by first | omega | (simp only [List.length_cons, List.length_append, List.length_nil] at hr ⊢; omega))) (by omega) (by decide) (Nat.le_refl _) (Nat.le_refl _) sh_46 rfl rfl rfl (Nat.le_of_ble_eq_true rfl) dX0_runUnderDay_191 (fun r191 sh191 σ191 hr191 hp191 => ?_)
  obtain ⟨rfl, rfl, hq191⟩ := hp191
  refine am_ic X (by decide) dX0_runUnderDay_194 ?_
  refine am_isub X dX0_runUnderDay_195 ?_
  exact hret _ _ _ _ _ dX0_runUnderDay_196 rfl rfl (by subst_vars; exact ⟨rfl, by first | rfl | (simp only [List.cons_append, List.nil_append, List.append_assoc]), rfl⟩)

set_option maxHeartbeats 4000000 in
set_option maxRecDepth 100000 in
theorem gown {kd : Int} {a : Int} {d1 h1 : Nat} {l1 : List Int} {v1 : Int → Int → Int} (H1 : bCf kd a kd d1 h1 l1 v1) (x dp : Int) (ac : Nat) (σ : am_H) (hdp : 0 ≤ dp) (hdh : dp + ((h1 : Nat) : Int) ≤ 40) (hac : σ 46 4 = (ac : Int)) (hac2 : ac < 50) (hK : σ 47 ac = kd) (hr : 0 ≤ σ 46 3 ∧ σ 46 3 + (l1.length : Int) ≤ 1000) : am_Mi yX0_own cX0_own 4 (some .int) (d1 + 1) 0 0 [vr 46, vi a, vi x, vi dp] SH σ (fun r sh' σ' => SH = sh' ∧ bn l1 σ = σ' ∧ r = v1 x (ac : Int)) := by
  refine am_Mi_of (by decide +kernel) (Nat.le_of_ble_eq_true rfl) (fun K X hY hI hret => ?_)
  show am_G K 0 [some (vr 46), some (vi a), some (vi x), some (vi dp)] [] SH σ
  refine am_aload_n (x := 46) X (by rfl) dX0_own_0 ?_
  refine am_aload_n (x := 46) X (by rfl) dX0_own_1 ?_
  refine am_getr (c1 := 47) X 46 fl_X0_9 (by decide) sh_46 (by decide) (by rfl) dX0_own_2 ?_
  refine am_aload_n (x := 46) X (by rfl) dX0_own_5 ?_
  refine am_get (v := (ac : Int)) X 46 fl_X0_29 (by decide) sh_46 (by decide) (hac) dX0_own_6 ?_
  refine am_ald (v := kd) X 47 ac sh_47 (by omega) (by omega) (hK) dX0_own_9 ?_
  refine am_iload_n (x := a) X (by rfl) dX0_own_10 ?_
  refine am_iload_n (x := x) X (by rfl) dX0_own_11 ?_
  refine am_iload_n (x := dp) X (by rfl) dX0_own_12 ?_
  refine am_callVi (ci := 0) X hY lk_X0_36 mf_X0_from (H1.2 x dp ac σ (by omega) (by omega) hac hac2 hK (by first | omega | (simp only [List.length_cons, List.length_append, List.length_nil] at hr ⊢; omega))) (by omega) (by decide) (Nat.le_refl _) (Nat.le_refl _) sh_46 rfl rfl rfl (Nat.le_of_ble_eq_true rfl) dX0_own_13 (fun r13 sh13 σ13 hr13 hp13 => ?_)
  obtain ⟨rfl, rfl, hq13⟩ := hp13
  exact hret _ _ _ _ _ dX0_own_16 rfl rfl (by subst_vars; exact ⟨rfl, by first | rfl | (simp only [List.cons_append, List.nil_append, List.append_assoc]), rfl⟩)
