set_option maxHeartbeats 4000000 in
set_option maxRecDepth 100000 in
theorem m_X9_debtComes (d : Nat) (hd6 : d < 6) (j : Int) (hj : -3000000000 ≤ j ∧ j ≤ 3000000000) (σ : am_H) (hp : 0 ≤ σ 1 2 ∧ σ 1 2 ≤ 8) (hc : 0 ≤ σ 16 5 ∧ σ 16 5 ≤ 20) (hl : 0 ≤ σ (51 + 2 * d) 3 ∧ σ (51 + 2 * d) 3 ≤ 60) (hv : ∀ j : Nat, (j : Int) < σ (51 + 2 * d) 3 → -32768 ≤ σ (52 + 2 * d) j ∧ σ (52 + 2 * d) j ≤ 32767) : am_Mi yX9_debtComes cX9_debtComes 9 (some .boolean) 3 0 0 [vr 0, vr (51 + 2 * d), vl j] SH σ (fun r sh' σ' => SH = sh' ∧ ((r = 1 ∧ c_comes σ d j ∧ c_come σ d j = σ') ∨ (r = 0 ∧ ¬ c_comes σ d j ∧ σ = σ'))) := by
  refine am_Mz_of (by decide +kernel) (Nat.le_of_ble_eq_true rfl) (fun K X hY hI hret => ?_)
  show am_G K 0 [some (vr 0), some (vr (51 + 2 * d)), some (vl j), none, none, none, none, none, none] [] SH σ
  refine am_lload_n (x := j) X (by rfl) dX9_debtComes_0 ?_
  refine am_lc (v := 0) X (by rfl) dX9_debtComes_1 ?_
  refine am_lcmp X dX9_debtComes_2 ?_
  refine am_topi (fun y2 hy2 => ?_)
  have hc2 : (y2 = 1 ∧ 0 < j) ∨ (y2 = 0 ∧ j = 0) ∨ (y2 = -1 ∧ j < 0) := by rw [hy2]; split <;> (try split) <;> omega
  clear hy2
  refine am_if_lt (tgt := 32) X dX9_debtComes_3 (by decide) (fun h3 => ?_) (fun h3 => ?_)
  · skip
    refine am_ic X (by decide) dX9_debtComes_32 ?_
    exact hret _ _ _ _ _ dX9_debtComes_33 rfl rfl (by (try subst hq41); (try subst hq51); (try subst hq61); (try subst hq71); exact ⟨rfl, Or.inr ⟨rfl, by unfold c_comes; omega, rfl⟩⟩) (by first | exact Or.inl rfl | exact Or.inr rfl)
  · skip
    refine am_lload_n (x := j) X (by rfl) dX9_debtComes_6 ?_
    refine am_ldc2 X (n := 3) (by unfold R64; decide) cn_X9_353 dX9_debtComes_7 ?_
    refine am_laddv (v := (j + 3)) X rfl (by omega) dX9_debtComes_10 ?_
    refine am_aload_n (x := (51 + 2 * d)) X (by rfl) dX9_debtComes_11 ?_
    refine am_get (v := σ (51 + 2 * d) 3) X (51 + 2 * d) fl_X9_252 (by decide) (sh_sf hd6) (by decide) (rfl) dX9_debtComes_12 ?_
    refine am_i2l X dX9_debtComes_15 ?_
    refine am_lcmp X dX9_debtComes_16 ?_
    refine am_topi (fun y16 hy16 => ?_)
    have hc16 : (y16 = 1 ∧ σ (51 + 2 * d) 3 < (j + 3)) ∨ (y16 = 0 ∧ (j + 3) = σ (51 + 2 * d) 3) ∨ (y16 = -1 ∧ (j + 3) < σ (51 + 2 * d) 3) := by rw [hy16]; split <;> (try split) <;> omega
    clear hy16
    refine am_if_ge (tgt := 32) X dX9_debtComes_17 (by decide) (fun h17 => ?_) (fun h17 => ?_)
    · skip
      refine am_ic X (by decide) dX9_debtComes_32 ?_
      exact hret _ _ _ _ _ dX9_debtComes_33 rfl rfl (by (try subst hq41); (try subst hq51); (try subst hq61); (try subst hq71); exact ⟨rfl, Or.inr ⟨rfl, by unfold c_comes; omega, rfl⟩⟩) (by first | exact Or.inl rfl | exact Or.inr rfl)
    · skip
      refine am_aload_n (x := 0) X (by rfl) dX9_debtComes_20 ?_
      refine am_getr (c1 := 16) X 0 fl_X9_33 (by decide) sh_0 (by decide) (by rfl) dX9_debtComes_21 ?_
      refine am_get (v := σ 16 5) X 16 fl_X9_95 (by decide) sh_16 (by decide) (rfl) dX9_debtComes_24 ?_
      refine am_bipush X (by decide) dX9_debtComes_27 ?_
      refine am_icmp_lt (tgt := 34) X dX9_debtComes_29 (by decide) (fun h29 => ?_) (fun h29 => ?_)
      · skip
        refine am_lload_n (x := j) X (by rfl) dX9_debtComes_34 ?_
        refine am_l2iv X (by omega) dX9_debtComes_35 ?_
        refine am_istore (i := 4) (L' := [some (vr 0), some (vr (51 + 2 * d)), some (vl j), none, some (vi j), none, none, none, none]) X (Nat.le_of_ble_eq_true rfl) (by rfl) dX9_debtComes_36 ?_
        refine am_aload_n (x := (51 + 2 * d)) X (by rfl) dX9_debtComes_38 ?_
        refine am_iload (x := j) X (by rfl) dX9_debtComes_39 ?_
        refine am_callVi (ci := 6) X hY lk_X9_259 mf_X7_number (m_X7_number d (by omega) j ((j).toNat) (by omega) (by omega) σ (hv _ (by omega))) (by decide) (by decide) (Nat.le_refl _) (Nat.le_refl _) (sh_sf hd6) rfl rfl rfl (Nat.le_of_ble_eq_true rfl) dX9_debtComes_41 (fun r41 sh41 σ41 hr41 hp41 => ?_)
        obtain ⟨rfl, rfl, hq41⟩ := hp41
        refine am_istore (i := 5) (L' := [some (vr 0), some (vr (51 + 2 * d)), some (vl j), none, some (vi j), some (vi r41), none, none, none]) X (Nat.le_of_ble_eq_true rfl) (by rfl) dX9_debtComes_44 ?_
        refine am_aload_n (x := (51 + 2 * d)) X (by rfl) dX9_debtComes_46 ?_
        refine am_iload (x := j) X (by rfl) dX9_debtComes_47 ?_
        refine am_ic X (by decide) dX9_debtComes_49 ?_
        refine am_add (v := (j + 1)) X (by first | rfl | omega) (by omega) dX9_debtComes_50 ?_
        refine am_callVi (ci := 6) X hY lk_X9_259 mf_X7_number (m_X7_number d (by omega) (j + 1) (((j + 1)).toNat) (by omega) (by omega) σ (hv _ (by omega))) (by decide) (by decide) (Nat.le_refl _) (Nat.le_refl _) (sh_sf hd6) rfl rfl rfl (Nat.le_of_ble_eq_true rfl) dX9_debtComes_51 (fun r51 sh51 σ51 hr51 hp51 => ?_)
        obtain ⟨rfl, rfl, hq51⟩ := hp51
        refine am_istore (i := 6) (L' := [some (vr 0), some (vr (51 + 2 * d)), some (vl j), none, some (vi j), some (vi r41), some (vi r51), none, none]) X (Nat.le_of_ble_eq_true rfl) (by rfl) dX9_debtComes_54 ?_
        refine am_aload_n (x := (51 + 2 * d)) X (by rfl) dX9_debtComes_56 ?_
        refine am_iload (x := j) X (by rfl) dX9_debtComes_57 ?_
        refine am_ic X (by decide) dX9_debtComes_59 ?_
        refine am_add (v := (j + 2)) X (by first | rfl | omega) (by omega) dX9_debtComes_60 ?_
        refine am_callVi (ci := 6) X hY lk_X9_259 mf_X7_number (m_X7_number d (by omega) (j + 2) (((j + 2)).toNat) (by omega) (by omega) σ (hv _ (by omega))) (by decide) (by decide) (Nat.le_refl _) (Nat.le_refl _) (sh_sf hd6) rfl rfl rfl (Nat.le_of_ble_eq_true rfl) dX9_debtComes_61 (fun r61 sh61 σ61 hr61 hp61 => ?_)
        obtain ⟨rfl, rfl, hq61⟩ := hp61
        refine am_istore (i := 7) (L' := [some (vr 0), some (vr (51 + 2 * d)), some (vl j), none, some (vi j), some (vi r41), some (vi r51), some (vi r61), none]) X (Nat.le_of_ble_eq_true rfl) (by rfl) dX9_debtComes_64 ?_
        refine am_aload_n (x := (51 + 2 * d)) X (by rfl) dX9_debtComes_66 ?_
        refine am_iload (x := j) X (by rfl) dX9_debtComes_67 ?_
        refine am_ic X (by decide) dX9_debtComes_69 ?_
        refine am_add (v := (j + 3)) X (by first | rfl | omega) (by omega) dX9_debtComes_70 ?_
        refine am_callVi (ci := 6) X hY lk_X9_259 mf_X7_number (m_X7_number d (by omega) (j + 3) (((j + 3)).toNat) (by omega) (by omega) σ (hv _ (by omega))) (by decide) (by decide) (Nat.le_refl _) (Nat.le_refl _) (sh_sf hd6) rfl rfl rfl (Nat.le_of_ble_eq_true rfl) dX9_debtComes_71 (fun r71 sh71 σ71 hr71 hp71 => ?_)
        obtain ⟨rfl, rfl, hq71⟩ := hp71
        refine am_istore (i := 8) (L' := [some (vr 0), some (vr (51 + 2 * d)), some (vl j), none, some (vi j), some (vi r41), some (vi r51), some (vi r61), some (vi r71)]) X (Nat.le_of_ble_eq_true rfl) (by rfl) dX9_debtComes_74 ?_
        refine am_aload_n (x := 0) X (by rfl) dX9_debtComes_76 ?_
        refine am_getr (c1 := 1) X 0 fl_X9_10 (by decide) sh_0 (by decide) (by rfl) dX9_debtComes_77 ?_
        refine am_iload (x := r41) X (by rfl) dX9_debtComes_80 ?_
        refine am_iload (x := r51) X (by rfl) dX9_debtComes_82 ?_
        refine am_callVi (ci := 5) X hY lk_X9_355 mf_X6_areUnlike (m_X6_areUnlike r41 r51 σ hp) (by decide) (by decide) (Nat.le_refl _) (Nat.le_refl _) sh_1 rfl rfl rfl (Nat.le_of_ble_eq_true rfl) dX9_debtComes_84 (fun r84 sh84 σ84 hr84 hp84 => ?_)
        obtain ⟨rfl, rfl, hq84⟩ := hp84
        refine am_if_eq (tgt := 100) X dX9_debtComes_87 (by decide) (fun h87 => ?_) (fun h87 => ?_)
        · skip
          refine am_ic X (by decide) dX9_debtComes_100 ?_
          exact hret _ _ _ _ _ dX9_debtComes_101 rfl rfl (by (try subst hq41); (try subst hq51); (try subst hq61); (try subst hq71); exact ⟨rfl, Or.inr ⟨rfl, by unfold c_comes; omega, rfl⟩⟩) (by first | exact Or.inl rfl | exact Or.inr rfl)
        · skip
          refine am_iload (x := r61) X (by rfl) dX9_debtComes_90 ?_
          refine am_iload (x := r71) X (by rfl) dX9_debtComes_92 ?_
          refine am_callSi X hY lk_X9_91 mf_X9_isDebtSo (m_X9_isDebtSo r61 r71 _ σ) (by decide) (by decide) (Nat.le_refl _) (Nat.le_refl _) rfl rfl (Nat.le_of_ble_eq_true rfl) dX9_debtComes_94 (fun r94 sh94 σ94 hr94 hp94 => ?_)
          obtain ⟨rfl, rfl, hq94⟩ := hp94
          refine am_if_ne (tgt := 102) X dX9_debtComes_97 (by decide) (fun h97 => ?_) (fun h97 => ?_)
          · skip
            refine am_aload_n (x := 0) X (by rfl) dX9_debtComes_102 ?_
            refine am_getr (c1 := 16) X 0 fl_X9_33 (by decide) sh_0 (by decide) (by rfl) dX9_debtComes_103 ?_
            refine am_iload (x := r41) X (by rfl) dX9_debtComes_106 ?_
            refine am_iload (x := r51) X (by rfl) dX9_debtComes_108 ?_
            refine am_iload (x := r61) X (by rfl) dX9_debtComes_110 ?_
            refine am_iload (x := r71) X (by rfl) dX9_debtComes_112 ?_
            refine am_callVi (ci := 4) X hY lk_X9_98 mf_X4_add (m_X4_add r41 r51 r61 r71 σ (by omega)) (by decide) (by decide) (Nat.le_refl _) (Nat.le_refl _) sh_16 rfl rfl rfl (Nat.le_of_ble_eq_true rfl) dX9_debtComes_114 (fun r114 sh114 σ114 hr114 hp114 => ?_)
            obtain ⟨rfl, rfl, hq114⟩ := hp114
            refine am_pop X (Nat.ne_of_beq_eq_false rfl) dX9_debtComes_117 ?_
            refine am_ic X (by decide) dX9_debtComes_118 ?_
            exact hret _ _ _ _ _ dX9_debtComes_119 rfl rfl (by subst hq41; subst hq51; subst hq61; subst hq71; exact ⟨rfl, Or.inl ⟨rfl, by unfold c_comes; omega, rfl⟩⟩) (by first | exact Or.inl rfl | exact Or.inr rfl)
          · skip
            refine am_ic X (by decide) dX9_debtComes_100 ?_
            exact hret _ _ _ _ _ dX9_debtComes_101 rfl rfl (by (try subst hq41); (try subst hq51); (try subst hq61); (try subst hq71); exact ⟨rfl, Or.inr ⟨rfl, by unfold c_comes; omega, rfl⟩⟩) (by first | exact Or.inl rfl | exact Or.inr rfl)
      · skip
        refine am_ic X (by decide) dX9_debtComes_32 ?_
        exact hret _ _ _ _ _ dX9_debtComes_33 rfl rfl (by (try subst hq41); (try subst hq51); (try subst hq61); (try subst hq71); exact ⟨rfl, Or.inr ⟨rfl, by unfold c_comes; omega, rfl⟩⟩) (by first | exact Or.inl rfl | exact Or.inr rfl)

set_option maxHeartbeats 4000000 in
set_option maxRecDepth 100000 in
theorem m_X0_isUnder_0 (k : Int) (sh : List am_S) (σ : am_H) : am_Mi yX0_isUnder cX0_isUnder 4 (some .boolean) 0 0 0 [vi 0, vi k] sh σ (fun r sh' σ' => sh = sh' ∧ σ = σ' ∧ am_b r (k = 0)) := by
  refine am_Mz_of (by decide +kernel) (Nat.le_of_ble_eq_true rfl) (fun K X hY hI hret => ?_)
  show am_G K 0 [some (vi 0), some (vi k), none, none] [] sh σ
  refine am_iload_n (x := 0) X (by rfl) dX0_isUnder_0 ?_
  refine am_istore_n (i := 2) (L' := [some (vi 0), some (vi k), some (vi 0), none]) X rfl (Nat.le_of_ble_eq_true rfl) (by rfl) dX0_isUnder_1 ?_
  refine am_ic X (by decide) dX0_isUnder_2 ?_
  refine am_istore_n (i := 3) (L' := [some (vi 0), some (vi k), some (vi 0), some (vi 0)]) X rfl (Nat.le_of_ble_eq_true rfl) (by rfl) dX0_isUnder_3 ?_
  refine am_iload_n (x := 0) X (by rfl) dX0_isUnder_4 ?_
  refine am_bipush X (by decide) dX0_isUnder_5 ?_
  refine am_icmp_ge (tgt := 31) X dX0_isUnder_7 (by decide) (fun h => absurd h (by decide)) (fun _ => ?_)
  refine am_iload_n (x := 0) X (by rfl) dX0_isUnder_10 ?_
  refine am_if_le (tgt := 31) X dX0_isUnder_11 (by decide) (fun _ => ?_) (fun h => absurd h (by decide))
  refine am_iload_n (x := 0) X (by rfl) dX0_isUnder_31 ?_
  refine am_iload_n (x := k) X (by rfl) dX0_isUnder_32 ?_
  refine am_icmp_ne (tgt := 40) X dX0_isUnder_33 (by decide) (fun h33 => ?_) (fun h33 => ?_)
  · skip
    refine am_ic X (by decide) dX0_isUnder_40 ?_
    exact hret _ _ _ _ _ dX0_isUnder_41 rfl rfl (by first | exact ⟨rfl, rfl, am_bt (by omega)⟩ | exact ⟨rfl, rfl, am_bf (by omega)⟩) (by first | exact Or.inl rfl | exact Or.inr rfl | omega)
  · skip
    refine am_ic X (by decide) dX0_isUnder_36 ?_
    refine am_goto (tgt := 41) X dX0_isUnder_37 (by decide) ?_
    exact hret _ _ _ _ _ dX0_isUnder_41 rfl rfl (by first | exact ⟨rfl, rfl, am_bt (by omega)⟩ | exact ⟨rfl, rfl, am_bf (by omega)⟩) (by first | exact Or.inl rfl | exact Or.inr rfl | omega)

set_option maxHeartbeats 4000000 in
set_option maxRecDepth 100000 in
theorem m_X0_isUnder_1 (k : Int) (sh : List am_S) (σ : am_H) : am_Mi yX0_isUnder cX0_isUnder 4 (some .boolean) 0 0 0 [vi 1, vi k] sh σ (fun r sh' σ' => sh = sh' ∧ σ = σ' ∧ am_b r (k = 1 ∨ k = 0)) := by
  refine am_Mz_of (by decide +kernel) (Nat.le_of_ble_eq_true rfl) (fun K X hY hI hret => ?_)
  show am_G K 0 [some (vi 1), some (vi k), none, none] [] sh σ
  refine am_iload_n (x := 1) X (by rfl) dX0_isUnder_0 ?_
  refine am_istore_n (i := 2) (L' := [some (vi 1), some (vi k), some (vi 1), none]) X rfl (Nat.le_of_ble_eq_true rfl) (by rfl) dX0_isUnder_1 ?_
  refine am_ic X (by decide) dX0_isUnder_2 ?_
  refine am_istore_n (i := 3) (L' := [some (vi 1), some (vi k), some (vi 1), some (vi 0)]) X rfl (Nat.le_of_ble_eq_true rfl) (by rfl) dX0_isUnder_3 ?_
  refine am_iload_n (x := 0) X (by rfl) dX0_isUnder_4 ?_
  refine am_bipush X (by decide) dX0_isUnder_5 ?_
  refine am_icmp_ge (tgt := 31) X dX0_isUnder_7 (by decide) (fun h => absurd h (by decide)) (fun _ => ?_)
  refine am_iload_n (x := 1) X (by rfl) dX0_isUnder_10 ?_
  refine am_if_le (tgt := 31) X dX0_isUnder_11 (by decide) (fun h => absurd h (by decide)) (fun _ => ?_)
  refine am_iload_n (x := 1) X (by rfl) dX0_isUnder_14 ?_
  refine am_iload_n (x := k) X (by rfl) dX0_isUnder_15 ?_
  refine am_icmp_eq (tgt := 31) X dX0_isUnder_16 (by decide) (fun h16 => ?_) (fun h16 => ?_)
  · skip
    refine am_iload_n (x := 1) X (by rfl) dX0_isUnder_31 ?_
    refine am_iload_n (x := k) X (by rfl) dX0_isUnder_32 ?_
    refine am_icmp_ne (tgt := 40) X dX0_isUnder_33 (by decide) (fun h33 => ?_) (fun h33 => ?_)
    · skip
      refine am_ic X (by decide) dX0_isUnder_40 ?_
      exact hret _ _ _ _ _ dX0_isUnder_41 rfl rfl (by first | exact ⟨rfl, rfl, am_bt (by omega)⟩ | exact ⟨rfl, rfl, am_bf (by omega)⟩) (by first | exact Or.inl rfl | exact Or.inr rfl | omega)
    · skip
      refine am_ic X (by decide) dX0_isUnder_36 ?_
      refine am_goto (tgt := 41) X dX0_isUnder_37 (by decide) ?_
      exact hret _ _ _ _ _ dX0_isUnder_41 rfl rfl (by first | exact ⟨rfl, rfl, am_bt (by omega)⟩ | exact ⟨rfl, rfl, am_bf (by omega)⟩) (by first | exact Or.inl rfl | exact Or.inr rfl | omega)
  · skip
    refine am_gsABOVE X gs_X0_26 dX0_isUnder_19 ?_
    refine am_iload_n (x := 1) X (by rfl) dX0_isUnder_22 ?_
    refine am_ldABOVE X (by decide) (by decide) (by unfold R32; decide) dX0_isUnder_23 ?_
    show am_G K 24 [some (vi 1), some (vi k), some (vi 1), some (vi 0)] [vi 0] sh σ
    refine am_istore_n (i := 2) (L' := [some (vi 1), some (vi k), some (vi 0), some (vi 0)]) X rfl (Nat.le_of_ble_eq_true rfl) (by rfl) dX0_isUnder_24 ?_
    refine am_inc (x := 0) (v := 1) (L' := [some (vi 1), some (vi k), some (vi 0), some (vi 1)]) X (by rfl) (by omega) (by omega) (by rfl) dX0_isUnder_25 ?_
    refine am_goto (tgt := 4) X dX0_isUnder_28 (by decide) ?_
    refine am_iload_n (x := 1) X (by rfl) dX0_isUnder_4 ?_
    refine am_bipush X (by decide) dX0_isUnder_5 ?_
    refine am_icmp_ge (tgt := 31) X dX0_isUnder_7 (by decide) (fun h => absurd h (by decide)) (fun _ => ?_)
    refine am_iload_n (x := 0) X (by rfl) dX0_isUnder_10 ?_
    refine am_if_le (tgt := 31) X dX0_isUnder_11 (by decide) (fun _ => ?_) (fun h => absurd h (by decide))
    refine am_iload_n (x := 0) X (by rfl) dX0_isUnder_31 ?_
    refine am_iload_n (x := k) X (by rfl) dX0_isUnder_32 ?_
    refine am_icmp_ne (tgt := 40) X dX0_isUnder_33 (by decide) (fun h33 => ?_) (fun h33 => ?_)
    · skip
      refine am_ic X (by decide) dX0_isUnder_40 ?_
      exact hret _ _ _ _ _ dX0_isUnder_41 rfl rfl (by first | exact ⟨rfl, rfl, am_bt (by omega)⟩ | exact ⟨rfl, rfl, am_bf (by omega)⟩) (by first | exact Or.inl rfl | exact Or.inr rfl | omega)
    · skip
      refine am_ic X (by decide) dX0_isUnder_36 ?_
      refine am_goto (tgt := 41) X dX0_isUnder_37 (by decide) ?_
      exact hret _ _ _ _ _ dX0_isUnder_41 rfl rfl (by first | exact ⟨rfl, rfl, am_bt (by omega)⟩ | exact ⟨rfl, rfl, am_bf (by omega)⟩) (by first | exact Or.inl rfl | exact Or.inr rfl | omega)

set_option maxHeartbeats 4000000 in
set_option maxRecDepth 100000 in
theorem m_X0_isUnder_2 (k : Int) (sh : List am_S) (σ : am_H) : am_Mi yX0_isUnder cX0_isUnder 4 (some .boolean) 0 0 0 [vi 2, vi k] sh σ (fun r sh' σ' => sh = sh' ∧ σ = σ' ∧ am_b r (k = 2 ∨ k = 0)) := by
  refine am_Mz_of (by decide +kernel) (Nat.le_of_ble_eq_true rfl) (fun K X hY hI hret => ?_)
  show am_G K 0 [some (vi 2), some (vi k), none, none] [] sh σ
  refine am_iload_n (x := 2) X (by rfl) dX0_isUnder_0 ?_
  refine am_istore_n (i := 2) (L' := [some (vi 2), some (vi k), some (vi 2), none]) X rfl (Nat.le_of_ble_eq_true rfl) (by rfl) dX0_isUnder_1 ?_
  refine am_ic X (by decide) dX0_isUnder_2 ?_
  refine am_istore_n (i := 3) (L' := [some (vi 2), some (vi k), some (vi 2), some (vi 0)]) X rfl (Nat.le_of_ble_eq_true rfl) (by rfl) dX0_isUnder_3 ?_
  refine am_iload_n (x := 0) X (by rfl) dX0_isUnder_4 ?_
  refine am_bipush X (by decide) dX0_isUnder_5 ?_
  refine am_icmp_ge (tgt := 31) X dX0_isUnder_7 (by decide) (fun h => absurd h (by decide)) (fun _ => ?_)
  refine am_iload_n (x := 2) X (by rfl) dX0_isUnder_10 ?_
  refine am_if_le (tgt := 31) X dX0_isUnder_11 (by decide) (fun h => absurd h (by decide)) (fun _ => ?_)
  refine am_iload_n (x := 2) X (by rfl) dX0_isUnder_14 ?_
  refine am_iload_n (x := k) X (by rfl) dX0_isUnder_15 ?_
  refine am_icmp_eq (tgt := 31) X dX0_isUnder_16 (by decide) (fun h16 => ?_) (fun h16 => ?_)
  · skip
    refine am_iload_n (x := 2) X (by rfl) dX0_isUnder_31 ?_
    refine am_iload_n (x := k) X (by rfl) dX0_isUnder_32 ?_
    refine am_icmp_ne (tgt := 40) X dX0_isUnder_33 (by decide) (fun h33 => ?_) (fun h33 => ?_)
    · skip
      refine am_ic X (by decide) dX0_isUnder_40 ?_
      exact hret _ _ _ _ _ dX0_isUnder_41 rfl rfl (by first | exact ⟨rfl, rfl, am_bt (by omega)⟩ | exact ⟨rfl, rfl, am_bf (by omega)⟩) (by first | exact Or.inl rfl | exact Or.inr rfl | omega)
    · skip
      refine am_ic X (by decide) dX0_isUnder_36 ?_
      refine am_goto (tgt := 41) X dX0_isUnder_37 (by decide) ?_
      exact hret _ _ _ _ _ dX0_isUnder_41 rfl rfl (by first | exact ⟨rfl, rfl, am_bt (by omega)⟩ | exact ⟨rfl, rfl, am_bf (by omega)⟩) (by first | exact Or.inl rfl | exact Or.inr rfl | omega)
  · skip
    refine am_gsABOVE X gs_X0_26 dX0_isUnder_19 ?_
    refine am_iload_n (x := 2) X (by rfl) dX0_isUnder_22 ?_
    refine am_ldABOVE X (by decide) (by decide) (by unfold R32; decide) dX0_isUnder_23 ?_
    show am_G K 24 [some (vi 2), some (vi k), some (vi 2), some (vi 0)] [vi 0] sh σ
    refine am_istore_n (i := 2) (L' := [some (vi 2), some (vi k), some (vi 0), some (vi 0)]) X rfl (Nat.le_of_ble_eq_true rfl) (by rfl) dX0_isUnder_24 ?_
    refine am_inc (x := 0) (v := 1) (L' := [some (vi 2), some (vi k), some (vi 0), some (vi 1)]) X (by rfl) (by omega) (by omega) (by rfl) dX0_isUnder_25 ?_
    refine am_goto (tgt := 4) X dX0_isUnder_28 (by decide) ?_
    refine am_iload_n (x := 1) X (by rfl) dX0_isUnder_4 ?_
    refine am_bipush X (by decide) dX0_isUnder_5 ?_
    refine am_icmp_ge (tgt := 31) X dX0_isUnder_7 (by decide) (fun h => absurd h (by decide)) (fun _ => ?_)
    refine am_iload_n (x := 0) X (by rfl) dX0_isUnder_10 ?_
    refine am_if_le (tgt := 31) X dX0_isUnder_11 (by decide) (fun _ => ?_) (fun h => absurd h (by decide))
    refine am_iload_n (x := 0) X (by rfl) dX0_isUnder_31 ?_
    refine am_iload_n (x := k) X (by rfl) dX0_isUnder_32 ?_
    refine am_icmp_ne (tgt := 40) X dX0_isUnder_33 (by decide) (fun h33 => ?_) (fun h33 => ?_)
    · skip
      refine am_ic X (by decide) dX0_isUnder_40 ?_
      exact hret _ _ _ _ _ dX0_isUnder_41 rfl rfl (by first | exact ⟨rfl, rfl, am_bt (by omega)⟩ | exact ⟨rfl, rfl, am_bf (by omega)⟩) (by first | exact Or.inl rfl | exact Or.inr rfl | omega)
    · skip
      refine am_ic X (by decide) dX0_isUnder_36 ?_
      refine am_goto (tgt := 41) X dX0_isUnder_37 (by decide) ?_
      exact hret _ _ _ _ _ dX0_isUnder_41 rfl rfl (by first | exact ⟨rfl, rfl, am_bt (by omega)⟩ | exact ⟨rfl, rfl, am_bf (by omega)⟩) (by first | exact Or.inl rfl | exact Or.inr rfl | omega)

set_option maxHeartbeats 4000000 in
set_option maxRecDepth 100000 in
theorem m_X0_isUnder_3 (k : Int) (sh : List am_S) (σ : am_H) : am_Mi yX0_isUnder cX0_isUnder 4 (some .boolean) 0 0 0 [vi 3, vi k] sh σ (fun r sh' σ' => sh = sh' ∧ σ = σ' ∧ am_b r (k = 3 ∨ k = 2 ∨ k = 0)) := by
  refine am_Mz_of (by decide +kernel) (Nat.le_of_ble_eq_true rfl) (fun K X hY hI hret => ?_)
  show am_G K 0 [some (vi 3), some (vi k), none, none] [] sh σ
  refine am_iload_n (x := 3) X (by rfl) dX0_isUnder_0 ?_
  refine am_istore_n (i := 2) (L' := [some (vi 3), some (vi k), some (vi 3), none]) X rfl (Nat.le_of_ble_eq_true rfl) (by rfl) dX0_isUnder_1 ?_
  refine am_ic X (by decide) dX0_isUnder_2 ?_
  refine am_istore_n (i := 3) (L' := [some (vi 3), some (vi k), some (vi 3), some (vi 0)]) X rfl (Nat.le_of_ble_eq_true rfl) (by rfl) dX0_isUnder_3 ?_
  refine am_iload_n (x := 0) X (by rfl) dX0_isUnder_4 ?_
  refine am_bipush X (by decide) dX0_isUnder_5 ?_
  refine am_icmp_ge (tgt := 31) X dX0_isUnder_7 (by decide) (fun h => absurd h (by decide)) (fun _ => ?_)
  refine am_iload_n (x := 3) X (by rfl) dX0_isUnder_10 ?_
  refine am_if_le (tgt := 31) X dX0_isUnder_11 (by decide) (fun h => absurd h (by decide)) (fun _ => ?_)
  refine am_iload_n (x := 3) X (by rfl) dX0_isUnder_14 ?_
  refine am_iload_n (x := k) X (by rfl) dX0_isUnder_15 ?_
  refine am_icmp_eq (tgt := 31) X dX0_isUnder_16 (by decide) (fun h16 => ?_) (fun h16 => ?_)
  · skip
    refine am_iload_n (x := 3) X (by rfl) dX0_isUnder_31 ?_
    refine am_iload_n (x := k) X (by rfl) dX0_isUnder_32 ?_
    refine am_icmp_ne (tgt := 40) X dX0_isUnder_33 (by decide) (fun h33 => ?_) (fun h33 => ?_)
    · skip
      refine am_ic X (by decide) dX0_isUnder_40 ?_
      exact hret _ _ _ _ _ dX0_isUnder_41 rfl rfl (by first | exact ⟨rfl, rfl, am_bt (by omega)⟩ | exact ⟨rfl, rfl, am_bf (by omega)⟩) (by first | exact Or.inl rfl | exact Or.inr rfl | omega)
    · skip
      refine am_ic X (by decide) dX0_isUnder_36 ?_
      refine am_goto (tgt := 41) X dX0_isUnder_37 (by decide) ?_
      exact hret _ _ _ _ _ dX0_isUnder_41 rfl rfl (by first | exact ⟨rfl, rfl, am_bt (by omega)⟩ | exact ⟨rfl, rfl, am_bf (by omega)⟩) (by first | exact Or.inl rfl | exact Or.inr rfl | omega)
  · skip
    refine am_gsABOVE X gs_X0_26 dX0_isUnder_19 ?_
    refine am_iload_n (x := 3) X (by rfl) dX0_isUnder_22 ?_
    refine am_ldABOVE X (by decide) (by decide) (by unfold R32; decide) dX0_isUnder_23 ?_
    show am_G K 24 [some (vi 3), some (vi k), some (vi 3), some (vi 0)] [vi 2] sh σ
    refine am_istore_n (i := 2) (L' := [some (vi 3), some (vi k), some (vi 2), some (vi 0)]) X rfl (Nat.le_of_ble_eq_true rfl) (by rfl) dX0_isUnder_24 ?_
    refine am_inc (x := 0) (v := 1) (L' := [some (vi 3), some (vi k), some (vi 2), some (vi 1)]) X (by rfl) (by omega) (by omega) (by rfl) dX0_isUnder_25 ?_
    refine am_goto (tgt := 4) X dX0_isUnder_28 (by decide) ?_
    refine am_iload_n (x := 1) X (by rfl) dX0_isUnder_4 ?_
    refine am_bipush X (by decide) dX0_isUnder_5 ?_
    refine am_icmp_ge (tgt := 31) X dX0_isUnder_7 (by decide) (fun h => absurd h (by decide)) (fun _ => ?_)
    refine am_iload_n (x := 2) X (by rfl) dX0_isUnder_10 ?_
    refine am_if_le (tgt := 31) X dX0_isUnder_11 (by decide) (fun h => absurd h (by decide)) (fun _ => ?_)
    refine am_iload_n (x := 2) X (by rfl) dX0_isUnder_14 ?_
    refine am_iload_n (x := k) X (by rfl) dX0_isUnder_15 ?_
    refine am_icmp_eq (tgt := 31) X dX0_isUnder_16 (by decide) (fun h16 => ?_) (fun h16 => ?_)
    · skip
      refine am_iload_n (x := 2) X (by rfl) dX0_isUnder_31 ?_
      refine am_iload_n (x := k) X (by rfl) dX0_isUnder_32 ?_
      refine am_icmp_ne (tgt := 40) X dX0_isUnder_33 (by decide) (fun h33 => ?_) (fun h33 => ?_)
      · skip
        refine am_ic X (by decide) dX0_isUnder_40 ?_
        exact hret _ _ _ _ _ dX0_isUnder_41 rfl rfl (by first | exact ⟨rfl, rfl, am_bt (by omega)⟩ | exact ⟨rfl, rfl, am_bf (by omega)⟩) (by first | exact Or.inl rfl | exact Or.inr rfl | omega)
      · skip
        refine am_ic X (by decide) dX0_isUnder_36 ?_
        refine am_goto (tgt := 41) X dX0_isUnder_37 (by decide) ?_
        exact hret _ _ _ _ _ dX0_isUnder_41 rfl rfl (by first | exact ⟨rfl, rfl, am_bt (by omega)⟩ | exact ⟨rfl, rfl, am_bf (by omega)⟩) (by first | exact Or.inl rfl | exact Or.inr rfl | omega)
    · skip
      refine am_gsABOVE X gs_X0_26 dX0_isUnder_19 ?_
      refine am_iload_n (x := 2) X (by rfl) dX0_isUnder_22 ?_
      refine am_ldABOVE X (by decide) (by decide) (by unfold R32; decide) dX0_isUnder_23 ?_
      show am_G K 24 [some (vi 3), some (vi k), some (vi 2), some (vi 1)] [vi 0] sh σ
      refine am_istore_n (i := 2) (L' := [some (vi 3), some (vi k), some (vi 0), some (vi 1)]) X rfl (Nat.le_of_ble_eq_true rfl) (by rfl) dX0_isUnder_24 ?_
      refine am_inc (x := 1) (v := 2) (L' := [some (vi 3), some (vi k), some (vi 0), some (vi 2)]) X (by rfl) (by omega) (by omega) (by rfl) dX0_isUnder_25 ?_
      refine am_goto (tgt := 4) X dX0_isUnder_28 (by decide) ?_
      refine am_iload_n (x := 2) X (by rfl) dX0_isUnder_4 ?_
      refine am_bipush X (by decide) dX0_isUnder_5 ?_
      refine am_icmp_ge (tgt := 31) X dX0_isUnder_7 (by decide) (fun h => absurd h (by decide)) (fun _ => ?_)
      refine am_iload_n (x := 0) X (by rfl) dX0_isUnder_10 ?_
      refine am_if_le (tgt := 31) X dX0_isUnder_11 (by decide) (fun _ => ?_) (fun h => absurd h (by decide))
      refine am_iload_n (x := 0) X (by rfl) dX0_isUnder_31 ?_
      refine am_iload_n (x := k) X (by rfl) dX0_isUnder_32 ?_
      refine am_icmp_ne (tgt := 40) X dX0_isUnder_33 (by decide) (fun h33 => ?_) (fun h33 => ?_)
      · skip
        refine am_ic X (by decide) dX0_isUnder_40 ?_
        exact hret _ _ _ _ _ dX0_isUnder_41 rfl rfl (by first | exact ⟨rfl, rfl, am_bt (by omega)⟩ | exact ⟨rfl, rfl, am_bf (by omega)⟩) (by first | exact Or.inl rfl | exact Or.inr rfl | omega)
      · skip
        refine am_ic X (by decide) dX0_isUnder_36 ?_
        refine am_goto (tgt := 41) X dX0_isUnder_37 (by decide) ?_
        exact hret _ _ _ _ _ dX0_isUnder_41 rfl rfl (by first | exact ⟨rfl, rfl, am_bt (by omega)⟩ | exact ⟨rfl, rfl, am_bf (by omega)⟩) (by first | exact Or.inl rfl | exact Or.inr rfl | omega)

set_option maxHeartbeats 4000000 in
set_option maxRecDepth 100000 in
theorem m_X0_isUnder_4 (k : Int) (sh : List am_S) (σ : am_H) : am_Mi yX0_isUnder cX0_isUnder 4 (some .boolean) 0 0 0 [vi 4, vi k] sh σ (fun r sh' σ' => sh = sh' ∧ σ = σ' ∧ am_b r (k = 4 ∨ k = 1 ∨ k = 0)) := by
  refine am_Mz_of (by decide +kernel) (Nat.le_of_ble_eq_true rfl) (fun K X hY hI hret => ?_)
  show am_G K 0 [some (vi 4), some (vi k), none, none] [] sh σ
  refine am_iload_n (x := 4) X (by rfl) dX0_isUnder_0 ?_
  refine am_istore_n (i := 2) (L' := [some (vi 4), some (vi k), some (vi 4), none]) X rfl (Nat.le_of_ble_eq_true rfl) (by rfl) dX0_isUnder_1 ?_
  refine am_ic X (by decide) dX0_isUnder_2 ?_
  refine am_istore_n (i := 3) (L' := [some (vi 4), some (vi k), some (vi 4), some (vi 0)]) X rfl (Nat.le_of_ble_eq_true rfl) (by rfl) dX0_isUnder_3 ?_
  refine am_iload_n (x := 0) X (by rfl) dX0_isUnder_4 ?_
  refine am_bipush X (by decide) dX0_isUnder_5 ?_
  refine am_icmp_ge (tgt := 31) X dX0_isUnder_7 (by decide) (fun h => absurd h (by decide)) (fun _ => ?_)
  refine am_iload_n (x := 4) X (by rfl) dX0_isUnder_10 ?_
  refine am_if_le (tgt := 31) X dX0_isUnder_11 (by decide) (fun h => absurd h (by decide)) (fun _ => ?_)
  refine am_iload_n (x := 4) X (by rfl) dX0_isUnder_14 ?_
  refine am_iload_n (x := k) X (by rfl) dX0_isUnder_15 ?_
  refine am_icmp_eq (tgt := 31) X dX0_isUnder_16 (by decide) (fun h16 => ?_) (fun h16 => ?_)
  · skip
    refine am_iload_n (x := 4) X (by rfl) dX0_isUnder_31 ?_
    refine am_iload_n (x := k) X (by rfl) dX0_isUnder_32 ?_
    refine am_icmp_ne (tgt := 40) X dX0_isUnder_33 (by decide) (fun h33 => ?_) (fun h33 => ?_)
    · skip
      refine am_ic X (by decide) dX0_isUnder_40 ?_
      exact hret _ _ _ _ _ dX0_isUnder_41 rfl rfl (by first | exact ⟨rfl, rfl, am_bt (by omega)⟩ | exact ⟨rfl, rfl, am_bf (by omega)⟩) (by first | exact Or.inl rfl | exact Or.inr rfl | omega)
    · skip
      refine am_ic X (by decide) dX0_isUnder_36 ?_
      refine am_goto (tgt := 41) X dX0_isUnder_37 (by decide) ?_
      exact hret _ _ _ _ _ dX0_isUnder_41 rfl rfl (by first | exact ⟨rfl, rfl, am_bt (by omega)⟩ | exact ⟨rfl, rfl, am_bf (by omega)⟩) (by first | exact Or.inl rfl | exact Or.inr rfl | omega)
  · skip
    refine am_gsABOVE X gs_X0_26 dX0_isUnder_19 ?_
    refine am_iload_n (x := 4) X (by rfl) dX0_isUnder_22 ?_
    refine am_ldABOVE X (by decide) (by decide) (by unfold R32; decide) dX0_isUnder_23 ?_
    show am_G K 24 [some (vi 4), some (vi k), some (vi 4), some (vi 0)] [vi 1] sh σ
    refine am_istore_n (i := 2) (L' := [some (vi 4), some (vi k), some (vi 1), some (vi 0)]) X rfl (Nat.le_of_ble_eq_true rfl) (by rfl) dX0_isUnder_24 ?_
    refine am_inc (x := 0) (v := 1) (L' := [some (vi 4), some (vi k), some (vi 1), some (vi 1)]) X (by rfl) (by omega) (by omega) (by rfl) dX0_isUnder_25 ?_
    refine am_goto (tgt := 4) X dX0_isUnder_28 (by decide) ?_
    refine am_iload_n (x := 1) X (by rfl) dX0_isUnder_4 ?_
    refine am_bipush X (by decide) dX0_isUnder_5 ?_
    refine am_icmp_ge (tgt := 31) X dX0_isUnder_7 (by decide) (fun h => absurd h (by decide)) (fun _ => ?_)
    refine am_iload_n (x := 1) X (by rfl) dX0_isUnder_10 ?_
    refine am_if_le (tgt := 31) X dX0_isUnder_11 (by decide) (fun h => absurd h (by decide)) (fun _ => ?_)
    refine am_iload_n (x := 1) X (by rfl) dX0_isUnder_14 ?_
    refine am_iload_n (x := k) X (by rfl) dX0_isUnder_15 ?_
    refine am_icmp_eq (tgt := 31) X dX0_isUnder_16 (by decide) (fun h16 => ?_) (fun h16 => ?_)
    · skip
      refine am_iload_n (x := 1) X (by rfl) dX0_isUnder_31 ?_
      refine am_iload_n (x := k) X (by rfl) dX0_isUnder_32 ?_
      refine am_icmp_ne (tgt := 40) X dX0_isUnder_33 (by decide) (fun h33 => ?_) (fun h33 => ?_)
      · skip
        refine am_ic X (by decide) dX0_isUnder_40 ?_
        exact hret _ _ _ _ _ dX0_isUnder_41 rfl rfl (by first | exact ⟨rfl, rfl, am_bt (by omega)⟩ | exact ⟨rfl, rfl, am_bf (by omega)⟩) (by first | exact Or.inl rfl | exact Or.inr rfl | omega)
      · skip
        refine am_ic X (by decide) dX0_isUnder_36 ?_
        refine am_goto (tgt := 41) X dX0_isUnder_37 (by decide) ?_
        exact hret _ _ _ _ _ dX0_isUnder_41 rfl rfl (by first | exact ⟨rfl, rfl, am_bt (by omega)⟩ | exact ⟨rfl, rfl, am_bf (by omega)⟩) (by first | exact Or.inl rfl | exact Or.inr rfl | omega)
    · skip
      refine am_gsABOVE X gs_X0_26 dX0_isUnder_19 ?_
      refine am_iload_n (x := 1) X (by rfl) dX0_isUnder_22 ?_
      refine am_ldABOVE X (by decide) (by decide) (by unfold R32; decide) dX0_isUnder_23 ?_
      show am_G K 24 [some (vi 4), some (vi k), some (vi 1), some (vi 1)] [vi 0] sh σ
      refine am_istore_n (i := 2) (L' := [some (vi 4), some (vi k), some (vi 0), some (vi 1)]) X rfl (Nat.le_of_ble_eq_true rfl) (by rfl) dX0_isUnder_24 ?_
      refine am_inc (x := 1) (v := 2) (L' := [some (vi 4), some (vi k), some (vi 0), some (vi 2)]) X (by rfl) (by omega) (by omega) (by rfl) dX0_isUnder_25 ?_
      refine am_goto (tgt := 4) X dX0_isUnder_28 (by decide) ?_
      refine am_iload_n (x := 2) X (by rfl) dX0_isUnder_4 ?_
      refine am_bipush X (by decide) dX0_isUnder_5 ?_
      refine am_icmp_ge (tgt := 31) X dX0_isUnder_7 (by decide) (fun h => absurd h (by decide)) (fun _ => ?_)
      refine am_iload_n (x := 0) X (by rfl) dX0_isUnder_10 ?_
      refine am_if_le (tgt := 31) X dX0_isUnder_11 (by decide) (fun _ => ?_) (fun h => absurd h (by decide))
      refine am_iload_n (x := 0) X (by rfl) dX0_isUnder_31 ?_
      refine am_iload_n (x := k) X (by rfl) dX0_isUnder_32 ?_
      refine am_icmp_ne (tgt := 40) X dX0_isUnder_33 (by decide) (fun h33 => ?_) (fun h33 => ?_)
      · skip
        refine am_ic X (by decide) dX0_isUnder_40 ?_
        exact hret _ _ _ _ _ dX0_isUnder_41 rfl rfl (by first | exact ⟨rfl, rfl, am_bt (by omega)⟩ | exact ⟨rfl, rfl, am_bf (by omega)⟩) (by first | exact Or.inl rfl | exact Or.inr rfl | omega)
      · skip
        refine am_ic X (by decide) dX0_isUnder_36 ?_
        refine am_goto (tgt := 41) X dX0_isUnder_37 (by decide) ?_
        exact hret _ _ _ _ _ dX0_isUnder_41 rfl rfl (by first | exact ⟨rfl, rfl, am_bt (by omega)⟩ | exact ⟨rfl, rfl, am_bf (by omega)⟩) (by first | exact Or.inl rfl | exact Or.inr rfl | omega)

set_option maxHeartbeats 4000000 in
set_option maxRecDepth 100000 in
theorem m_X0_isUnder_5 (k : Int) (sh : List am_S) (σ : am_H) : am_Mi yX0_isUnder cX0_isUnder 4 (some .boolean) 0 0 0 [vi 5, vi k] sh σ (fun r sh' σ' => sh = sh' ∧ σ = σ' ∧ am_b r (k = 5 ∨ k = 3 ∨ k = 2 ∨ k = 0)) := by
  refine am_Mz_of (by decide +kernel) (Nat.le_of_ble_eq_true rfl) (fun K X hY hI hret => ?_)
  show am_G K 0 [some (vi 5), some (vi k), none, none] [] sh σ
  refine am_iload_n (x := 5) X (by rfl) dX0_isUnder_0 ?_
  refine am_istore_n (i := 2) (L' := [some (vi 5), some (vi k), some (vi 5), none]) X rfl (Nat.le_of_ble_eq_true rfl) (by rfl) dX0_isUnder_1 ?_
  refine am_ic X (by decide) dX0_isUnder_2 ?_
  refine am_istore_n (i := 3) (L' := [some (vi 5), some (vi k), some (vi 5), some (vi 0)]) X rfl (Nat.le_of_ble_eq_true rfl) (by rfl) dX0_isUnder_3 ?_
  refine am_iload_n (x := 0) X (by rfl) dX0_isUnder_4 ?_
  refine am_bipush X (by decide) dX0_isUnder_5 ?_
  refine am_icmp_ge (tgt := 31) X dX0_isUnder_7 (by decide) (fun h => absurd h (by decide)) (fun _ => ?_)
  refine am_iload_n (x := 5) X (by rfl) dX0_isUnder_10 ?_
  refine am_if_le (tgt := 31) X dX0_isUnder_11 (by decide) (fun h => absurd h (by decide)) (fun _ => ?_)
  refine am_iload_n (x := 5) X (by rfl) dX0_isUnder_14 ?_
  refine am_iload_n (x := k) X (by rfl) dX0_isUnder_15 ?_
  refine am_icmp_eq (tgt := 31) X dX0_isUnder_16 (by decide) (fun h16 => ?_) (fun h16 => ?_)
  · skip
    refine am_iload_n (x := 5) X (by rfl) dX0_isUnder_31 ?_
    refine am_iload_n (x := k) X (by rfl) dX0_isUnder_32 ?_
    refine am_icmp_ne (tgt := 40) X dX0_isUnder_33 (by decide) (fun h33 => ?_) (fun h33 => ?_)
    · skip
      refine am_ic X (by decide) dX0_isUnder_40 ?_
      exact hret _ _ _ _ _ dX0_isUnder_41 rfl rfl (by first | exact ⟨rfl, rfl, am_bt (by omega)⟩ | exact ⟨rfl, rfl, am_bf (by omega)⟩) (by first | exact Or.inl rfl | exact Or.inr rfl | omega)
    · skip
      refine am_ic X (by decide) dX0_isUnder_36 ?_
      refine am_goto (tgt := 41) X dX0_isUnder_37 (by decide) ?_
      exact hret _ _ _ _ _ dX0_isUnder_41 rfl rfl (by first | exact ⟨rfl, rfl, am_bt (by omega)⟩ | exact ⟨rfl, rfl, am_bf (by omega)⟩) (by first | exact Or.inl rfl | exact Or.inr rfl | omega)
  · skip
    refine am_gsABOVE X gs_X0_26 dX0_isUnder_19 ?_
    refine am_iload_n (x := 5) X (by rfl) dX0_isUnder_22 ?_
    refine am_ldABOVE X (by decide) (by decide) (by unfold R32; decide) dX0_isUnder_23 ?_
    show am_G K 24 [some (vi 5), some (vi k), some (vi 5), some (vi 0)] [vi 3] sh σ
    refine am_istore_n (i := 2) (L' := [some (vi 5), some (vi k), some (vi 3), some (vi 0)]) X rfl (Nat.le_of_ble_eq_true rfl) (by rfl) dX0_isUnder_24 ?_
    refine am_inc (x := 0) (v := 1) (L' := [some (vi 5), some (vi k), some (vi 3), some (vi 1)]) X (by rfl) (by omega) (by omega) (by rfl) dX0_isUnder_25 ?_
    refine am_goto (tgt := 4) X dX0_isUnder_28 (by decide) ?_
    refine am_iload_n (x := 1) X (by rfl) dX0_isUnder_4 ?_
    refine am_bipush X (by decide) dX0_isUnder_5 ?_
    refine am_icmp_ge (tgt := 31) X dX0_isUnder_7 (by decide) (fun h => absurd h (by decide)) (fun _ => ?_)
    refine am_iload_n (x := 3) X (by rfl) dX0_isUnder_10 ?_
    refine am_if_le (tgt := 31) X dX0_isUnder_11 (by decide) (fun h => absurd h (by decide)) (fun _ => ?_)
    refine am_iload_n (x := 3) X (by rfl) dX0_isUnder_14 ?_
    refine am_iload_n (x := k) X (by rfl) dX0_isUnder_15 ?_
    refine am_icmp_eq (tgt := 31) X dX0_isUnder_16 (by decide) (fun h16 => ?_) (fun h16 => ?_)
    · skip
      refine am_iload_n (x := 3) X (by rfl) dX0_isUnder_31 ?_
      refine am_iload_n (x := k) X (by rfl) dX0_isUnder_32 ?_
      refine am_icmp_ne (tgt := 40) X dX0_isUnder_33 (by decide) (fun h33 => ?_) (fun h33 => ?_)
      · skip
        refine am_ic X (by decide) dX0_isUnder_40 ?_
        exact hret _ _ _ _ _ dX0_isUnder_41 rfl rfl (by first | exact ⟨rfl, rfl, am_bt (by omega)⟩ | exact ⟨rfl, rfl, am_bf (by omega)⟩) (by first | exact Or.inl rfl | exact Or.inr rfl | omega)
      · skip
        refine am_ic X (by decide) dX0_isUnder_36 ?_
        refine am_goto (tgt := 41) X dX0_isUnder_37 (by decide) ?_
        exact hret _ _ _ _ _ dX0_isUnder_41 rfl rfl (by first | exact ⟨rfl, rfl, am_bt (by omega)⟩ | exact ⟨rfl, rfl, am_bf (by omega)⟩) (by first | exact Or.inl rfl | exact Or.inr rfl | omega)
    · skip
      refine am_gsABOVE X gs_X0_26 dX0_isUnder_19 ?_
      refine am_iload_n (x := 3) X (by rfl) dX0_isUnder_22 ?_
      refine am_ldABOVE X (by decide) (by decide) (by unfold R32; decide) dX0_isUnder_23 ?_
      show am_G K 24 [some (vi 5), some (vi k), some (vi 3), some (vi 1)] [vi 2] sh σ
      refine am_istore_n (i := 2) (L' := [some (vi 5), some (vi k), some (vi 2), some (vi 1)]) X rfl (Nat.le_of_ble_eq_true rfl) (by rfl) dX0_isUnder_24 ?_
      refine am_inc (x := 1) (v := 2) (L' := [some (vi 5), some (vi k), some (vi 2), some (vi 2)]) X (by rfl) (by omega) (by omega) (by rfl) dX0_isUnder_25 ?_
      refine am_goto (tgt := 4) X dX0_isUnder_28 (by decide) ?_
      refine am_iload_n (x := 2) X (by rfl) dX0_isUnder_4 ?_
      refine am_bipush X (by decide) dX0_isUnder_5 ?_
      refine am_icmp_ge (tgt := 31) X dX0_isUnder_7 (by decide) (fun h => absurd h (by decide)) (fun _ => ?_)
      refine am_iload_n (x := 2) X (by rfl) dX0_isUnder_10 ?_
      refine am_if_le (tgt := 31) X dX0_isUnder_11 (by decide) (fun h => absurd h (by decide)) (fun _ => ?_)
      refine am_iload_n (x := 2) X (by rfl) dX0_isUnder_14 ?_
      refine am_iload_n (x := k) X (by rfl) dX0_isUnder_15 ?_
      refine am_icmp_eq (tgt := 31) X dX0_isUnder_16 (by decide) (fun h16 => ?_) (fun h16 => ?_)
      · skip
        refine am_iload_n (x := 2) X (by rfl) dX0_isUnder_31 ?_
        refine am_iload_n (x := k) X (by rfl) dX0_isUnder_32 ?_
        refine am_icmp_ne (tgt := 40) X dX0_isUnder_33 (by decide) (fun h33 => ?_) (fun h33 => ?_)
        · skip
          refine am_ic X (by decide) dX0_isUnder_40 ?_
          exact hret _ _ _ _ _ dX0_isUnder_41 rfl rfl (by first | exact ⟨rfl, rfl, am_bt (by omega)⟩ | exact ⟨rfl, rfl, am_bf (by omega)⟩) (by first | exact Or.inl rfl | exact Or.inr rfl | omega)
        · skip
          refine am_ic X (by decide) dX0_isUnder_36 ?_
          refine am_goto (tgt := 41) X dX0_isUnder_37 (by decide) ?_
          exact hret _ _ _ _ _ dX0_isUnder_41 rfl rfl (by first | exact ⟨rfl, rfl, am_bt (by omega)⟩ | exact ⟨rfl, rfl, am_bf (by omega)⟩) (by first | exact Or.inl rfl | exact Or.inr rfl | omega)
      · skip
        refine am_gsABOVE X gs_X0_26 dX0_isUnder_19 ?_
        refine am_iload_n (x := 2) X (by rfl) dX0_isUnder_22 ?_
        refine am_ldABOVE X (by decide) (by decide) (by unfold R32; decide) dX0_isUnder_23 ?_
        show am_G K 24 [some (vi 5), some (vi k), some (vi 2), some (vi 2)] [vi 0] sh σ
        refine am_istore_n (i := 2) (L' := [some (vi 5), some (vi k), some (vi 0), some (vi 2)]) X rfl (Nat.le_of_ble_eq_true rfl) (by rfl) dX0_isUnder_24 ?_
        refine am_inc (x := 2) (v := 3) (L' := [some (vi 5), some (vi k), some (vi 0), some (vi 3)]) X (by rfl) (by omega) (by omega) (by rfl) dX0_isUnder_25 ?_
        refine am_goto (tgt := 4) X dX0_isUnder_28 (by decide) ?_
        refine am_iload_n (x := 3) X (by rfl) dX0_isUnder_4 ?_
        refine am_bipush X (by decide) dX0_isUnder_5 ?_
        refine am_icmp_ge (tgt := 31) X dX0_isUnder_7 (by decide) (fun h => absurd h (by decide)) (fun _ => ?_)
        refine am_iload_n (x := 0) X (by rfl) dX0_isUnder_10 ?_
        refine am_if_le (tgt := 31) X dX0_isUnder_11 (by decide) (fun _ => ?_) (fun h => absurd h (by decide))
        refine am_iload_n (x := 0) X (by rfl) dX0_isUnder_31 ?_
        refine am_iload_n (x := k) X (by rfl) dX0_isUnder_32 ?_
        refine am_icmp_ne (tgt := 40) X dX0_isUnder_33 (by decide) (fun h33 => ?_) (fun h33 => ?_)
        · skip
          refine am_ic X (by decide) dX0_isUnder_40 ?_
          exact hret _ _ _ _ _ dX0_isUnder_41 rfl rfl (by first | exact ⟨rfl, rfl, am_bt (by omega)⟩ | exact ⟨rfl, rfl, am_bf (by omega)⟩) (by first | exact Or.inl rfl | exact Or.inr rfl | omega)
        · skip
          refine am_ic X (by decide) dX0_isUnder_36 ?_
          refine am_goto (tgt := 41) X dX0_isUnder_37 (by decide) ?_
          exact hret _ _ _ _ _ dX0_isUnder_41 rfl rfl (by first | exact ⟨rfl, rfl, am_bt (by omega)⟩ | exact ⟨rfl, rfl, am_bf (by omega)⟩) (by first | exact Or.inl rfl | exact Or.inr rfl | omega)

set_option maxHeartbeats 4000000 in
set_option maxRecDepth 100000 in
theorem m_X0_isUnder_6 (k : Int) (sh : List am_S) (σ : am_H) : am_Mi yX0_isUnder cX0_isUnder 4 (some .boolean) 0 0 0 [vi 6, vi k] sh σ (fun r sh' σ' => sh = sh' ∧ σ = σ' ∧ am_b r (k = 6 ∨ k = 0)) := by
  refine am_Mz_of (by decide +kernel) (Nat.le_of_ble_eq_true rfl) (fun K X hY hI hret => ?_)
  show am_G K 0 [some (vi 6), some (vi k), none, none] [] sh σ
  refine am_iload_n (x := 6) X (by rfl) dX0_isUnder_0 ?_
  refine am_istore_n (i := 2) (L' := [some (vi 6), some (vi k), some (vi 6), none]) X rfl (Nat.le_of_ble_eq_true rfl) (by rfl) dX0_isUnder_1 ?_
  refine am_ic X (by decide) dX0_isUnder_2 ?_
  refine am_istore_n (i := 3) (L' := [some (vi 6), some (vi k), some (vi 6), some (vi 0)]) X rfl (Nat.le_of_ble_eq_true rfl) (by rfl) dX0_isUnder_3 ?_
  refine am_iload_n (x := 0) X (by rfl) dX0_isUnder_4 ?_
  refine am_bipush X (by decide) dX0_isUnder_5 ?_
  refine am_icmp_ge (tgt := 31) X dX0_isUnder_7 (by decide) (fun h => absurd h (by decide)) (fun _ => ?_)
  refine am_iload_n (x := 6) X (by rfl) dX0_isUnder_10 ?_
  refine am_if_le (tgt := 31) X dX0_isUnder_11 (by decide) (fun h => absurd h (by decide)) (fun _ => ?_)
  refine am_iload_n (x := 6) X (by rfl) dX0_isUnder_14 ?_
  refine am_iload_n (x := k) X (by rfl) dX0_isUnder_15 ?_
  refine am_icmp_eq (tgt := 31) X dX0_isUnder_16 (by decide) (fun h16 => ?_) (fun h16 => ?_)
  · skip
    refine am_iload_n (x := 6) X (by rfl) dX0_isUnder_31 ?_
    refine am_iload_n (x := k) X (by rfl) dX0_isUnder_32 ?_
    refine am_icmp_ne (tgt := 40) X dX0_isUnder_33 (by decide) (fun h33 => ?_) (fun h33 => ?_)
    · skip
      refine am_ic X (by decide) dX0_isUnder_40 ?_
      exact hret _ _ _ _ _ dX0_isUnder_41 rfl rfl (by first | exact ⟨rfl, rfl, am_bt (by omega)⟩ | exact ⟨rfl, rfl, am_bf (by omega)⟩) (by first | exact Or.inl rfl | exact Or.inr rfl | omega)
    · skip
      refine am_ic X (by decide) dX0_isUnder_36 ?_
      refine am_goto (tgt := 41) X dX0_isUnder_37 (by decide) ?_
      exact hret _ _ _ _ _ dX0_isUnder_41 rfl rfl (by first | exact ⟨rfl, rfl, am_bt (by omega)⟩ | exact ⟨rfl, rfl, am_bf (by omega)⟩) (by first | exact Or.inl rfl | exact Or.inr rfl | omega)
  · skip
    refine am_gsABOVE X gs_X0_26 dX0_isUnder_19 ?_
    refine am_iload_n (x := 6) X (by rfl) dX0_isUnder_22 ?_
    refine am_ldABOVE X (by decide) (by decide) (by unfold R32; decide) dX0_isUnder_23 ?_
    show am_G K 24 [some (vi 6), some (vi k), some (vi 6), some (vi 0)] [vi 0] sh σ
    refine am_istore_n (i := 2) (L' := [some (vi 6), some (vi k), some (vi 0), some (vi 0)]) X rfl (Nat.le_of_ble_eq_true rfl) (by rfl) dX0_isUnder_24 ?_
    refine am_inc (x := 0) (v := 1) (L' := [some (vi 6), some (vi k), some (vi 0), some (vi 1)]) X (by rfl) (by omega) (by omega) (by rfl) dX0_isUnder_25 ?_
    refine am_goto (tgt := 4) X dX0_isUnder_28 (by decide) ?_
    refine am_iload_n (x := 1) X (by rfl) dX0_isUnder_4 ?_
    refine am_bipush X (by decide) dX0_isUnder_5 ?_
    refine am_icmp_ge (tgt := 31) X dX0_isUnder_7 (by decide) (fun h => absurd h (by decide)) (fun _ => ?_)
    refine am_iload_n (x := 0) X (by rfl) dX0_isUnder_10 ?_
    refine am_if_le (tgt := 31) X dX0_isUnder_11 (by decide) (fun _ => ?_) (fun h => absurd h (by decide))
    refine am_iload_n (x := 0) X (by rfl) dX0_isUnder_31 ?_
    refine am_iload_n (x := k) X (by rfl) dX0_isUnder_32 ?_
    refine am_icmp_ne (tgt := 40) X dX0_isUnder_33 (by decide) (fun h33 => ?_) (fun h33 => ?_)
    · skip
      refine am_ic X (by decide) dX0_isUnder_40 ?_
      exact hret _ _ _ _ _ dX0_isUnder_41 rfl rfl (by first | exact ⟨rfl, rfl, am_bt (by omega)⟩ | exact ⟨rfl, rfl, am_bf (by omega)⟩) (by first | exact Or.inl rfl | exact Or.inr rfl | omega)
    · skip
      refine am_ic X (by decide) dX0_isUnder_36 ?_
      refine am_goto (tgt := 41) X dX0_isUnder_37 (by decide) ?_
      exact hret _ _ _ _ _ dX0_isUnder_41 rfl rfl (by first | exact ⟨rfl, rfl, am_bt (by omega)⟩ | exact ⟨rfl, rfl, am_bf (by omega)⟩) (by first | exact Or.inl rfl | exact Or.inr rfl | omega)

set_option maxHeartbeats 4000000 in
set_option maxRecDepth 100000 in
theorem m_X0_isUnder_7 (k : Int) (sh : List am_S) (σ : am_H) : am_Mi yX0_isUnder cX0_isUnder 4 (some .boolean) 0 0 0 [vi 7, vi k] sh σ (fun r sh' σ' => sh = sh' ∧ σ = σ' ∧ am_b r (k = 7 ∨ k = 4 ∨ k = 1 ∨ k = 0)) := by
  refine am_Mz_of (by decide +kernel) (Nat.le_of_ble_eq_true rfl) (fun K X hY hI hret => ?_)
  show am_G K 0 [some (vi 7), some (vi k), none, none] [] sh σ
  refine am_iload_n (x := 7) X (by rfl) dX0_isUnder_0 ?_
  refine am_istore_n (i := 2) (L' := [some (vi 7), some (vi k), some (vi 7), none]) X rfl (Nat.le_of_ble_eq_true rfl) (by rfl) dX0_isUnder_1 ?_
  refine am_ic X (by decide) dX0_isUnder_2 ?_
  refine am_istore_n (i := 3) (L' := [some (vi 7), some (vi k), some (vi 7), some (vi 0)]) X rfl (Nat.le_of_ble_eq_true rfl) (by rfl) dX0_isUnder_3 ?_
  refine am_iload_n (x := 0) X (by rfl) dX0_isUnder_4 ?_
  refine am_bipush X (by decide) dX0_isUnder_5 ?_
  refine am_icmp_ge (tgt := 31) X dX0_isUnder_7 (by decide) (fun h => absurd h (by decide)) (fun _ => ?_)
  refine am_iload_n (x := 7) X (by rfl) dX0_isUnder_10 ?_
  refine am_if_le (tgt := 31) X dX0_isUnder_11 (by decide) (fun h => absurd h (by decide)) (fun _ => ?_)
  refine am_iload_n (x := 7) X (by rfl) dX0_isUnder_14 ?_
  refine am_iload_n (x := k) X (by rfl) dX0_isUnder_15 ?_
  refine am_icmp_eq (tgt := 31) X dX0_isUnder_16 (by decide) (fun h16 => ?_) (fun h16 => ?_)
  · skip
    refine am_iload_n (x := 7) X (by rfl) dX0_isUnder_31 ?_
    refine am_iload_n (x := k) X (by rfl) dX0_isUnder_32 ?_
    refine am_icmp_ne (tgt := 40) X dX0_isUnder_33 (by decide) (fun h33 => ?_) (fun h33 => ?_)
    · skip
      refine am_ic X (by decide) dX0_isUnder_40 ?_
      exact hret _ _ _ _ _ dX0_isUnder_41 rfl rfl (by first | exact ⟨rfl, rfl, am_bt (by omega)⟩ | exact ⟨rfl, rfl, am_bf (by omega)⟩) (by first | exact Or.inl rfl | exact Or.inr rfl | omega)
    · skip
      refine am_ic X (by decide) dX0_isUnder_36 ?_
      refine am_goto (tgt := 41) X dX0_isUnder_37 (by decide) ?_
      exact hret _ _ _ _ _ dX0_isUnder_41 rfl rfl (by first | exact ⟨rfl, rfl, am_bt (by omega)⟩ | exact ⟨rfl, rfl, am_bf (by omega)⟩) (by first | exact Or.inl rfl | exact Or.inr rfl | omega)
  · skip
    refine am_gsABOVE X gs_X0_26 dX0_isUnder_19 ?_
    refine am_iload_n (x := 7) X (by rfl) dX0_isUnder_22 ?_
    refine am_ldABOVE X (by decide) (by decide) (by unfold R32; decide) dX0_isUnder_23 ?_
    show am_G K 24 [some (vi 7), some (vi k), some (vi 7), some (vi 0)] [vi 4] sh σ
    refine am_istore_n (i := 2) (L' := [some (vi 7), some (vi k), some (vi 4), some (vi 0)]) X rfl (Nat.le_of_ble_eq_true rfl) (by rfl) dX0_isUnder_24 ?_
    refine am_inc (x := 0) (v := 1) (L' := [some (vi 7), some (vi k), some (vi 4), some (vi 1)]) X (by rfl) (by omega) (by omega) (by rfl) dX0_isUnder_25 ?_
    refine am_goto (tgt := 4) X dX0_isUnder_28 (by decide) ?_
    refine am_iload_n (x := 1) X (by rfl) dX0_isUnder_4 ?_
    refine am_bipush X (by decide) dX0_isUnder_5 ?_
    refine am_icmp_ge (tgt := 31) X dX0_isUnder_7 (by decide) (fun h => absurd h (by decide)) (fun _ => ?_)
    refine am_iload_n (x := 4) X (by rfl) dX0_isUnder_10 ?_
    refine am_if_le (tgt := 31) X dX0_isUnder_11 (by decide) (fun h => absurd h (by decide)) (fun _ => ?_)
    refine am_iload_n (x := 4) X (by rfl) dX0_isUnder_14 ?_
    refine am_iload_n (x := k) X (by rfl) dX0_isUnder_15 ?_
    refine am_icmp_eq (tgt := 31) X dX0_isUnder_16 (by decide) (fun h16 => ?_) (fun h16 => ?_)
    · skip
      refine am_iload_n (x := 4) X (by rfl) dX0_isUnder_31 ?_
      refine am_iload_n (x := k) X (by rfl) dX0_isUnder_32 ?_
      refine am_icmp_ne (tgt := 40) X dX0_isUnder_33 (by decide) (fun h33 => ?_) (fun h33 => ?_)
      · skip
        refine am_ic X (by decide) dX0_isUnder_40 ?_
        exact hret _ _ _ _ _ dX0_isUnder_41 rfl rfl (by first | exact ⟨rfl, rfl, am_bt (by omega)⟩ | exact ⟨rfl, rfl, am_bf (by omega)⟩) (by first | exact Or.inl rfl | exact Or.inr rfl | omega)
      · skip
        refine am_ic X (by decide) dX0_isUnder_36 ?_
        refine am_goto (tgt := 41) X dX0_isUnder_37 (by decide) ?_
        exact hret _ _ _ _ _ dX0_isUnder_41 rfl rfl (by first | exact ⟨rfl, rfl, am_bt (by omega)⟩ | exact ⟨rfl, rfl, am_bf (by omega)⟩) (by first | exact Or.inl rfl | exact Or.inr rfl | omega)
    · skip
      refine am_gsABOVE X gs_X0_26 dX0_isUnder_19 ?_
      refine am_iload_n (x := 4) X (by rfl) dX0_isUnder_22 ?_
      refine am_ldABOVE X (by decide) (by decide) (by unfold R32; decide) dX0_isUnder_23 ?_
      show am_G K 24 [some (vi 7), some (vi k), some (vi 4), some (vi 1)] [vi 1] sh σ
      refine am_istore_n (i := 2) (L' := [some (vi 7), some (vi k), some (vi 1), some (vi 1)]) X rfl (Nat.le_of_ble_eq_true rfl) (by rfl) dX0_isUnder_24 ?_
      refine am_inc (x := 1) (v := 2) (L' := [some (vi 7), some (vi k), some (vi 1), some (vi 2)]) X (by rfl) (by omega) (by omega) (by rfl) dX0_isUnder_25 ?_
      refine am_goto (tgt := 4) X dX0_isUnder_28 (by decide) ?_
      refine am_iload_n (x := 2) X (by rfl) dX0_isUnder_4 ?_
      refine am_bipush X (by decide) dX0_isUnder_5 ?_
      refine am_icmp_ge (tgt := 31) X dX0_isUnder_7 (by decide) (fun h => absurd h (by decide)) (fun _ => ?_)
      refine am_iload_n (x := 1) X (by rfl) dX0_isUnder_10 ?_
      refine am_if_le (tgt := 31) X dX0_isUnder_11 (by decide) (fun h => absurd h (by decide)) (fun _ => ?_)
      refine am_iload_n (x := 1) X (by rfl) dX0_isUnder_14 ?_
      refine am_iload_n (x := k) X (by rfl) dX0_isUnder_15 ?_
      refine am_icmp_eq (tgt := 31) X dX0_isUnder_16 (by decide) (fun h16 => ?_) (fun h16 => ?_)
      · skip
        refine am_iload_n (x := 1) X (by rfl) dX0_isUnder_31 ?_
        refine am_iload_n (x := k) X (by rfl) dX0_isUnder_32 ?_
        refine am_icmp_ne (tgt := 40) X dX0_isUnder_33 (by decide) (fun h33 => ?_) (fun h33 => ?_)
        · skip
          refine am_ic X (by decide) dX0_isUnder_40 ?_
          exact hret _ _ _ _ _ dX0_isUnder_41 rfl rfl (by first | exact ⟨rfl, rfl, am_bt (by omega)⟩ | exact ⟨rfl, rfl, am_bf (by omega)⟩) (by first | exact Or.inl rfl | exact Or.inr rfl | omega)
        · skip
          refine am_ic X (by decide) dX0_isUnder_36 ?_
          refine am_goto (tgt := 41) X dX0_isUnder_37 (by decide) ?_
          exact hret _ _ _ _ _ dX0_isUnder_41 rfl rfl (by first | exact ⟨rfl, rfl, am_bt (by omega)⟩ | exact ⟨rfl, rfl, am_bf (by omega)⟩) (by first | exact Or.inl rfl | exact Or.inr rfl | omega)
      · skip
        refine am_gsABOVE X gs_X0_26 dX0_isUnder_19 ?_
        refine am_iload_n (x := 1) X (by rfl) dX0_isUnder_22 ?_
        refine am_ldABOVE X (by decide) (by decide) (by unfold R32; decide) dX0_isUnder_23 ?_
        show am_G K 24 [some (vi 7), some (vi k), some (vi 1), some (vi 2)] [vi 0] sh σ
        refine am_istore_n (i := 2) (L' := [some (vi 7), some (vi k), some (vi 0), some (vi 2)]) X rfl (Nat.le_of_ble_eq_true rfl) (by rfl) dX0_isUnder_24 ?_
        refine am_inc (x := 2) (v := 3) (L' := [some (vi 7), some (vi k), some (vi 0), some (vi 3)]) X (by rfl) (by omega) (by omega) (by rfl) dX0_isUnder_25 ?_
        refine am_goto (tgt := 4) X dX0_isUnder_28 (by decide) ?_
        refine am_iload_n (x := 3) X (by rfl) dX0_isUnder_4 ?_
        refine am_bipush X (by decide) dX0_isUnder_5 ?_
        refine am_icmp_ge (tgt := 31) X dX0_isUnder_7 (by decide) (fun h => absurd h (by decide)) (fun _ => ?_)
        refine am_iload_n (x := 0) X (by rfl) dX0_isUnder_10 ?_
        refine am_if_le (tgt := 31) X dX0_isUnder_11 (by decide) (fun _ => ?_) (fun h => absurd h (by decide))
        refine am_iload_n (x := 0) X (by rfl) dX0_isUnder_31 ?_
        refine am_iload_n (x := k) X (by rfl) dX0_isUnder_32 ?_
        refine am_icmp_ne (tgt := 40) X dX0_isUnder_33 (by decide) (fun h33 => ?_) (fun h33 => ?_)
        · skip
          refine am_ic X (by decide) dX0_isUnder_40 ?_
          exact hret _ _ _ _ _ dX0_isUnder_41 rfl rfl (by first | exact ⟨rfl, rfl, am_bt (by omega)⟩ | exact ⟨rfl, rfl, am_bf (by omega)⟩) (by first | exact Or.inl rfl | exact Or.inr rfl | omega)
        · skip
          refine am_ic X (by decide) dX0_isUnder_36 ?_
          refine am_goto (tgt := 41) X dX0_isUnder_37 (by decide) ?_
          exact hret _ _ _ _ _ dX0_isUnder_41 rfl rfl (by first | exact ⟨rfl, rfl, am_bt (by omega)⟩ | exact ⟨rfl, rfl, am_bf (by omega)⟩) (by first | exact Or.inl rfl | exact Or.inr rfl | omega)

theorem m_X0_isUnder (a k : Int) (ha : 0 ≤ a ∧ a ≤ 7) (sh : List am_S) (σ : am_H) : am_Mi yX0_isUnder cX0_isUnder 4 (some .boolean) 0 0 0 [vi a, vi k] sh σ (fun r sh' σ' => sh = sh' ∧ σ = σ' ∧ am_b r ((a = 0 ∧ (k = 0)) ∨ (a = 1 ∧ (k = 1 ∨ k = 0)) ∨ (a = 2 ∧ (k = 2 ∨ k = 0)) ∨ (a = 3 ∧ (k = 3 ∨ k = 2 ∨ k = 0)) ∨ (a = 4 ∧ (k = 4 ∨ k = 1 ∨ k = 0)) ∨ (a = 5 ∧ (k = 5 ∨ k = 3 ∨ k = 2 ∨ k = 0)) ∨ (a = 6 ∧ (k = 6 ∨ k = 0)) ∨ (a = 7 ∧ (k = 7 ∨ k = 4 ∨ k = 1 ∨ k = 0)))) := by
  have key : ∀ (P Q : Prop) (b : Int), a = b → (P ↔ Q) → am_Mi yX0_isUnder cX0_isUnder 4 (some .boolean) 0 0 0 [vi b, vi k] sh σ (fun r sh' σ' => sh = sh' ∧ σ = σ' ∧ am_b r P) → am_Mi yX0_isUnder cX0_isUnder 4 (some .boolean) 0 0 0 [vi a, vi k] sh σ (fun r sh' σ' => sh = sh' ∧ σ = σ' ∧ am_b r Q) := by
    intro P Q b hb hpq h
    rw [propext hpq] at h
    rw [hb]; exact h
  rcases (show a = 0 ∨ a = 1 ∨ a = 2 ∨ a = 3 ∨ a = 4 ∨ a = 5 ∨ a = 6 ∨ a = 7 by omega) with h | h | h | h | h | h | h | h
  · exact key _ _ 0 h (by omega) (m_X0_isUnder_0 k sh σ)
  · exact key _ _ 1 h (by omega) (m_X0_isUnder_1 k sh σ)
  · exact key _ _ 2 h (by omega) (m_X0_isUnder_2 k sh σ)
  · exact key _ _ 3 h (by omega) (m_X0_isUnder_3 k sh σ)
  · exact key _ _ 4 h (by omega) (m_X0_isUnder_4 k sh σ)
  · exact key _ _ 5 h (by omega) (m_X0_isUnder_5 k sh σ)
  · exact key _ _ 6 h (by omega) (m_X0_isUnder_6 k sh σ)
  · exact key _ _ 7 h (by omega) (m_X0_isUnder_7 k sh σ)

set_option maxHeartbeats 4000000 in
set_option maxRecDepth 100000 in
theorem m_X9_taken (a b : Int) (σ : am_H) (hs : ShV σ) (hb : 0 ≤ σ 46 2 ∧ σ 46 2 ≤ 50) (hk : ∀ j : Nat, (j : Int) < σ 46 2 → 0 ≤ σ 47 j ∧ σ 47 j ≤ 7) : am_Mi yX9_taken cX9_taken 4 (some .int) 2 0 0 [vr 0, vi a, vi b] SH σ (fun r sh' σ' => SH = sh' ∧ ((¬ ((0 ≤ a ∧ a ≤ 5) ∧ 0 ≤ b ∧ b ≤ 7) ∧ r = -1 ∧ σ = σ') ∨ ((((0 ≤ a ∧ a ≤ 5) ∧ 0 ≤ b ∧ b ≤ 7) ∧ (σ (51 + 2 * a.toNat) 1 < 0 ∧ σ (51 + 2 * a.toNat) 2 < 0)) ∧ r = -11 ∧ σ = σ') ∨ ((((0 ≤ a ∧ a ≤ 5) ∧ 0 ≤ b ∧ b ≤ 7) ∧ ¬ (σ (51 + 2 * a.toNat) 1 < 0 ∧ σ (51 + 2 * a.toNat) 2 < 0) ∧ ¬ (0 ≤ σ (51 + 2 * a.toNat) 1 ∧ ((σ 47 (σ (51 + 2 * a.toNat) 1).toNat = 0 ∧ (b = 0)) ∨ (σ 47 (σ (51 + 2 * a.toNat) 1).toNat = 1 ∧ (b = 1 ∨ b = 0)) ∨ (σ 47 (σ (51 + 2 * a.toNat) 1).toNat = 2 ∧ (b = 2 ∨ b = 0)) ∨ (σ 47 (σ (51 + 2 * a.toNat) 1).toNat = 3 ∧ (b = 3 ∨ b = 2 ∨ b = 0)) ∨ (σ 47 (σ (51 + 2 * a.toNat) 1).toNat = 4 ∧ (b = 4 ∨ b = 1 ∨ b = 0)) ∨ (σ 47 (σ (51 + 2 * a.toNat) 1).toNat = 5 ∧ (b = 5 ∨ b = 3 ∨ b = 2 ∨ b = 0)) ∨ (σ 47 (σ (51 + 2 * a.toNat) 1).toNat = 6 ∧ (b = 6 ∨ b = 0)) ∨ (σ 47 (σ (51 + 2 * a.toNat) 1).toNat = 7 ∧ (b = 7 ∨ b = 4 ∨ b = 1 ∨ b = 0))))) ∧ r = -12 ∧ σ = σ') ∨ ((((0 ≤ a ∧ a ≤ 5) ∧ 0 ≤ b ∧ b ≤ 7) ∧ ¬ (σ (51 + 2 * a.toNat) 1 < 0 ∧ σ (51 + 2 * a.toNat) 2 < 0) ∧ (0 ≤ σ (51 + 2 * a.toNat) 1 ∧ ((σ 47 (σ (51 + 2 * a.toNat) 1).toNat = 0 ∧ (b = 0)) ∨ (σ 47 (σ (51 + 2 * a.toNat) 1).toNat = 1 ∧ (b = 1 ∨ b = 0)) ∨ (σ 47 (σ (51 + 2 * a.toNat) 1).toNat = 2 ∧ (b = 2 ∨ b = 0)) ∨ (σ 47 (σ (51 + 2 * a.toNat) 1).toNat = 3 ∧ (b = 3 ∨ b = 2 ∨ b = 0)) ∨ (σ 47 (σ (51 + 2 * a.toNat) 1).toNat = 4 ∧ (b = 4 ∨ b = 1 ∨ b = 0)) ∨ (σ 47 (σ (51 + 2 * a.toNat) 1).toNat = 5 ∧ (b = 5 ∨ b = 3 ∨ b = 2 ∨ b = 0)) ∨ (σ 47 (σ (51 + 2 * a.toNat) 1).toNat = 6 ∧ (b = 6 ∨ b = 0)) ∨ (σ 47 (σ (51 + 2 * a.toNat) 1).toNat = 7 ∧ (b = 7 ∨ b = 4 ∨ b = 1 ∨ b = 0))))) ∧ r = σ 47 (σ (51 + 2 * a.toNat) 1).toNat ∧ σ = σ'))) := by
  refine am_Mi_of (by decide +kernel) (Nat.le_of_ble_eq_true rfl) (fun K X hY hI hret => ?_)
  show am_G K 0 [some (vr 0), some (vi a), some (vi b), none] [] SH σ
  refine am_iload_n (x := a) X (by rfl) dX9_taken_0 ?_
  refine am_callSi X hY lk_X9_102 mf_X9_isShelf (m_X9_isShelf a _ σ) (by decide) (by decide) (Nat.le_refl _) (Nat.le_refl _) rfl rfl (Nat.le_of_ble_eq_true rfl) dX9_taken_1 (fun r1 sh1 σ1 hr1 hp1 => ?_)
  obtain ⟨rfl, rfl, hq1⟩ := hp1
  refine am_if_eq (tgt := 17) X dX9_taken_4 (by decide) (fun h4 => ?_) (fun h4 => ?_)
  · skip
    refine am_ic X (by decide) dX9_taken_17 ?_
    exact hret _ _ _ _ _ dX9_taken_18 rfl rfl (by first | exact ⟨rfl, Or.inl ⟨by omega, by omega, rfl⟩⟩ | exact ⟨rfl, Or.inr (Or.inl ⟨by omega, by omega, rfl⟩)⟩ | exact ⟨rfl, Or.inr (Or.inr (Or.inl ⟨by omega, by omega, rfl⟩))⟩ | exact ⟨rfl, Or.inr (Or.inr (Or.inr (⟨by omega, by omega, rfl⟩)))⟩)
  · skip
    refine am_iload_n (x := b) X (by rfl) dX9_taken_7 ?_
    refine am_ic X (by decide) dX9_taken_8 ?_
    refine am_bipush X (by decide) dX9_taken_9 ?_
    refine am_callSi X hY lk_X9_75 mf_X9_within (m_X9_within b 0 7 _ σ) (by decide) (by decide) (Nat.le_refl _) (Nat.le_refl _) rfl rfl (Nat.le_of_ble_eq_true rfl) dX9_taken_11 (fun r11 sh11 σ11 hr11 hp11 => ?_)
    obtain ⟨rfl, rfl, hq11⟩ := hp11
    refine am_if_ne (tgt := 19) X dX9_taken_14 (by decide) (fun h14 => ?_) (fun h14 => ?_)
    · skip
      refine am_aload_n (x := 0) X (by rfl) dX9_taken_19 ?_
      refine am_getr (c1 := 49) X 0 fl_X9_66 (by decide) sh_0 (by decide) (by rfl) dX9_taken_20 ?_
      refine am_iload_n (x := a) X (by rfl) dX9_taken_23 ?_
      refine am_aald (c1 := (51 + 2 * a.toNat)) X 49 sh_49 (by omega) (by omega) (sh_sv (by omega)) dX9_taken_24 ?_
      refine am_callVi (ci := 6) X hY lk_X9_105 mf_X7_holdsNothing (m_X7_holdsNothing a.toNat (by omega) σ) (by decide) (by decide) (Nat.le_refl _) (Nat.le_refl _) (sh_sf (by omega)) rfl rfl rfl (Nat.le_of_ble_eq_true rfl) dX9_taken_25 (fun r25 sh25 σ25 hr25 hp25 => ?_)
      obtain ⟨rfl, rfl, hq25⟩ := hp25
      refine am_if_eq (tgt := 34) X dX9_taken_28 (by decide) (fun h28 => ?_) (fun h28 => ?_)
      · skip
        have hsl := (hs a.toNat (by omega)).1
        refine am_aload_n (x := 0) X (by rfl) dX9_taken_34 ?_
        refine am_getr (c1 := 49) X 0 fl_X9_66 (by decide) sh_0 (by decide) (by rfl) dX9_taken_35 ?_
        refine am_iload_n (x := a) X (by rfl) dX9_taken_38 ?_
        refine am_aald (c1 := (51 + 2 * a.toNat)) X 49 sh_49 (by omega) (by omega) (sh_sv (by omega)) dX9_taken_39 ?_
        refine am_get (v := σ (51 + 2 * a.toNat) 1) X (51 + 2 * a.toNat) fl_X9_341 (by decide) (sh_sf (by omega)) (by decide) (rfl) dX9_taken_40 ?_
        refine am_istore_n (i := 3) (L' := [some (vr 0), some (vi a), some (vi b), some (vi (σ (51 + 2 * a.toNat) 1))]) X rfl (Nat.le_of_ble_eq_true rfl) (by rfl) dX9_taken_43 ?_
        refine am_aload_n (x := 0) X (by rfl) dX9_taken_44 ?_
        refine am_getr (c1 := 46) X 0 fl_X9_60 (by decide) sh_0 (by decide) (by rfl) dX9_taken_45 ?_
        refine am_iload_n (x := σ (51 + 2 * a.toNat) 1) X (by rfl) dX9_taken_48 ?_
        refine am_callVi (ci := 0) X hY lk_X9_292 mf_X0_isBody (m_X0_isBody (σ (51 + 2 * a.toNat) 1) σ (by omega)) (by decide) (by decide) (Nat.le_refl _) (Nat.le_refl _) sh_46 rfl rfl rfl (Nat.le_of_ble_eq_true rfl) dX9_taken_49 (fun r49 sh49 σ49 hr49 hp49 => ?_)
        obtain ⟨rfl, rfl, hq49⟩ := hp49
        refine am_if_eq (tgt := 71) X dX9_taken_52 (by decide) (fun h52 => ?_) (fun h52 => ?_)
        · skip
          refine am_bipush X (by decide) dX9_taken_71 ?_
          exact hret _ _ _ _ _ dX9_taken_73 rfl rfl (by first | exact ⟨rfl, Or.inl ⟨by omega, by omega, rfl⟩⟩ | exact ⟨rfl, Or.inr (Or.inl ⟨by omega, by omega, rfl⟩)⟩ | exact ⟨rfl, Or.inr (Or.inr (Or.inl ⟨by omega, by omega, rfl⟩))⟩ | exact ⟨rfl, Or.inr (Or.inr (Or.inr (⟨by omega, by omega, rfl⟩)))⟩)
        · skip
          have hkb := hk (σ (51 + 2 * a.toNat) 1).toNat (by omega)
          refine am_aload_n (x := 0) X (by rfl) dX9_taken_55 ?_
          refine am_getr (c1 := 46) X 0 fl_X9_60 (by decide) sh_0 (by decide) (by rfl) dX9_taken_56 ?_
          refine am_getr (c1 := 47) X 46 fl_X9_344 (by decide) sh_46 (by decide) (by rfl) dX9_taken_59 ?_
          refine am_iload_n (x := σ (51 + 2 * a.toNat) 1) X (by rfl) dX9_taken_62 ?_
          refine am_ald (v := σ 47 ((σ (51 + 2 * a.toNat) 1).toNat)) X 47 (σ (51 + 2 * a.toNat) 1).toNat sh_47 (by omega) (by omega) (rfl) dX9_taken_63 ?_
          refine am_iload_n (x := b) X (by rfl) dX9_taken_64 ?_
          refine am_callSi X hY lk_X9_347 mf_X0_isUnder (m_X0_isUnder (σ 47 ((σ (51 + 2 * a.toNat) 1).toNat)) b (by omega) _ σ) (by decide) (by decide) (Nat.le_refl _) (Nat.le_refl _) rfl rfl (Nat.le_of_ble_eq_true rfl) dX9_taken_65 (fun r65 sh65 σ65 hr65 hp65 => ?_)
          obtain ⟨rfl, rfl, hq65⟩ := hp65
          refine am_if_ne (tgt := 74) X dX9_taken_68 (by decide) (fun h68 => ?_) (fun h68 => ?_)
          · skip
            refine am_aload_n (x := 0) X (by rfl) dX9_taken_74 ?_
            refine am_getr (c1 := 46) X 0 fl_X9_60 (by decide) sh_0 (by decide) (by rfl) dX9_taken_75 ?_
            refine am_getr (c1 := 47) X 46 fl_X9_344 (by decide) sh_46 (by decide) (by rfl) dX9_taken_78 ?_
            refine am_iload_n (x := σ (51 + 2 * a.toNat) 1) X (by rfl) dX9_taken_81 ?_
            refine am_ald (v := σ 47 ((σ (51 + 2 * a.toNat) 1).toNat)) X 47 (σ (51 + 2 * a.toNat) 1).toNat sh_47 (by omega) (by omega) (rfl) dX9_taken_82 ?_
            exact hret _ _ _ _ _ dX9_taken_83 rfl rfl (by first | exact ⟨rfl, Or.inl ⟨by omega, by omega, rfl⟩⟩ | exact ⟨rfl, Or.inr (Or.inl ⟨by omega, by omega, rfl⟩)⟩ | exact ⟨rfl, Or.inr (Or.inr (Or.inl ⟨by omega, by omega, rfl⟩))⟩ | exact ⟨rfl, Or.inr (Or.inr (Or.inr (⟨by omega, by omega, rfl⟩)))⟩)
          · skip
            refine am_bipush X (by decide) dX9_taken_71 ?_
            exact hret _ _ _ _ _ dX9_taken_73 rfl rfl (by first | exact ⟨rfl, Or.inl ⟨by omega, by omega, rfl⟩⟩ | exact ⟨rfl, Or.inr (Or.inl ⟨by omega, by omega, rfl⟩)⟩ | exact ⟨rfl, Or.inr (Or.inr (Or.inl ⟨by omega, by omega, rfl⟩))⟩ | exact ⟨rfl, Or.inr (Or.inr (Or.inr (⟨by omega, by omega, rfl⟩)))⟩)
      · skip
        refine am_bipush X (by decide) dX9_taken_31 ?_
        exact hret _ _ _ _ _ dX9_taken_33 rfl rfl (by first | exact ⟨rfl, Or.inl ⟨by omega, by omega, rfl⟩⟩ | exact ⟨rfl, Or.inr (Or.inl ⟨by omega, by omega, rfl⟩)⟩ | exact ⟨rfl, Or.inr (Or.inr (Or.inl ⟨by omega, by omega, rfl⟩))⟩ | exact ⟨rfl, Or.inr (Or.inr (Or.inr (⟨by omega, by omega, rfl⟩)))⟩)
    · skip
      refine am_ic X (by decide) dX9_taken_17 ?_
      exact hret _ _ _ _ _ dX9_taken_18 rfl rfl (by first | exact ⟨rfl, Or.inl ⟨by omega, by omega, rfl⟩⟩ | exact ⟨rfl, Or.inr (Or.inl ⟨by omega, by omega, rfl⟩)⟩ | exact ⟨rfl, Or.inr (Or.inr (Or.inl ⟨by omega, by omega, rfl⟩))⟩ | exact ⟨rfl, Or.inr (Or.inr (Or.inr (⟨by omega, by omega, rfl⟩)))⟩)

set_option maxHeartbeats 4000000 in
set_option maxRecDepth 100000 in
theorem m_X9_shift (a i b j n : Int) (σ : am_H) (hs : ShV σ) : am_Mi yX9_shift cX9_shift 8 (some .int) 2 0 0 [vr 0, vi a, vi i, vi b, vi j, vi n] SH σ (fun r sh' σ' => SH = sh' ∧ ((¬ ((0 ≤ a ∧ a ≤ 5) ∧ 0 ≤ b ∧ b ≤ 5) ∧ r = -1 ∧ σ = σ') ∨ ((((0 ≤ a ∧ a ≤ 5) ∧ 0 ≤ b ∧ b ≤ 5) ∧ ((σ (51 + 2 * a.toNat) 1 < 0 ∧ σ (51 + 2 * a.toNat) 2 < 0) ∨ (σ (51 + 2 * b.toNat) 1 < 0 ∧ σ (51 + 2 * b.toNat) 2 < 0))) ∧ r = -11 ∧ σ = σ') ∨ ((((0 ≤ a ∧ a ≤ 5) ∧ 0 ≤ b ∧ b ≤ 5) ∧ ¬ ((σ (51 + 2 * a.toNat) 1 < 0 ∧ σ (51 + 2 * a.toNat) 2 < 0) ∨ (σ (51 + 2 * b.toNat) 1 < 0 ∧ σ (51 + 2 * b.toNat) 2 < 0)) ∧ ¬ (0 ≤ σ (51 + 2 * a.toNat) 2 ∧ σ (51 + 2 * a.toNat) 2 = σ (51 + 2 * b.toNat) 2)) ∧ r = -12 ∧ σ = σ') ∨ ((((0 ≤ a ∧ a ≤ 5) ∧ 0 ≤ b ∧ b ≤ 5) ∧ ¬ ((σ (51 + 2 * a.toNat) 1 < 0 ∧ σ (51 + 2 * a.toNat) 2 < 0) ∨ (σ (51 + 2 * b.toNat) 1 < 0 ∧ σ (51 + 2 * b.toNat) 2 < 0)) ∧ (0 ≤ σ (51 + 2 * a.toNat) 2 ∧ σ (51 + 2 * a.toNat) 2 = σ (51 + 2 * b.toNat) 2) ∧ ¬ ((0 ≤ n ∧ n ≤ σ (51 + 2 * a.toNat) 3 ∧ 0 ≤ i ∧ i ≤ σ (51 + 2 * a.toNat) 3 - n) ∧ (0 ≤ n ∧ n ≤ σ (51 + 2 * b.toNat) 3 ∧ 0 ≤ j ∧ j ≤ σ (51 + 2 * b.toNat) 3 - n))) ∧ r = -13 ∧ σ = σ') ∨ ((((0 ≤ a ∧ a ≤ 5) ∧ 0 ≤ b ∧ b ≤ 5) ∧ ¬ ((σ (51 + 2 * a.toNat) 1 < 0 ∧ σ (51 + 2 * a.toNat) 2 < 0) ∨ (σ (51 + 2 * b.toNat) 1 < 0 ∧ σ (51 + 2 * b.toNat) 2 < 0)) ∧ (0 ≤ σ (51 + 2 * a.toNat) 2 ∧ σ (51 + 2 * a.toNat) 2 = σ (51 + 2 * b.toNat) 2) ∧ ((0 ≤ n ∧ n ≤ σ (51 + 2 * a.toNat) 3 ∧ 0 ≤ i ∧ i ≤ σ (51 + 2 * a.toNat) 3 - n) ∧ (0 ≤ n ∧ n ≤ σ (51 + 2 * b.toNat) 3 ∧ 0 ≤ j ∧ j ≤ σ (51 + 2 * b.toNat) 3 - n))) ∧ r = n ∧ (am_cp σ (52 + 2 * a.toNat) (52 + 2 * b.toNat) i.toNat j.toNat n.toNat) = σ'))) := by
  refine am_Mi_of (by decide +kernel) (Nat.le_of_ble_eq_true rfl) (fun K X hY hI hret => ?_)
  show am_G K 0 [some (vr 0), some (vi a), some (vi i), some (vi b), some (vi j), some (vi n), none, none] [] SH σ
  refine am_iload_n (x := a) X (by rfl) dX9_shift_0 ?_
  refine am_callSi X hY lk_X9_102 mf_X9_isShelf (m_X9_isShelf a _ σ) (by decide) (by decide) (Nat.le_refl _) (Nat.le_refl _) rfl rfl (Nat.le_of_ble_eq_true rfl) dX9_shift_1 (fun r1 sh1 σ1 hr1 hp1 => ?_)
  obtain ⟨rfl, rfl, hq1⟩ := hp1
  refine am_if_eq (tgt := 14) X dX9_shift_4 (by decide) (fun h4 => ?_) (fun h4 => ?_)
  · skip
    refine am_ic X (by decide) dX9_shift_14 ?_
    exact hret _ _ _ _ _ dX9_shift_15 rfl rfl (by first | exact ⟨rfl, Or.inl ⟨by omega, by omega, rfl⟩⟩ | exact ⟨rfl, Or.inr (Or.inl ⟨by omega, by omega, rfl⟩)⟩ | exact ⟨rfl, Or.inr (Or.inr (Or.inl ⟨by omega, by omega, rfl⟩))⟩ | exact ⟨rfl, Or.inr (Or.inr (Or.inr (Or.inl ⟨by omega, by omega, rfl⟩)))⟩ | exact ⟨rfl, Or.inr (Or.inr (Or.inr (Or.inr (⟨by omega, by omega, rfl⟩))))⟩)
  · skip
    refine am_iload_n (x := b) X (by rfl) dX9_shift_7 ?_
    refine am_callSi X hY lk_X9_102 mf_X9_isShelf (m_X9_isShelf b _ σ) (by decide) (by decide) (Nat.le_refl _) (Nat.le_refl _) rfl rfl (Nat.le_of_ble_eq_true rfl) dX9_shift_8 (fun r8 sh8 σ8 hr8 hp8 => ?_)
    obtain ⟨rfl, rfl, hq8⟩ := hp8
    refine am_if_ne (tgt := 16) X dX9_shift_11 (by decide) (fun h11 => ?_) (fun h11 => ?_)
    · skip
      refine am_aload_n (x := 0) X (by rfl) dX9_shift_16 ?_
      refine am_getr (c1 := 49) X 0 fl_X9_66 (by decide) sh_0 (by decide) (by rfl) dX9_shift_17 ?_
      refine am_iload_n (x := a) X (by rfl) dX9_shift_20 ?_
      refine am_aald (c1 := (51 + 2 * a.toNat)) X 49 sh_49 (by omega) (by omega) (sh_sv (by omega)) dX9_shift_21 ?_
      refine am_astore (i := 6) (L' := [some (vr 0), some (vi a), some (vi i), some (vi b), some (vi j), some (vi n), some (vr (51 + 2 * a.toNat)), none]) X (Nat.le_of_ble_eq_true rfl) (by rfl) dX9_shift_22 ?_
      refine am_aload_n (x := 0) X (by rfl) dX9_shift_24 ?_
      refine am_getr (c1 := 49) X 0 fl_X9_66 (by decide) sh_0 (by decide) (by rfl) dX9_shift_25 ?_
      refine am_iload_n (x := b) X (by rfl) dX9_shift_28 ?_
      refine am_aald (c1 := (51 + 2 * b.toNat)) X 49 sh_49 (by omega) (by omega) (sh_sv (by omega)) dX9_shift_29 ?_
      refine am_astore (i := 7) (L' := [some (vr 0), some (vi a), some (vi i), some (vi b), some (vi j), some (vi n), some (vr (51 + 2 * a.toNat)), some (vr (51 + 2 * b.toNat))]) X (Nat.le_of_ble_eq_true rfl) (by rfl) dX9_shift_30 ?_
      refine am_aload (x := (51 + 2 * a.toNat)) X (by rfl) dX9_shift_32 ?_
      refine am_callVi (ci := 6) X hY lk_X9_105 mf_X7_holdsNothing (m_X7_holdsNothing a.toNat (by omega) σ) (by decide) (by decide) (Nat.le_refl _) (Nat.le_refl _) (sh_sf (by omega)) rfl rfl rfl (Nat.le_of_ble_eq_true rfl) dX9_shift_34 (fun r34 sh34 σ34 hr34 hp34 => ?_)
      obtain ⟨rfl, rfl, hq34⟩ := hp34
      refine am_if_ne (tgt := 48) X dX9_shift_37 (by decide) (fun h37 => ?_) (fun h37 => ?_)
      · skip
        refine am_bipush X (by decide) dX9_shift_48 ?_
        exact hret _ _ _ _ _ dX9_shift_50 rfl rfl (by first | exact ⟨rfl, Or.inl ⟨by omega, by omega, rfl⟩⟩ | exact ⟨rfl, Or.inr (Or.inl ⟨by omega, by omega, rfl⟩)⟩ | exact ⟨rfl, Or.inr (Or.inr (Or.inl ⟨by omega, by omega, rfl⟩))⟩ | exact ⟨rfl, Or.inr (Or.inr (Or.inr (Or.inl ⟨by omega, by omega, rfl⟩)))⟩ | exact ⟨rfl, Or.inr (Or.inr (Or.inr (Or.inr (⟨by omega, by omega, rfl⟩))))⟩)
      · skip
        refine am_aload (x := (51 + 2 * b.toNat)) X (by rfl) dX9_shift_40 ?_
        refine am_callVi (ci := 6) X hY lk_X9_105 mf_X7_holdsNothing (m_X7_holdsNothing b.toNat (by omega) σ) (by decide) (by decide) (Nat.le_refl _) (Nat.le_refl _) (sh_sf (by omega)) rfl rfl rfl (Nat.le_of_ble_eq_true rfl) dX9_shift_42 (fun r42 sh42 σ42 hr42 hp42 => ?_)
        obtain ⟨rfl, rfl, hq42⟩ := hp42
        refine am_if_eq (tgt := 51) X dX9_shift_45 (by decide) (fun h45 => ?_) (fun h45 => ?_)
        · skip
          have hsa := (hs a.toNat (by omega)).2.2.1
          have hsb := (hs b.toNat (by omega)).2.2.1
          refine am_aload (x := (51 + 2 * a.toNat)) X (by rfl) dX9_shift_51 ?_
          refine am_callVi (ci := 6) X hY lk_X9_329 mf_X7_holdsRow (m_X7_holdsRow a.toNat (by omega) σ) (by decide) (by decide) (Nat.le_refl _) (Nat.le_refl _) (sh_sf (by omega)) rfl rfl rfl (Nat.le_of_ble_eq_true rfl) dX9_shift_53 (fun r53 sh53 σ53 hr53 hp53 => ?_)
          obtain ⟨rfl, rfl, hq53⟩ := hp53
          refine am_if_eq (tgt := 72) X dX9_shift_56 (by decide) (fun h56 => ?_) (fun h56 => ?_)
          · skip
            refine am_bipush X (by decide) dX9_shift_72 ?_
            exact hret _ _ _ _ _ dX9_shift_74 rfl rfl (by first | exact ⟨rfl, Or.inl ⟨by omega, by omega, rfl⟩⟩ | exact ⟨rfl, Or.inr (Or.inl ⟨by omega, by omega, rfl⟩)⟩ | exact ⟨rfl, Or.inr (Or.inr (Or.inl ⟨by omega, by omega, rfl⟩))⟩ | exact ⟨rfl, Or.inr (Or.inr (Or.inr (Or.inl ⟨by omega, by omega, rfl⟩)))⟩ | exact ⟨rfl, Or.inr (Or.inr (Or.inr (Or.inr (⟨by omega, by omega, rfl⟩))))⟩)
          · skip
            refine am_aload (x := (51 + 2 * a.toNat)) X (by rfl) dX9_shift_59 ?_
            refine am_get (v := σ (51 + 2 * a.toNat) 2) X (51 + 2 * a.toNat) fl_X9_109 (by decide) (sh_sf (by omega)) (by decide) (rfl) dX9_shift_61 ?_
            refine am_aload (x := (51 + 2 * b.toNat)) X (by rfl) dX9_shift_64 ?_
            refine am_get (v := σ (51 + 2 * b.toNat) 2) X (51 + 2 * b.toNat) fl_X9_109 (by decide) (sh_sf (by omega)) (by decide) (rfl) dX9_shift_66 ?_
            refine am_icmp_eq (tgt := 75) X dX9_shift_69 (by decide) (fun h69 => ?_) (fun h69 => ?_)
            · skip
              refine am_aload (x := (51 + 2 * a.toNat)) X (by rfl) dX9_shift_75 ?_
              refine am_iload_n (x := i) X (by rfl) dX9_shift_77 ?_
              refine am_iload (x := n) X (by rfl) dX9_shift_78 ?_
              refine am_callVi (ci := 6) X hY lk_X9_332 mf_X7_hasPlaces (m_X7_hasPlaces a.toNat (by omega) i n σ (by omega)) (by decide) (by decide) (Nat.le_refl _) (Nat.le_refl _) (sh_sf (by omega)) rfl rfl rfl (Nat.le_of_ble_eq_true rfl) dX9_shift_80 (fun r80 sh80 σ80 hr80 hp80 => ?_)
              obtain ⟨rfl, rfl, hq80⟩ := hp80
              refine am_if_eq (tgt := 98) X dX9_shift_83 (by decide) (fun h83 => ?_) (fun h83 => ?_)
              · skip
                refine am_bipush X (by decide) dX9_shift_98 ?_
                exact hret _ _ _ _ _ dX9_shift_100 rfl rfl (by first | exact ⟨rfl, Or.inl ⟨by omega, by omega, rfl⟩⟩ | exact ⟨rfl, Or.inr (Or.inl ⟨by omega, by omega, rfl⟩)⟩ | exact ⟨rfl, Or.inr (Or.inr (Or.inl ⟨by omega, by omega, rfl⟩))⟩ | exact ⟨rfl, Or.inr (Or.inr (Or.inr (Or.inl ⟨by omega, by omega, rfl⟩)))⟩ | exact ⟨rfl, Or.inr (Or.inr (Or.inr (Or.inr (⟨by omega, by omega, rfl⟩))))⟩)
              · skip
                refine am_aload (x := (51 + 2 * b.toNat)) X (by rfl) dX9_shift_86 ?_
                refine am_iload (x := j) X (by rfl) dX9_shift_88 ?_
                refine am_iload (x := n) X (by rfl) dX9_shift_90 ?_
                refine am_callVi (ci := 6) X hY lk_X9_332 mf_X7_hasPlaces (m_X7_hasPlaces b.toNat (by omega) j n σ (by omega)) (by decide) (by decide) (Nat.le_refl _) (Nat.le_refl _) (sh_sf (by omega)) rfl rfl rfl (Nat.le_of_ble_eq_true rfl) dX9_shift_92 (fun r92 sh92 σ92 hr92 hp92 => ?_)
                obtain ⟨rfl, rfl, hq92⟩ := hp92
                refine am_if_ne (tgt := 101) X dX9_shift_95 (by decide) (fun h95 => ?_) (fun h95 => ?_)
                · skip
                  refine am_aload (x := (51 + 2 * a.toNat)) X (by rfl) dX9_shift_101 ?_
                  refine am_getr (c1 := (52 + 2 * a.toNat)) X (51 + 2 * a.toNat) fl_X9_325 (by decide) (sh_sf (by omega)) (by decide) (by rfl) dX9_shift_103 ?_
                  refine am_iload_n (x := i) X (by rfl) dX9_shift_106 ?_
                  refine am_aload (x := (51 + 2 * b.toNat)) X (by rfl) dX9_shift_107 ?_
                  refine am_getr (c1 := (52 + 2 * b.toNat)) X (51 + 2 * b.toNat) fl_X9_325 (by decide) (sh_sf (by omega)) (by decide) (by rfl) dX9_shift_109 ?_
                  refine am_iload (x := j) X (by rfl) dX9_shift_112 ?_
                  refine am_iload (x := n) X (by rfl) dX9_shift_114 ?_
                  refine am_copyl X hY (52 + 2 * a.toNat) (52 + 2 * b.toNat) lk_X9_335 (by decide) (sh_el (by omega)) (sh_el (by omega)) (by omega) (by omega) (by omega) (by omega) (by omega) (Nat.le_of_ble_eq_true rfl) dX9_shift_116 ?_
                  refine am_iload (x := n) X (by rfl) dX9_shift_119 ?_
                  exact hret _ _ _ _ _ dX9_shift_121 rfl rfl (by first | exact ⟨rfl, Or.inl ⟨by omega, by omega, rfl⟩⟩ | exact ⟨rfl, Or.inr (Or.inl ⟨by omega, by omega, rfl⟩)⟩ | exact ⟨rfl, Or.inr (Or.inr (Or.inl ⟨by omega, by omega, rfl⟩))⟩ | exact ⟨rfl, Or.inr (Or.inr (Or.inr (Or.inl ⟨by omega, by omega, rfl⟩)))⟩ | exact ⟨rfl, Or.inr (Or.inr (Or.inr (Or.inr (⟨by omega, by omega, rfl⟩))))⟩)
                · skip
                  refine am_bipush X (by decide) dX9_shift_98 ?_
                  exact hret _ _ _ _ _ dX9_shift_100 rfl rfl (by first | exact ⟨rfl, Or.inl ⟨by omega, by omega, rfl⟩⟩ | exact ⟨rfl, Or.inr (Or.inl ⟨by omega, by omega, rfl⟩)⟩ | exact ⟨rfl, Or.inr (Or.inr (Or.inl ⟨by omega, by omega, rfl⟩))⟩ | exact ⟨rfl, Or.inr (Or.inr (Or.inr (Or.inl ⟨by omega, by omega, rfl⟩)))⟩ | exact ⟨rfl, Or.inr (Or.inr (Or.inr (Or.inr (⟨by omega, by omega, rfl⟩))))⟩)
            · skip
              refine am_bipush X (by decide) dX9_shift_72 ?_
              exact hret _ _ _ _ _ dX9_shift_74 rfl rfl (by first | exact ⟨rfl, Or.inl ⟨by omega, by omega, rfl⟩⟩ | exact ⟨rfl, Or.inr (Or.inl ⟨by omega, by omega, rfl⟩)⟩ | exact ⟨rfl, Or.inr (Or.inr (Or.inl ⟨by omega, by omega, rfl⟩))⟩ | exact ⟨rfl, Or.inr (Or.inr (Or.inr (Or.inl ⟨by omega, by omega, rfl⟩)))⟩ | exact ⟨rfl, Or.inr (Or.inr (Or.inr (Or.inr (⟨by omega, by omega, rfl⟩))))⟩)
        · skip
          refine am_bipush X (by decide) dX9_shift_48 ?_
          exact hret _ _ _ _ _ dX9_shift_50 rfl rfl (by first | exact ⟨rfl, Or.inl ⟨by omega, by omega, rfl⟩⟩ | exact ⟨rfl, Or.inr (Or.inl ⟨by omega, by omega, rfl⟩)⟩ | exact ⟨rfl, Or.inr (Or.inr (Or.inl ⟨by omega, by omega, rfl⟩))⟩ | exact ⟨rfl, Or.inr (Or.inr (Or.inr (Or.inl ⟨by omega, by omega, rfl⟩)))⟩ | exact ⟨rfl, Or.inr (Or.inr (Or.inr (Or.inr (⟨by omega, by omega, rfl⟩))))⟩)
    · skip
      refine am_ic X (by decide) dX9_shift_14 ?_
      exact hret _ _ _ _ _ dX9_shift_15 rfl rfl (by first | exact ⟨rfl, Or.inl ⟨by omega, by omega, rfl⟩⟩ | exact ⟨rfl, Or.inr (Or.inl ⟨by omega, by omega, rfl⟩)⟩ | exact ⟨rfl, Or.inr (Or.inr (Or.inl ⟨by omega, by omega, rfl⟩))⟩ | exact ⟨rfl, Or.inr (Or.inr (Or.inr (Or.inl ⟨by omega, by omega, rfl⟩)))⟩ | exact ⟨rfl, Or.inr (Or.inr (Or.inr (Or.inr (⟨by omega, by omega, rfl⟩))))⟩)
