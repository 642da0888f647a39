set_option maxHeartbeats 4000000 in
set_option maxRecDepth 100000 in
theorem m_X9_worksToday (σ : am_H) (p : Int) (kp : Nat) (hkp : p = kp) (hpp : p < σ 1 2) (hg : CGo σ) (hn : 0 ≤ σ 22 7 ∧ σ 22 7 ≤ 47) : am_Mi yX9_worksToday cX9_worksToday 7 (some .boolean) 5 0 0 [vr 0, vi p] SH σ (fun r sh' σ' => SH = sh' ∧ ((r = 0 ∧ c_ch σ p < 0 ∧ c_fr σ σ') ∨ (r = 1 ∧ 0 ≤ c_ch σ p ∧ c_fr (c_wk σ p (c_ch σ p)) σ'))) := by
  refine am_Mz_of (by decide +kernel) (Nat.le_of_ble_eq_true rfl) (fun K X hY hI hret => ?_)
  show am_G K 0 [some (vr 0), some (vi p), none, none, none, none, none] [] SH σ
  obtain ⟨hp, hc, hd, hlaw, hski, hdeb, ha, hask⟩ := id hg
  refine am_aload_n (x := 0) X (by rfl) dX9_worksToday_0 ?_
  refine am_getr (c1 := 22) X 0 fl_X9_40 (by decide) sh_0 (by decide) (by rfl) dX9_worksToday_1 ?_
  refine am_get (v := σ 22 7) X 22 fl_X9_175 (by decide) sh_22 (by decide) (rfl) dX9_worksToday_4 ?_
  refine am_istore_n (i := 2) (L' := [some (vr 0), some (vi p), some (vi (σ 22 7)), none, none, none, none]) X rfl (Nat.le_of_ble_eq_true rfl) (by rfl) dX9_worksToday_7 ?_
  refine am_aload_n (x := 0) X (by rfl) dX9_worksToday_8 ?_
  refine am_iload_n (x := p) X (by rfl) dX9_worksToday_9 ?_
  refine am_iload_n (x := σ 22 7) X (by rfl) dX9_worksToday_10 ?_
  refine am_callVi (ci := 8) X hY lk_X9_190 mf_X9_debtToWork (m_X9_debtToWork σ p (σ 22 7) (by omega) hp hc hd hlaw hski hdeb ha hask) (by decide) (by decide) (Nat.le_refl _) (Nat.le_refl _) sh_0 rfl rfl rfl (Nat.le_of_ble_eq_true rfl) dX9_worksToday_11 (fun r11 sh11 σ11 hr11 hp11 => ?_)
  obtain ⟨rfl, hf11, hq11⟩ := hp11
  refine am_istore_n (i := 3) (L' := [some (vr 0), some (vi p), some (vi (σ 22 7)), some (vi r11), none, none, none]) X rfl (Nat.le_of_ble_eq_true rfl) (by rfl) dX9_worksToday_14 ?_
  have hchb := c_ch_bd (p := p) hg
  have hchq : r11 = c_ch σ p := hq11
  rw [← hchq] at hchb
  refine am_iload_n (x := r11) X (by rfl) dX9_worksToday_15 ?_
  refine am_if_ge (tgt := 21) X dX9_worksToday_16 (by decide) (fun h16 => ?_) (fun h16 => ?_)
  · skip
    have hdb := hdeb r11.toNat (by omega)
    have hd9 := hd r11.toNat (by omega)
    refine am_aload_n (x := 0) X (by rfl) dX9_worksToday_21 ?_
    refine am_getr (c1 := 16) X 0 fl_X9_33 (by decide) sh_0 (by decide) (by rfl) dX9_worksToday_22 ?_
    refine am_getr (c1 := 18) X 16 fl_X9_193 (by decide) sh_16 (by decide) (by rfl) dX9_worksToday_25 ?_
    refine am_iload_n (x := r11) X (by rfl) dX9_worksToday_28 ?_
    refine am_ald (v := σ 18 r11.toNat) X 18 r11.toNat sh_18 (by omega) (by omega) (hf11 18 r11.toNat (by decide) (by decide)) dX9_worksToday_29 ?_
    refine am_istore (i := 4) (L' := [some (vr 0), some (vi p), some (vi (σ 22 7)), some (vi r11), some (vi (σ 18 r11.toNat)), none, none]) X (Nat.le_of_ble_eq_true rfl) (by rfl) dX9_worksToday_30 ?_
    refine am_aload_n (x := 0) X (by rfl) dX9_worksToday_32 ?_
    refine am_getr (c1 := 16) X 0 fl_X9_33 (by decide) sh_0 (by decide) (by rfl) dX9_worksToday_33 ?_
    refine am_getr (c1 := 20) X 16 fl_X9_361 (by decide) sh_16 (by decide) (by rfl) dX9_worksToday_36 ?_
    refine am_iload_n (x := r11) X (by rfl) dX9_worksToday_39 ?_
    refine am_ald (v := σ 20 r11.toNat) X 20 r11.toNat sh_20 (by omega) (by omega) (hf11 20 r11.toNat (by decide) (by decide)) dX9_worksToday_40 ?_
    refine am_istore (i := 5) (L' := [some (vr 0), some (vi p), some (vi (σ 22 7)), some (vi r11), some (vi (σ 18 r11.toNat)), some (vi (σ 20 r11.toNat)), none]) X (Nat.le_of_ble_eq_true rfl) (by rfl) dX9_worksToday_41 ?_
    have hL79 : ∀ (wz : Int) (hwz : wz = c_whole σ r11), am_G K 79 [some (vr 0), some (vi p), some (vi (σ 22 7)), some (vi r11), some (vi (σ 18 r11.toNat)), some (vi (σ 20 r11.toNat)), none] [vi wz] SH σ11 := by
      intro wz hwz
      refine am_istore (i := 6) (L' := [some (vr 0), some (vi p), some (vi (σ 22 7)), some (vi r11), some (vi (σ 18 r11.toNat)), some (vi (σ 20 r11.toNat)), some (vi wz)]) X (Nat.le_of_ble_eq_true rfl) (by rfl) dX9_worksToday_79 ?_
      refine am_aload_n (x := 0) X (by rfl) dX9_worksToday_81 ?_
      refine am_getr (c1 := 22) X 0 fl_X9_40 (by decide) sh_0 (by decide) (by rfl) dX9_worksToday_82 ?_
      refine am_iload_n (x := p) X (by rfl) dX9_worksToday_85 ?_
      refine am_iload (x := σ 18 r11.toNat) X (by rfl) dX9_worksToday_86 ?_
      refine am_iload_n (x := r11) X (by rfl) dX9_worksToday_88 ?_
      refine am_aload_n (x := 0) X (by rfl) dX9_worksToday_89 ?_
      refine am_iload_n (x := p) X (by rfl) dX9_worksToday_90 ?_
      refine am_iload (x := σ 18 r11.toNat) X (by rfl) dX9_worksToday_91 ?_
      refine am_iload_n (x := σ 22 7) X (by rfl) dX9_worksToday_93 ?_
      refine am_callVi (ci := 8) X hY lk_X9_171 mf_X9_worthOf (m_X9_worthOf p (σ 18 r11.toNat) (σ 22 7) (σ 22 7 / 4).toNat kp rfl (by omega) (by omega) σ11 ((c_lw_fr hf11).2 hlaw) (by rw [hf11 2 _ (by decide) (by decide), hf11 3 _ (by decide) (by decide)]; have h1 := hski.1 (σ 22 7 / 4).toNat (by omega); have h2 := hski.2 kp (by omega); omega)) (by decide) (by decide) (Nat.le_refl _) (Nat.le_refl _) sh_0 rfl rfl rfl (Nat.le_of_ble_eq_true rfl) dX9_worksToday_94 (fun r94 sh94 σ94 hr94 hp94 => ?_)
      obtain ⟨rfl, hf94, hq94⟩ := hp94
      have hg94 := c_fr_tr hf11 hf94
      rw [c_wv_fr hf11] at hq94
      refine am_callVv (ci := 2) X hY lk_X9_402 mf_X2_lead (m_X2_lead p (σ 18 r11.toNat) r11 r94 (σ 18 r11.toNat).toNat (by omega) σ94 (by rw [hg94 22 7 (by decide) (by decide)]; omega)) (by decide) (by decide) (Nat.le_refl _) (Nat.le_refl _) sh_22 rfl rfl rfl (Nat.le_of_ble_eq_true rfl) dX9_worksToday_97 (fun sh97 σ97 hp97 => ?_)
      obtain ⟨rfl, rfl, hq97⟩ := hp97
      refine am_aload_n (x := 0) X (by rfl) dX9_worksToday_100 ?_
      refine am_getr (c1 := 16) X 0 fl_X9_33 (by decide) sh_0 (by decide) (by rfl) dX9_worksToday_101 ?_
      refine am_iload_n (x := r11) X (by rfl) dX9_worksToday_104 ?_
      refine am_iload (x := wz) X (by rfl) dX9_worksToday_105 ?_
      refine am_callVv (ci := 4) X hY lk_X9_405 mf_X4_workOff (m_X4_workOff r11 r11.toNat (by omega) (by omega) wz (dia_lead σ94 (σ94 22 7 * 8 + p).toNat (σ 18 r11.toNat).toNat (σ 18 r11.toNat) r11 r94) (by rw [dia_lead_at (by decide), hg94 19 _ (by decide) (by decide)]; omega)) (by decide) (by decide) (Nat.le_refl _) (Nat.le_refl _) sh_16 rfl rfl rfl (Nat.le_of_ble_eq_true rfl) dX9_worksToday_107 (fun sh107 σ107 hp107 => ?_)
      obtain ⟨rfl, rfl, hq107⟩ := hp107
      refine am_ic X (by decide) dX9_worksToday_110 ?_
      exact hret _ _ _ _ _ dX9_worksToday_111 rfl rfl (⟨rfl, Or.inr ⟨rfl, by rw [← hchq]; omega, by rw [← hchq]; unfold c_wk; rw [← hwz, ← hq94, show (σ 22 7 * 8 + p).toNat = (σ94 22 7 * 8 + p).toNat by rw [hg94 22 7 (by decide) (by decide)]]; exact led_work_fr (dia_lead_fr hg94 _ _ _ _ _) _ _⟩⟩) (by first | exact Or.inl rfl | exact Or.inr rfl | omega)
    refine am_iload (x := σ 20 r11.toNat) X (by rfl) dX9_worksToday_43 ?_
    refine am_bipush X (by decide) dX9_worksToday_45 ?_
    refine am_icmp_eq (tgt := 74) X dX9_worksToday_47 (by decide) (fun h47 => ?_) (fun h47 => ?_)
    · skip
      refine am_ic X (by decide) dX9_worksToday_74 ?_
      refine am_goto (tgt := 79) X dX9_worksToday_75 (by decide) ?_
      exact hL79 1 (by unfold c_whole; rw [if_pos (by omega)])
    · skip
      refine am_aload_n (x := 0) X (by rfl) dX9_worksToday_50 ?_
      refine am_getr (c1 := 1) X 0 fl_X9_10 (by decide) sh_0 (by decide) (by rfl) dX9_worksToday_51 ?_
      refine am_getr (c1 := 2) X 1 fl_X9_383 (by decide) sh_1 (by decide) (by rfl) dX9_worksToday_54 ?_
      refine am_iload (x := σ 20 r11.toNat) X (by rfl) dX9_worksToday_57 ?_
      refine am_ald (v := σ 2 ((σ 20 r11.toNat).toNat)) X 2 ((σ 20 r11.toNat).toNat) sh_2 (by omega) (by omega) (hf11 2 ((σ 20 r11.toNat).toNat) (by decide) (by decide)) dX9_worksToday_59 ?_
      refine am_aload_n (x := 0) X (by rfl) dX9_worksToday_60 ?_
      refine am_getr (c1 := 1) X 0 fl_X9_10 (by decide) sh_0 (by decide) (by rfl) dX9_worksToday_61 ?_
      refine am_getr (c1 := 2) X 1 fl_X9_383 (by decide) sh_1 (by decide) (by rfl) dX9_worksToday_64 ?_
      refine am_iload_n (x := σ 22 7) X (by rfl) dX9_worksToday_67 ?_
      refine am_ic X (by decide) dX9_worksToday_68 ?_
      refine am_div (v := (σ 22 7 / 4)) X (by omega) (by omega) rfl dX9_worksToday_69 ?_
      refine am_ald (v := σ 2 ((σ 22 7 / 4).toNat)) X 2 ((σ 22 7 / 4).toNat) sh_2 (by omega) (by omega) (hf11 2 ((σ 22 7 / 4).toNat) (by decide) (by decide)) dX9_worksToday_70 ?_
      refine am_icmp_gt (tgt := 78) X dX9_worksToday_71 (by decide) (fun h71 => ?_) (fun h71 => ?_)
      · skip
        refine am_ic X (by decide) dX9_worksToday_78 ?_
        exact hL79 0 (by unfold c_whole; rw [if_neg (by omega)])
      · skip
        refine am_ic X (by decide) dX9_worksToday_74 ?_
        refine am_goto (tgt := 79) X dX9_worksToday_75 (by decide) ?_
        exact hL79 1 (by unfold c_whole; rw [if_pos (by omega)])
  · skip
    refine am_ic X (by decide) dX9_worksToday_19 ?_
    exact hret _ _ _ _ _ dX9_worksToday_20 rfl rfl (⟨rfl, Or.inl ⟨by omega, by rw [← hchq]; omega, hf11⟩⟩) (by first | exact Or.inl rfl | exact Or.inr rfl | omega)

set_option maxHeartbeats 4000000 in
set_option maxRecDepth 100000 in
theorem m_X9_go (σ : am_H) (seed n : Int) (hg : CGo σ) (hn : 0 ≤ σ 22 7 ∧ σ 22 7 ≤ 48) : am_Mi yX9_go cX9_go 8 (some .int) 6 0 0 [vr 0, vi seed, vi n] SH σ (fun r sh' σ' => SH = sh' ∧ ((((1 ≤ n ∧ n ≤ 48) ∧ n ≤ 48 - σ 22 7) ∧ c_fr (c_go n.toNat seed σ).2.2 σ' ∧ r = (c_go n.toNat seed σ).2.1) ∨ (¬ ((1 ≤ n ∧ n ≤ 48) ∧ n ≤ 48 - σ 22 7) ∧ c_fr σ σ' ∧ r = (if 1 ≤ n ∧ n ≤ 48 then -5 else -1)))) := by
  refine am_Mi_of (by decide +kernel) (Nat.le_of_ble_eq_true rfl) (fun K X hY hI hret => ?_)
  show am_G K 0 [some (vr 0), some (vi seed), some (vi n), none, none, none, none, none] [] SH σ
  have hp0 := hg.1
  refine am_iload_n (x := n) X (by rfl) dX9_go_0 ?_
  refine am_ic X (by decide) dX9_go_1 ?_
  refine am_bipush X (by decide) dX9_go_2 ?_
  refine am_callSi X hY lk_X9_75 mf_X9_within (m_X9_within n 1 48 _ σ) (by decide) (by decide) (Nat.le_refl _) (Nat.le_refl _) rfl rfl (Nat.le_of_ble_eq_true rfl) dX9_go_4 (fun r4 sh4 σ4 hr4 hp4 => ?_)
  obtain ⟨rfl, rfl, hq4⟩ := hp4
  refine am_if_ne (tgt := 12) X dX9_go_7 (by decide) (fun h7 => ?_) (fun h7 => ?_)
  · skip
    refine am_iload_n (x := n) X (by rfl) dX9_go_12 ?_
    refine am_bipush X (by decide) dX9_go_13 ?_
    refine am_aload_n (x := 0) X (by rfl) dX9_go_15 ?_
    refine am_getr (c1 := 22) X 0 fl_X9_40 (by decide) sh_0 (by decide) (by rfl) dX9_go_16 ?_
    refine am_get (v := σ 22 7) X 22 fl_X9_175 (by decide) sh_22 (by decide) (rfl) dX9_go_19 ?_
    refine am_sub (v := (48 - σ 22 7)) X (by first | rfl | omega) (by omega) dX9_go_22 ?_
    refine am_icmp_le (tgt := 29) X dX9_go_23 (by decide) (fun h23 => ?_) (fun h23 => ?_)
    · skip
      refine am_iload_n (x := seed) X (by rfl) dX9_go_29 ?_
      refine am_istore_n (i := 3) (L' := [some (vr 0), some (vi seed), some (vi n), some (vi seed), none, none, none, none]) X rfl (Nat.le_of_ble_eq_true rfl) (by rfl) dX9_go_30 ?_
      refine am_ic X (by decide) dX9_go_31 ?_
      refine am_istore (i := 4) (L' := [some (vr 0), some (vi seed), some (vi n), some (vi seed), some (vi 0), none, none, none]) X (Nat.le_of_ble_eq_true rfl) (by rfl) dX9_go_32 ?_
      refine am_ic X (by decide) dX9_go_34 ?_
      refine am_istore (i := 5) (L' := [some (vr 0), some (vi seed), some (vi n), some (vi seed), some (vi 0), some (vi 0), none, none]) X (Nat.le_of_ble_eq_true rfl) (by rfl) dX9_go_35 ?_
      have hL37 : ∀ (m37 : Nat) (g : Nat) (z : Int) (w : Int) (υ : am_H) (τ : am_H) (hgn : (g : Int) ≤ n) (hgo : (z, w, υ) = c_go g seed σ) (hfr : c_fr υ τ) (hcg : CGo υ) (hnow : υ 22 7 = σ 22 7 + (g : Int)) (hpe : υ 1 2 = σ 1 2) (hw : 0 ≤ w ∧ w ≤ 8 * (g : Int)) (hm37 : n.toNat - g = m37), am_G K 37 [some (vr 0), some (vi seed), some (vi n), some (vi z), some (vi w), some (vi (g : Int)), none, none] [] SH τ := by
        intro m37
        induction m37 using Nat.strongRecOn with
        | ind m37 ih37 =>
        intro g z w υ τ hgn hgo hfr hcg hnow hpe hw hm37
        refine am_iload (x := (g : Int)) X (by rfl) dX9_go_37 ?_
        refine am_iload_n (x := n) X (by rfl) dX9_go_39 ?_
        refine am_icmp_ge (tgt := 140) X dX9_go_40 (by decide) (fun h40 => ?_) (fun h40 => ?_)
        · skip
          refine am_iload (x := w) X (by rfl) dX9_go_140 ?_
          exact hret _ _ _ _ _ dX9_go_142 rfl rfl (⟨rfl, Or.inl ⟨by omega, by rw [show n.toNat = g by omega, ← hgo]; exact hfr, by rw [show n.toNat = g by omega, ← hgo]⟩⟩)
        · skip
          refine am_ic X (by decide) dX9_go_43 ?_
          refine am_istore (i := 6) (L' := [some (vr 0), some (vi seed), some (vi n), some (vi z), some (vi w), some (vi (g : Int)), some (vi 0), none]) X (Nat.le_of_ble_eq_true rfl) (by rfl) dX9_go_44 ?_
          have hL46 : ∀ (m46 : Nat) (p : Nat) (z2 : Int) (w2 : Int) (υ2 : am_H) (τ2 : am_H) (hpn : (p : Int) ≤ υ 1 2) (hin : (z2, w2, υ2) = am_it c_pp p (z, w, υ)) (hfr2 : c_fr υ2 τ2) (hcg2 : CGo υ2) (hnow2 : υ2 22 7 = υ 22 7) (hpe2 : υ2 1 2 = υ 1 2) (hw2 : w ≤ w2 ∧ w2 ≤ w + (p : Int)) (hm46 : 8 - p = m46), am_G K 46 [some (vr 0), some (vi seed), some (vi n), some (vi z2), some (vi w2), some (vi (g : Int)), some (vi (p : Int)), none] [] SH τ2 := by
            intro m46
            induction m46 using Nat.strongRecOn with
            | ind m46 ih46 =>
            intro p z2 w2 υ2 τ2 hpn hin hfr2 hcg2 hnow2 hpe2 hw2 hm46
            have hi1 : c_pp p (z2, w2, υ2) = am_it c_pp (p + 1) (z, w, υ) := by rw [am_it_succ, ← hin]
            have hgv2 : CGo υ2 := hcg2
            refine am_iload (x := (p : Int)) X (by rfl) dX9_go_46 ?_
            refine am_aload_n (x := 0) X (by rfl) dX9_go_48 ?_
            refine am_getr (c1 := 1) X 0 fl_X9_10 (by decide) sh_0 (by decide) (by rfl) dX9_go_49 ?_
            refine am_get (v := υ2 1 2) X 1 fl_X9_79 (by decide) sh_1 (by decide) (hfr2 1 2 (by decide) (by decide)) dX9_go_52 ?_
            refine am_icmp_ge (tgt := 127) X dX9_go_55 (by decide) (fun h55 => ?_) (fun h55 => ?_)
            · skip
              refine am_aload_n (x := 0) X (by rfl) dX9_go_127 ?_
              refine am_getr (c1 := 22) X 0 fl_X9_40 (by decide) sh_0 (by decide) (by rfl) dX9_go_128 ?_
              refine am_callVv (ci := 2) X hY lk_X9_203 mf_X2_endDay (m_X2_endDay τ2 (by rw [hfr2 22 6 (by decide) (by decide)]; exact hcg2.2.2.2.2.2.2.1) (by rw [hfr2 22 7 (by decide) (by decide)]; omega)) (by decide) (by decide) (Nat.le_refl _) (Nat.le_refl _) sh_22 rfl rfl rfl (Nat.le_of_ble_eq_true rfl) dX9_go_131 (fun sh131 σ131 hp131 => ?_)
              obtain ⟨rfl, rfl, hq131⟩ := hp131
              refine am_inc (x := (g : Int)) (v := ((g : Int) + 1)) (L' := [some (vr 0), some (vi seed), some (vi n), some (vi z2), some (vi w2), some (vi ((g : Int) + 1)), some (vi (p : Int)), none]) X (by rfl) (by omega) (by omega) (by rfl) dX9_go_134 ?_
              refine am_goto (tgt := 37) X dX9_go_137 (by decide) ?_
              refine am_fg [true, true, true, true, true, true, false, false] rfl (L' := [some (vr 0), some (vi seed), some (vi n), some (vi z2), some (vi w2), some (vi ((g : Int) + 1)), none, none]) rfl ?_
              exact ih37 _ (by omega) (g + 1) z2 w2 (dia_end υ2) (dia_end τ2) (by omega) (by show _ = c_day (c_go g seed σ); rw [← hgo]; unfold c_day; rw [show (υ 1 2).toNat = p by omega, ← hin]) (dia_end_fr hfr2) (CGo_end hcg2) (by rw [dia_end_7, hnow2, hnow]; omega) (by rw [dia_end_at (by decide) (by decide), hpe2, hpe]) (by omega) rfl
            · skip
              refine am_iload_n (x := z2) X (by rfl) dX9_go_58 ?_
              refine am_ldc X (n := 1103515245) (by unfold R32; decide) cn_X9_196 dX9_go_59 ?_
              refine am_imul X dX9_go_61 ?_
              refine am_sipush X (by decide) dX9_go_62 ?_
              refine am_iadd X dX9_go_65 ?_
              refine am_topi (fun zz hzz => ?_)
              have hzz : zz = go_z z2 := hzz
              refine am_istore_n (i := 3) (L' := [some (vr 0), some (vi seed), some (vi n), some (vi zz), some (vi w2), some (vi (g : Int)), some (vi (p : Int)), none]) X rfl (Nat.le_of_ble_eq_true rfl) (by rfl) dX9_go_66 ?_
              have hL121 : ∀ (w3 : Int) (υ3 : am_H) (τ3 : am_H) (hs3 : (zz, w3, υ3) = c_pp p (z2, w2, υ2)) (hfr3 : c_fr υ3 τ3) (hcg3 : CGo υ3) (hnow3 : υ3 22 7 = υ2 22 7) (hpe3 : υ3 1 2 = υ2 1 2) (hw3 : w2 ≤ w3 ∧ w3 ≤ w2 + 1), am_G K 121 [some (vr 0), some (vi seed), some (vi n), some (vi zz), some (vi w3), some (vi (g : Int)), some (vi (p : Int)), none] [] SH τ3 := by
                intro w3 υ3 τ3 hs3 hfr3 hcg3 hnow3 hpe3 hw3
                refine am_inc (x := (p : Int)) (v := ((p : Int) + 1)) (L' := [some (vr 0), some (vi seed), some (vi n), some (vi zz), some (vi w3), some (vi (g : Int)), some (vi ((p : Int) + 1)), none]) X (by rfl) (by omega) (by omega) (by rfl) dX9_go_121 ?_
                refine am_goto (tgt := 46) X dX9_go_124 (by decide) ?_
                exact ih46 _ (by omega) (p + 1) zz w3 υ3 τ3 (by omega) (by rw [← hi1]; exact hs3) (hfr3) (hcg3) (by rw [hnow3]; exact hnow2) (by rw [hpe3]; exact hpe2) (by omega) rfl
              refine am_aload_n (x := 0) X (by rfl) dX9_go_67 ?_
              refine am_getr (c1 := 22) X 0 fl_X9_40 (by decide) sh_0 (by decide) (by rfl) dX9_go_68 ?_
              have hL102 : ∀ (il : Int) (hil : (il = 1 ∧ (¬ υ2 22 7 % 4 = 3 ∧ w32 ((am_ushr zz 8).tmod 12) < υ2 1 4)) ∨ (il = 0 ∧ ¬ (¬ υ2 22 7 % 4 = 3 ∧ w32 ((am_ushr zz 8).tmod 12) < υ2 1 4))), am_G K 102 [some (vr 0), some (vi seed), some (vi n), some (vi zz), some (vi w2), some (vi (g : Int)), some (vi (p : Int)), none] [vi il] SH τ2 := by
                intro il hil
                refine am_istore (i := 7) (L' := [some (vr 0), some (vi seed), some (vi n), some (vi zz), some (vi w2), some (vi (g : Int)), some (vi (p : Int)), some (vi il)]) X (Nat.le_of_ble_eq_true rfl) (by rfl) dX9_go_102 ?_
                
                refine am_iload (x := il) X (by rfl) dX9_go_104 ?_
                refine am_if_ne (tgt := 121) X dX9_go_106 (by decide) (fun h106 => ?_) (fun h106 => ?_)
                · skip
                  refine am_fg [true, true, true, true, true, true, true, false] rfl (L' := [some (vr 0), some (vi seed), some (vi n), some (vi zz), some (vi w2), some (vi (g : Int)), some (vi (p : Int)), none]) rfl ?_
                  exact hL121 w2 υ2 τ2 (by have hcond : ¬ c_g1 (z2, w2, υ2) p := (fun q => q.1 (by show go_ill (υ2 22 7) (υ2 1 4) (go_z z2); rw [← hzz]; rcases hil with ⟨-, i2⟩ | ⟨i1, -⟩; exact i2; exact absurd i1 (by omega))); unfold c_pp; rw [if_neg hcond, if_neg hcond, hzz]) (hfr2) (hcg2) (rfl) (rfl) (by omega)
                · skip
                  refine am_aload_n (x := 0) X (by rfl) dX9_go_109 ?_
                  refine am_iload (x := (p : Int)) X (by rfl) dX9_go_110 ?_
                  refine am_callVi (ci := 8) X hY lk_X9_200 mf_X9_worksToday (m_X9_worksToday τ2 (p : Int) p rfl (by rw [hfr2 1 2 (by decide) (by decide)]; omega) (CGo_fr hfr2 hcg2) (by rw [hfr2 22 7 (by decide) (by decide)]; omega)) (by decide) (by decide) (Nat.le_refl _) (Nat.le_refl _) sh_0 rfl rfl rfl (Nat.le_of_ble_eq_true rfl) dX9_go_112 (fun r112 sh112 σ112 hr112 hp112 => ?_)
                  obtain ⟨rfl, hq112⟩ := hp112
                  refine am_if_eq (tgt := 121) X dX9_go_115 (by decide) (fun h115 => ?_) (fun h115 => ?_)
                  · skip
                    refine am_fg [true, true, true, true, true, true, true, false] rfl (L' := [some (vr 0), some (vi seed), some (vi n), some (vi zz), some (vi w2), some (vi (g : Int)), some (vi (p : Int)), none]) rfl ?_
                    exact hL121 w2 υ2 σ112 (by have hcond : ¬ c_g1 (z2, w2, υ2) p := (fun q => absurd q.2 (by show ¬ 0 ≤ c_ch υ2 p; rw [← c_ch_fr hfr2 p]; rcases hq112 with ⟨-, i2, -⟩ | ⟨i1, -⟩; omega; omega)); unfold c_pp; rw [if_neg hcond, if_neg hcond, hzz]) (by rcases hq112 with ⟨-, -, i3⟩ | ⟨i1, -⟩; exact c_fr_tr hfr2 i3; exact absurd i1 (by omega)) (hcg2) (rfl) (rfl) (by omega)
                  · skip
                    have hcc : c_ch τ2 p = c_ch υ2 p := c_ch_fr hfr2 p
                    have hzz2 : go_z z2 = zz := hzz.symm
                    have hwk : 0 ≤ c_ch τ2 p ∧ c_fr (c_wk τ2 p (c_ch τ2 p)) σ112 := by
                      rcases hq112 with ⟨z0, -⟩ | ⟨-, z1, z2'⟩
                      · exact absurd z0 (by omega)
                      · exact ⟨z1, z2'⟩
                    have hcond : c_g1 (z2, w2, υ2) p := ⟨by show ¬ go_ill (υ2 22 7) (υ2 1 4) (go_z z2); rw [hzz2]; rcases hil with ⟨i1, i2⟩ | ⟨i1, i2⟩; exact absurd i1 (by omega); exact i2, by show 0 ≤ c_ch υ2 p; rw [← hcc]; exact hwk.1⟩
                    have hcb := c_ch_bd (p := (p : Int)) hcg2
                    have hw0 := hwk.1
                    rw [hcc] at hw0
                    refine am_inc (x := w2) (v := (w2 + 1)) (L' := [some (vr 0), some (vi seed), some (vi n), some (vi zz), some (vi (w2 + 1)), some (vi (g : Int)), some (vi (p : Int)), some (vi il)]) X (by rfl) (by omega) (by omega) (by rfl) dX9_go_118 ?_
                    refine am_fg [true, true, true, true, true, true, true, false] rfl (L' := [some (vr 0), some (vi seed), some (vi n), some (vi zz), some (vi (w2 + 1)), some (vi (g : Int)), some (vi (p : Int)), none]) rfl ?_
                    exact hL121 (w2 + 1) (c_wk υ2 p (c_ch υ2 p)) σ112 (by unfold c_pp; rw [if_pos hcond, if_pos hcond, hzz]) (c_fr_tr (c_wk_fr hfr2 p (c_ch υ2 p)) (by rw [← hcc]; exact hwk.2)) (CGo_wk hcg2 (by omega)) (c_wk_at (by decide)) (c_wk_at (by decide)) (by omega)
              refine am_get (v := υ2 22 7) X 22 fl_X9_175 (by decide) sh_22 (by decide) (hfr2 22 7 (by decide) (by decide)) dX9_go_71 ?_
              refine am_callSi X hY lk_X9_178 mf_X9_isHoly (m_X9_isHoly (υ2 22 7) (by omega) _ τ2) (by decide) (by decide) (Nat.le_refl _) (Nat.le_refl _) rfl rfl (Nat.le_of_ble_eq_true rfl) dX9_go_74 (fun r74 sh74 σ74 hr74 hp74 => ?_)
              obtain ⟨rfl, rfl, hq74⟩ := hp74
              refine am_if_ne (tgt := 101) X dX9_go_77 (by decide) (fun h77 => ?_) (fun h77 => ?_)
              · skip
                refine am_ic X (by decide) dX9_go_101 ?_
                exact hL102 0 (by omega)
              · skip
                refine am_iload_n (x := zz) X (by rfl) dX9_go_80 ?_
                refine am_bipush X (by decide) dX9_go_81 ?_
                refine am_iushr X dX9_go_83 ?_
                refine am_bipush X (by decide) dX9_go_84 ?_
                refine am_irem X (by omega) dX9_go_86 ?_
                refine am_aload_n (x := 0) X (by rfl) dX9_go_87 ?_
                refine am_getr (c1 := 1) X 0 fl_X9_10 (by decide) sh_0 (by decide) (by rfl) dX9_go_88 ?_
                refine am_get (v := υ2 1 4) X 1 fl_X9_197 (by decide) sh_1 (by decide) (hfr2 1 4 (by decide) (by decide)) dX9_go_91 ?_
                refine am_icmp_ge (tgt := 101) X dX9_go_94 (by decide) (fun h94 => ?_) (fun h94 => ?_)
                · skip
                  refine am_ic X (by decide) dX9_go_101 ?_
                  exact hL102 0 (by omega)
                · skip
                  refine am_ic X (by decide) dX9_go_97 ?_
                  refine am_goto (tgt := 102) X dX9_go_98 (by decide) ?_
                  exact hL102 1 (by omega)
          exact hL46 _ 0 z w υ τ (by omega) (rfl) (hfr) (hcg) (rfl) (rfl) (by omega) rfl
      exact hL37 _ 0 seed 0 σ σ (by omega) (rfl) (c_fr_rf σ) (hg) (by omega) (rfl) (by omega) rfl
    · skip
      refine am_bipush X (by decide) dX9_go_26 ?_
      exact hret _ _ _ _ _ dX9_go_28 rfl rfl (⟨rfl, Or.inr ⟨by omega, c_fr_rf σ, by rw [if_pos (by omega)]⟩⟩)
  · skip
    refine am_ic X (by decide) dX9_go_10 ?_
    exact hret _ _ _ _ _ dX9_go_11 rfl rfl (⟨rfl, Or.inr ⟨by omega, c_fr_rf σ, by rw [if_neg (by omega)]⟩⟩)
