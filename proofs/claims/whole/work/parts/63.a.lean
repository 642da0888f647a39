set_option maxHeartbeats 4000000 in
set_option maxRecDepth 100000 in
theorem m_X9_meritOf (σ : am_H) (a t : Int) (k : Nat) (ha : a = k) (hk : (k : Int) < σ 16 5) (ht : 0 ≤ t ∧ t ≤ 47) (hp : 0 ≤ σ 1 2 ∧ σ 1 2 ≤ 8) (hc : 0 ≤ σ 16 5 ∧ σ 16 5 ≤ 20) (hd : ∀ n : Nat, (n : Int) < σ 16 5 → 0 ≤ σ 19 n ∧ σ 19 n ≤ 9) (hlaw : CLaw σ) (hski : SkiV σ) (hdeb : DebV σ) : am_Mi yX9_meritOf cX9_meritOf 3 (some .int) 3 0 0 [vr 0, vi a, vi t] SH σ (fun r sh' σ' => SH = sh' ∧ c_fr σ σ' ∧ r = c_merit σ k t ∧ 0 ≤ r ∧ r ≤ 180) := by
  refine am_Mi_of (by decide +kernel) (Nat.le_of_ble_eq_true rfl) (fun K X hY hI hret => ?_)
  show am_G K 0 [some (vr 0), some (vi a), some (vi t)] [] SH σ
  have hdb := hdeb k hk
  refine am_aload_n (x := 0) X (by rfl) dX9_meritOf_0 ?_
  refine am_getr (c1 := 1) X 0 fl_X9_10 (by decide) sh_0 (by decide) (by rfl) dX9_meritOf_1 ?_
  refine am_get (v := σ 1 3) X 1 fl_X9_399 (by decide) sh_1 (by decide) (rfl) dX9_meritOf_4 ?_
  by_cases h7_0 : σ 1 3 = 1
  · skip
    refine am_lookup (off := 25) (tgt := 32) X dX9_meritOf_7 (by decide) (by rw [h7_0]; rfl) (by decide) ?_
    refine am_aload_n (x := 0) X (by rfl) dX9_meritOf_32 ?_
    refine am_getr (c1 := 16) X 0 fl_X9_33 (by decide) sh_0 (by decide) (by rfl) dX9_meritOf_33 ?_
    refine am_aload_n (x := 0) X (by rfl) dX9_meritOf_36 ?_
    refine am_getr (c1 := 16) X 0 fl_X9_33 (by decide) sh_0 (by decide) (by rfl) dX9_meritOf_37 ?_
    refine am_getr (c1 := 17) X 16 fl_X9_218 (by decide) sh_16 (by decide) (by rfl) dX9_meritOf_40 ?_
    refine am_iload_n (x := a) X (by rfl) dX9_meritOf_43 ?_
    refine am_ald (v := σ 17 k) X 17 k sh_17 (by omega) (by omega) (rfl) dX9_meritOf_44 ?_
    refine am_aload_n (x := 0) X (by rfl) dX9_meritOf_45 ?_
    refine am_getr (c1 := 16) X 0 fl_X9_33 (by decide) sh_0 (by decide) (by rfl) dX9_meritOf_46 ?_
    refine am_getr (c1 := 18) X 16 fl_X9_193 (by decide) sh_16 (by decide) (by rfl) dX9_meritOf_49 ?_
    refine am_iload_n (x := a) X (by rfl) dX9_meritOf_52 ?_
    refine am_ald (v := σ 18 k) X 18 k sh_18 (by omega) (by omega) (rfl) dX9_meritOf_53 ?_
    refine am_callVi (ci := 4) X hY lk_X9_149 mf_X4_owed (m_X4_owed (σ 17 k) (σ 18 k) σ hc hd) (by decide) (by decide) (Nat.le_refl _) (Nat.le_refl _) sh_16 rfl rfl rfl (Nat.le_of_ble_eq_true rfl) dX9_meritOf_54 (fun r54 sh54 σ54 hr54 hp54 => ?_)
    obtain ⟨rfl, rfl, hq54⟩ := hp54
    exact hret _ _ _ _ _ dX9_meritOf_57 rfl rfl (⟨rfl, c_fr_rf σ, by unfold c_merit c_owed; rw [if_pos (by omega)]; exact hq54.1, by omega, by omega⟩)
  by_cases h7_1 : σ 1 3 = 2
  · skip
    refine am_lookup (off := 51) (tgt := 58) X dX9_meritOf_7 (by decide) (by rw [h7_1]; rfl) (by decide) ?_
    refine am_aload_n (x := 0) X (by rfl) dX9_meritOf_58 ?_
    refine am_aload_n (x := 0) X (by rfl) dX9_meritOf_59 ?_
    refine am_getr (c1 := 16) X 0 fl_X9_33 (by decide) sh_0 (by decide) (by rfl) dX9_meritOf_60 ?_
    refine am_getr (c1 := 17) X 16 fl_X9_218 (by decide) sh_16 (by decide) (by rfl) dX9_meritOf_63 ?_
    refine am_iload_n (x := a) X (by rfl) dX9_meritOf_66 ?_
    refine am_ald (v := σ 17 k) X 17 k sh_17 (by omega) (by omega) (rfl) dX9_meritOf_67 ?_
    refine am_aload_n (x := 0) X (by rfl) dX9_meritOf_68 ?_
    refine am_getr (c1 := 16) X 0 fl_X9_33 (by decide) sh_0 (by decide) (by rfl) dX9_meritOf_69 ?_
    refine am_getr (c1 := 18) X 16 fl_X9_193 (by decide) sh_16 (by decide) (by rfl) dX9_meritOf_72 ?_
    refine am_iload_n (x := a) X (by rfl) dX9_meritOf_75 ?_
    refine am_ald (v := σ 18 k) X 18 k sh_18 (by omega) (by omega) (rfl) dX9_meritOf_76 ?_
    refine am_iload_n (x := t) X (by rfl) dX9_meritOf_77 ?_
    refine am_callVi (ci := 8) X hY lk_X9_171 mf_X9_worthOf (m_X9_worthOf (σ 17 k) (σ 18 k) t (t / 4).toNat (σ 17 k).toNat rfl (by omega) (by omega) σ hlaw (by have h1 := hski.1 (t / 4).toNat (by omega); have h2 := hski.2 (σ 17 k).toNat (by omega); omega)) (by decide) (by decide) (Nat.le_refl _) (Nat.le_refl _) sh_0 rfl rfl rfl (Nat.le_of_ble_eq_true rfl) dX9_meritOf_78 (fun r78 sh78 σ78 hr78 hp78 => ?_)
    obtain ⟨rfl, hf78, hq78⟩ := hp78
    exact hret _ _ _ _ _ dX9_meritOf_81 rfl rfl (⟨rfl, hf78, by unfold c_merit; rw [if_neg (by omega), if_pos (by omega)]; exact hq78, by have := wv_bd (c_lw σ) (σ 2 (t / 4).toNat) (σ 3 (σ 17 k).toNat) t (σ 17 k) (σ 18 k); unfold c_wv at hq78; omega⟩)
  refine am_lookup (off := 75) (tgt := 82) X dX9_meritOf_7 (by decide) (by simp [Op.lookupswitch.offset, h7_0, h7_1, Ne.symm h7_0, Ne.symm h7_1]) (by decide) ?_
  refine am_ic X (by decide) dX9_meritOf_82 ?_
  exact hret _ _ _ _ _ dX9_meritOf_83 rfl rfl (⟨rfl, c_fr_rf σ, by unfold c_merit; rw [if_neg (by omega), if_neg (by omega)], by omega, by omega⟩)

set_option maxHeartbeats 4000000 in
set_option maxRecDepth 100000 in
theorem m_X9_debtToWork (σ : am_H) (p t : Int) (ht : 0 ≤ t ∧ t ≤ 47) (hp : 0 ≤ σ 1 2 ∧ σ 1 2 ≤ 8) (hc : 0 ≤ σ 16 5 ∧ σ 16 5 ≤ 20) (hd : ∀ n : Nat, (n : Int) < σ 16 5 → 0 ≤ σ 19 n ∧ σ 19 n ≤ 9) (hlaw : CLaw σ) (hski : SkiV σ) (hdeb : DebV σ) (ha : 0 ≤ σ 22 6 ∧ σ 22 6 ≤ 30) (hask : AskV σ) : am_Mi yX9_debtToWork cX9_debtToWork 8 (some .int) 4 0 0 [vr 0, vi p, vi t] SH σ (fun r sh' σ' => SH = sh' ∧ c_fr σ σ' ∧ r = c_of1 σ (c_sel σ p t (σ 22 6).toNat).1) := by
  refine am_Mi_of (by decide +kernel) (Nat.le_of_ble_eq_true rfl) (fun K X hY hI hret => ?_)
  show am_G K 0 [some (vr 0), some (vi p), some (vi t), none, none, none, none, none] [] SH σ
  refine am_bipush X (by decide) dX9_debtToWork_0 ?_
  refine am_istore_n (i := 3) (L' := [some (vr 0), some (vi p), some (vi t), some (vi (-2)), none, none, none, none]) X rfl (Nat.le_of_ble_eq_true rfl) (by rfl) dX9_debtToWork_2 ?_
  refine am_ic X (by decide) dX9_debtToWork_3 ?_
  refine am_istore (i := 4) (L' := [some (vr 0), some (vi p), some (vi t), some (vi (-2)), some (vi 0), none, none, none]) X (Nat.le_of_ble_eq_true rfl) (by rfl) dX9_debtToWork_4 ?_
  refine am_ic X (by decide) dX9_debtToWork_6 ?_
  refine am_istore (i := 5) (L' := [some (vr 0), some (vi p), some (vi t), some (vi (-2)), some (vi 0), some (vi 0), none, none]) X (Nat.le_of_ble_eq_true rfl) (by rfl) dX9_debtToWork_7 ?_
  have hL9 : ∀ (m9 : Nat) (k : Nat) (τ : am_H) (ch : Int) (mo : Int) (hk : (k : Int) ≤ σ 22 6) (hfr : c_fr σ τ) (hch : ch = c_of1 σ (c_sel σ p t k).1) (hmo : mo = (c_sel σ p t k).2) (hm9 : (σ 22 6).toNat - k = m9), am_G K 9 [some (vr 0), some (vi p), some (vi t), some (vi ch), some (vi mo), some (vi (k : Int)), none, none] [] SH τ := by
    intro m9
    induction m9 using Nat.strongRecOn with
    | ind m9 ih9 =>
    intro k τ ch mo hk hfr hch hmo hm9
    have hbd := as_sel_bd (c_P σ p t) (c_V σ t) k
    have hPk : c_P σ p t k = true ↔ (σ 24 k = t ∧ σ 25 k = 0 ∧ (σ 23 k < σ 16 5 ∧ 0 < σ 19 (σ 23 k).toNat) ∧ σ 17 (σ 23 k).toNat = p) := by unfold c_P; exact decide_eq_true_iff
    have hVk : c_V σ t k = c_merit σ (σ 23 k).toNat t := rfl
    have hch2 : (as_sel (c_P σ p t) (c_V σ t) k).1 < 0 ∧ ch = -2 ∨ 0 ≤ (as_sel (c_P σ p t) (c_V σ t) k).1 ∧ 0 ≤ ch := by
      have hch3 : ch = c_of1 σ (as_sel (c_P σ p t) (c_V σ t) k).1 := hch
      unfold c_of1 at hch3
      by_cases h0 : (as_sel (c_P σ p t) (c_V σ t) k).1 < 0
      · rw [if_pos h0] at hch3; omega
      · rw [if_neg h0] at hch3
        have := hask (as_sel (c_P σ p t) (c_V σ t) k).1.toNat (by omega)
        omega
    have hmo2 : mo = (as_sel (c_P σ p t) (c_V σ t) k).2 := hmo
    refine am_iload (x := (k : Int)) X (by rfl) dX9_debtToWork_9 ?_
    refine am_aload_n (x := 0) X (by rfl) dX9_debtToWork_11 ?_
    refine am_getr (c1 := 22) X 0 fl_X9_40 (by decide) sh_0 (by decide) (by rfl) dX9_debtToWork_12 ?_
    refine am_get (v := σ 22 6) X 22 fl_X9_184 (by decide) sh_22 (by decide) (hfr 22 6 (by decide) (by decide)) dX9_debtToWork_15 ?_
    refine am_icmp_ge (tgt := 119) X dX9_debtToWork_18 (by decide) (fun h18 => ?_) (fun h18 => ?_)
    · skip
      refine am_iload_n (x := ch) X (by rfl) dX9_debtToWork_119 ?_
      exact hret _ _ _ _ _ dX9_debtToWork_120 rfl rfl (⟨rfl, hfr, by rw [show (σ 22 6).toNat = k by omega]; exact hch⟩)
    · skip
      have hL113 : ∀ (τ2 : am_H) (ch2 : Int) (mo2 : Int) (hfr2 : c_fr σ τ2) (hch2 : ch2 = c_of1 σ (c_sel σ p t (k + 1)).1) (hmo2 : mo2 = (c_sel σ p t (k + 1)).2), am_G K 113 [some (vr 0), some (vi p), some (vi t), some (vi ch2), some (vi mo2), some (vi (k : Int)), none, none] [] SH τ2 := by
        intro τ2 ch2 mo2 hfr2 hch2 hmo2
        refine am_inc (x := (k : Int)) (v := ((k : Int) + 1)) (L' := [some (vr 0), some (vi p), some (vi t), some (vi ch2), some (vi mo2), some (vi ((k : Int) + 1)), none, none]) X (by rfl) (by omega) (by omega) (by rfl) dX9_debtToWork_113 ?_
        refine am_goto (tgt := 9) X dX9_debtToWork_116 (by decide) ?_
        exact ih9 _ (by omega) (k + 1) τ2 ch2 mo2 (by omega) (hfr2) (hch2) (hmo2) rfl
      refine am_aload_n (x := 0) X (by rfl) dX9_debtToWork_21 ?_
      refine am_getr (c1 := 22) X 0 fl_X9_40 (by decide) sh_0 (by decide) (by rfl) dX9_debtToWork_22 ?_
      refine am_getr (c1 := 23) X 22 fl_X9_373 (by decide) sh_22 (by decide) (by rfl) dX9_debtToWork_25 ?_
      refine am_iload (x := (k : Int)) X (by rfl) dX9_debtToWork_28 ?_
      refine am_ald (v := σ 23 k) X 23 k sh_23 (by omega) (by omega) (hfr 23 k (by decide) (by decide)) dX9_debtToWork_30 ?_
      have hak := hask k (by omega)
      refine am_istore (i := 6) (L' := [some (vr 0), some (vi p), some (vi t), some (vi ch), some (vi mo), some (vi (k : Int)), some (vi (σ 23 k)), none]) X (Nat.le_of_ble_eq_true rfl) (by rfl) dX9_debtToWork_31 ?_
      refine am_aload_n (x := 0) X (by rfl) dX9_debtToWork_33 ?_
      refine am_getr (c1 := 22) X 0 fl_X9_40 (by decide) sh_0 (by decide) (by rfl) dX9_debtToWork_34 ?_
      refine am_getr (c1 := 24) X 22 fl_X9_376 (by decide) sh_22 (by decide) (by rfl) dX9_debtToWork_37 ?_
      refine am_iload (x := (k : Int)) X (by rfl) dX9_debtToWork_40 ?_
      refine am_ald (v := σ 24 k) X 24 k sh_24 (by omega) (by omega) (hfr 24 k (by decide) (by decide)) dX9_debtToWork_42 ?_
      refine am_iload_n (x := t) X (by rfl) dX9_debtToWork_43 ?_
      refine am_icmp_ne (tgt := 113) X dX9_debtToWork_44 (by decide) (fun h44 => ?_) (fun h44 => ?_)
      · skip
        refine am_fg [true, true, true, true, true, true, false, false] rfl (L' := [some (vr 0), some (vi p), some (vi t), some (vi ch), some (vi mo), some (vi (k : Int)), none, none]) rfl ?_
        exact hL113 τ ch mo (hfr) (by show _ = c_of1 σ (as_sel (c_P σ p t) (c_V σ t) (k + 1)).1; rw [as_sel_s, if_neg (by rw [hPk]; omega)]; exact hch) (by show _ = (as_sel (c_P σ p t) (c_V σ t) (k + 1)).2; rw [as_sel_s, if_neg (by rw [hPk]; omega)]; exact hmo)
      · skip
        refine am_aload_n (x := 0) X (by rfl) dX9_debtToWork_47 ?_
        refine am_getr (c1 := 22) X 0 fl_X9_40 (by decide) sh_0 (by decide) (by rfl) dX9_debtToWork_48 ?_
        refine am_getr (c1 := 25) X 22 fl_X9_379 (by decide) sh_22 (by decide) (by rfl) dX9_debtToWork_51 ?_
        refine am_iload (x := (k : Int)) X (by rfl) dX9_debtToWork_54 ?_
        refine am_zalj (v := σ 25 k) X 25 k sh_25 (by omega) (by omega) (hfr 25 k (by decide) (by decide)) dX9_debtToWork_56 ?_
        refine am_if_ne (tgt := 113) X dX9_debtToWork_57 (by decide) (fun h57 => ?_) (fun h57 => ?_)
        · skip
          refine am_fg [true, true, true, true, true, true, false, false] rfl (L' := [some (vr 0), some (vi p), some (vi t), some (vi ch), some (vi mo), some (vi (k : Int)), none, none]) rfl ?_
          exact hL113 τ ch mo (hfr) (by show _ = c_of1 σ (as_sel (c_P σ p t) (c_V σ t) (k + 1)).1; rw [as_sel_s, if_neg (by rw [hPk]; omega)]; exact hch) (by show _ = (as_sel (c_P σ p t) (c_V σ t) (k + 1)).2; rw [as_sel_s, if_neg (by rw [hPk]; omega)]; exact hmo)
        · skip
          refine am_aload_n (x := 0) X (by rfl) dX9_debtToWork_60 ?_
          refine am_getr (c1 := 16) X 0 fl_X9_33 (by decide) sh_0 (by decide) (by rfl) dX9_debtToWork_61 ?_
          refine am_iload (x := σ 23 k) X (by rfl) dX9_debtToWork_64 ?_
          refine am_callVi (ci := 4) X hY lk_X9_181 mf_X4_isOpen (m_X4_isOpen (σ 23 k) (σ 23 k).toNat (by omega) τ (by rw [hfr 16 5 (by decide) (by decide)]; exact hc)) (by decide) (by decide) (Nat.le_refl _) (Nat.le_refl _) sh_16 rfl rfl rfl (Nat.le_of_ble_eq_true rfl) dX9_debtToWork_66 (fun r66 sh66 σ66 hr66 hp66 => ?_)
          obtain ⟨rfl, rfl, hq66⟩ := hp66
          rw [hfr 16 5 (by decide) (by decide), hfr 19 _ (by decide) (by decide)] at hq66
          refine am_if_eq (tgt := 113) X dX9_debtToWork_69 (by decide) (fun h69 => ?_) (fun h69 => ?_)
          · skip
            refine am_fg [true, true, true, true, true, true, false, false] rfl (L' := [some (vr 0), some (vi p), some (vi t), some (vi ch), some (vi mo), some (vi (k : Int)), none, none]) rfl ?_
            exact hL113 τ ch mo (hfr) (by show _ = c_of1 σ (as_sel (c_P σ p t) (c_V σ t) (k + 1)).1; rw [as_sel_s, if_neg (by rw [hPk]; omega)]; exact hch) (by show _ = (as_sel (c_P σ p t) (c_V σ t) (k + 1)).2; rw [as_sel_s, if_neg (by rw [hPk]; omega)]; exact hmo)
          · skip
            refine am_aload_n (x := 0) X (by rfl) dX9_debtToWork_72 ?_
            refine am_getr (c1 := 16) X 0 fl_X9_33 (by decide) sh_0 (by decide) (by rfl) dX9_debtToWork_73 ?_
            refine am_getr (c1 := 17) X 16 fl_X9_218 (by decide) sh_16 (by decide) (by rfl) dX9_debtToWork_76 ?_
            refine am_iload (x := σ 23 k) X (by rfl) dX9_debtToWork_79 ?_
            refine am_ald (v := σ 17 ((σ 23 k).toNat)) X 17 ((σ 23 k).toNat) sh_17 (by omega) (by omega) (hfr 17 ((σ 23 k).toNat) (by decide) (by decide)) dX9_debtToWork_81 ?_
            refine am_iload_n (x := p) X (by rfl) dX9_debtToWork_82 ?_
            refine am_icmp_ne (tgt := 113) X dX9_debtToWork_83 (by decide) (fun h83 => ?_) (fun h83 => ?_)
            · skip
              refine am_fg [true, true, true, true, true, true, false, false] rfl (L' := [some (vr 0), some (vi p), some (vi t), some (vi ch), some (vi mo), some (vi (k : Int)), none, none]) rfl ?_
              exact hL113 τ ch mo (hfr) (by show _ = c_of1 σ (as_sel (c_P σ p t) (c_V σ t) (k + 1)).1; rw [as_sel_s, if_neg (by rw [hPk]; omega)]; exact hch) (by show _ = (as_sel (c_P σ p t) (c_V σ t) (k + 1)).2; rw [as_sel_s, if_neg (by rw [hPk]; omega)]; exact hmo)
            · skip
              refine am_aload_n (x := 0) X (by rfl) dX9_debtToWork_86 ?_
              refine am_iload (x := σ 23 k) X (by rfl) dX9_debtToWork_87 ?_
              refine am_iload_n (x := t) X (by rfl) dX9_debtToWork_89 ?_
              refine am_callVi (ci := 8) X hY lk_X9_396 mf_X9_meritOf (m_X9_meritOf τ (σ 23 k) t (σ 23 k).toNat (by omega) (by rw [hfr 16 5 (by decide) (by decide)]; omega) ht (by rw [hfr 1 2 (by decide) (by decide)]; exact hp) (by rw [hfr 16 5 (by decide) (by decide)]; exact hc) (c_day_fr hfr hd) ((c_lw_fr hfr).2 hlaw) (c_ski_fr hfr hski) (c_deb_fr hfr hdeb)) (by decide) (by decide) (Nat.le_refl _) (Nat.le_refl _) sh_0 rfl rfl rfl (Nat.le_of_ble_eq_true rfl) dX9_debtToWork_90 (fun r90 sh90 σ90 hr90 hp90 => ?_)
              obtain ⟨rfl, hf90, hq90, hz90⟩ := hp90
              have hg90 := c_fr_tr hfr hf90
              rw [c_merit_fr hfr] at hq90
              refine am_istore (i := 7) (L' := [some (vr 0), some (vi p), some (vi t), some (vi ch), some (vi mo), some (vi (k : Int)), some (vi (σ 23 k)), some (vi r90)]) X (Nat.le_of_ble_eq_true rfl) (by rfl) dX9_debtToWork_93 ?_
              refine am_iload_n (x := ch) X (by rfl) dX9_debtToWork_95 ?_
              refine am_if_lt (tgt := 106) X dX9_debtToWork_96 (by decide) (fun h96 => ?_) (fun h96 => ?_)
              · skip
                refine am_iload (x := σ 23 k) X (by rfl) dX9_debtToWork_106 ?_
                refine am_istore_n (i := 3) (L' := [some (vr 0), some (vi p), some (vi t), some (vi (σ 23 k)), some (vi mo), some (vi (k : Int)), some (vi (σ 23 k)), some (vi r90)]) X rfl (Nat.le_of_ble_eq_true rfl) (by rfl) dX9_debtToWork_108 ?_
                refine am_iload (x := r90) X (by rfl) dX9_debtToWork_109 ?_
                refine am_istore (i := 4) (L' := [some (vr 0), some (vi p), some (vi t), some (vi (σ 23 k)), some (vi r90), some (vi (k : Int)), some (vi (σ 23 k)), some (vi r90)]) X (Nat.le_of_ble_eq_true rfl) (by rfl) dX9_debtToWork_111 ?_
                refine am_fg [true, true, true, true, true, true, false, false] rfl (L' := [some (vr 0), some (vi p), some (vi t), some (vi (σ 23 k)), some (vi r90), some (vi (k : Int)), none, none]) rfl ?_
                exact hL113 σ90 (σ 23 k) r90 (hg90) (by show _ = c_of1 σ (as_sel (c_P σ p t) (c_V σ t) (k + 1)).1; rw [as_sel_s, if_pos (hPk.mpr (by omega)), if_pos (by omega)]; show σ 23 k = c_of1 σ (k : Int); unfold c_of1; rw [if_neg (by omega), show ((k : Int)).toNat = k by omega]) (by show _ = (as_sel (c_P σ p t) (c_V σ t) (k + 1)).2; rw [as_sel_s, if_pos (hPk.mpr (by omega)), if_pos (by omega)]; exact hq90)
              · skip
                refine am_iload (x := r90) X (by rfl) dX9_debtToWork_99 ?_
                refine am_iload (x := mo) X (by rfl) dX9_debtToWork_101 ?_
                refine am_icmp_le (tgt := 113) X dX9_debtToWork_103 (by decide) (fun h103 => ?_) (fun h103 => ?_)
                · skip
                  refine am_fg [true, true, true, true, true, true, false, false] rfl (L' := [some (vr 0), some (vi p), some (vi t), some (vi ch), some (vi mo), some (vi (k : Int)), none, none]) rfl ?_
                  exact hL113 σ90 ch mo (hg90) (by show _ = c_of1 σ (as_sel (c_P σ p t) (c_V σ t) (k + 1)).1; rw [as_sel_s, if_pos (hPk.mpr (by omega)), if_neg (by omega)]; exact hch) (by show _ = (as_sel (c_P σ p t) (c_V σ t) (k + 1)).2; rw [as_sel_s, if_pos (hPk.mpr (by omega)), if_neg (by omega)]; exact hmo)
                · skip
                  refine am_iload (x := σ 23 k) X (by rfl) dX9_debtToWork_106 ?_
                  refine am_istore_n (i := 3) (L' := [some (vr 0), some (vi p), some (vi t), some (vi (σ 23 k)), some (vi mo), some (vi (k : Int)), some (vi (σ 23 k)), some (vi r90)]) X rfl (Nat.le_of_ble_eq_true rfl) (by rfl) dX9_debtToWork_108 ?_
                  refine am_iload (x := r90) X (by rfl) dX9_debtToWork_109 ?_
                  refine am_istore (i := 4) (L' := [some (vr 0), some (vi p), some (vi t), some (vi (σ 23 k)), some (vi r90), some (vi (k : Int)), some (vi (σ 23 k)), some (vi r90)]) X (Nat.le_of_ble_eq_true rfl) (by rfl) dX9_debtToWork_111 ?_
                  refine am_fg [true, true, true, true, true, true, false, false] rfl (L' := [some (vr 0), some (vi p), some (vi t), some (vi (σ 23 k)), some (vi r90), some (vi (k : Int)), none, none]) rfl ?_
                  exact hL113 σ90 (σ 23 k) r90 (hg90) (by show _ = c_of1 σ (as_sel (c_P σ p t) (c_V σ t) (k + 1)).1; rw [as_sel_s, if_pos (hPk.mpr (by omega)), if_pos (by omega)]; show σ 23 k = c_of1 σ (k : Int); unfold c_of1; rw [if_neg (by omega), show ((k : Int)).toNat = k by omega]) (by show _ = (as_sel (c_P σ p t) (c_V σ t) (k + 1)).2; rw [as_sel_s, if_pos (hPk.mpr (by omega)), if_pos (by omega)]; exact hq90)
  exact hL9 _ 0 σ (-2) 0 (by omega) (c_fr_rf σ) (rfl) (rfl) rfl

set_option maxHeartbeats 4000000 in
set_option maxRecDepth 100000 in
theorem m_X9_has (σ : am_H) (a b : Int) (hp : 0 ≤ σ 1 2 ∧ σ 1 2 ≤ 8) (hc : 0 ≤ σ 16 5 ∧ σ 16 5 ≤ 20) (hd : ∀ n : Nat, (n : Int) < σ 16 5 → 0 ≤ σ 19 n ∧ σ 19 n ≤ 9) (hlaw : CLaw σ) (hski : SkiV σ) (hdeb : DebV σ) (ha : 0 ≤ σ 22 6 ∧ σ 22 6 ≤ 30) (hask : AskV σ) (hn : 0 ≤ σ 22 7 ∧ σ 22 7 ≤ 48) : am_Mi yX9_has cX9_has 4 (some .int) 5 0 0 [vr 0, vi a, vi b] SH σ (fun r sh' σ' => SH = sh' ∧ c_fr σ σ' ∧ r = (if (0 ≤ a ∧ a < σ 1 2) ∧ σ 22 7 ≤ b ∧ b ≤ 47 then (if (c_sel σ a b (σ 22 6).toNat).1 < 0 then -2 else σ 18 (σ 23 (c_sel σ a b (σ 22 6).toNat).1.toNat).toNat) else -1)) := by
  refine am_Mi_of (by decide +kernel) (Nat.le_of_ble_eq_true rfl) (fun K X hY hI hret => ?_)
  show am_G K 0 [some (vr 0), some (vi a), some (vi b), none] [] SH σ
  refine am_aload_n (x := 0) X (by rfl) dX9_has_0 ?_
  refine am_getr (c1 := 1) X 0 fl_X9_10 (by decide) sh_0 (by decide) (by rfl) dX9_has_1 ?_
  refine am_iload_n (x := a) X (by rfl) dX9_has_4 ?_
  refine am_callVi (ci := 5) X hY lk_X9_143 mf_X6_isPerson (m_X6_isPerson a σ hp) (by decide) (by decide) (Nat.le_refl _) (Nat.le_refl _) sh_1 rfl rfl rfl (Nat.le_of_ble_eq_true rfl) dX9_has_5 (fun r5 sh5 σ5 hr5 hp5 => ?_)
  obtain ⟨rfl, rfl, hq5⟩ := hp5
  refine am_if_eq (tgt := 27) X dX9_has_8 (by decide) (fun h8 => ?_) (fun h8 => ?_)
  · skip
    refine am_ic X (by decide) dX9_has_27 ?_
    exact hret _ _ _ _ _ dX9_has_28 rfl rfl (⟨rfl, c_fr_rf σ, by rw [if_neg (by omega)]⟩)
  · skip
    refine am_iload_n (x := b) X (by rfl) dX9_has_11 ?_
    refine am_aload_n (x := 0) X (by rfl) dX9_has_12 ?_
    refine am_getr (c1 := 22) X 0 fl_X9_40 (by decide) sh_0 (by decide) (by rfl) dX9_has_13 ?_
    refine am_get (v := σ 22 7) X 22 fl_X9_175 (by decide) sh_22 (by decide) (rfl) dX9_has_16 ?_
    refine am_bipush X (by decide) dX9_has_19 ?_
    refine am_callSi X hY lk_X9_75 mf_X9_within (m_X9_within b (σ 22 7) 47 _ σ) (by decide) (by decide) (Nat.le_refl _) (Nat.le_refl _) rfl rfl (Nat.le_of_ble_eq_true rfl) dX9_has_21 (fun r21 sh21 σ21 hr21 hp21 => ?_)
    obtain ⟨rfl, rfl, hq21⟩ := hp21
    refine am_if_ne (tgt := 29) X dX9_has_24 (by decide) (fun h24 => ?_) (fun h24 => ?_)
    · skip
      refine am_aload_n (x := 0) X (by rfl) dX9_has_29 ?_
      refine am_iload_n (x := a) X (by rfl) dX9_has_30 ?_
      refine am_iload_n (x := b) X (by rfl) dX9_has_31 ?_
      refine am_callVi (ci := 8) X hY lk_X9_190 mf_X9_debtToWork (m_X9_debtToWork σ a b (by omega) hp hc hd hlaw hski hdeb ha hask) (by decide) (by decide) (Nat.le_refl _) (Nat.le_refl _) sh_0 rfl rfl rfl (Nat.le_of_ble_eq_true rfl) dX9_has_32 (fun r32 sh32 σ32 hr32 hp32 => ?_)
      obtain ⟨rfl, hf32, hq32⟩ := hp32
      refine am_istore_n (i := 3) (L' := [some (vr 0), some (vi a), some (vi b), some (vi r32)]) X rfl (Nat.le_of_ble_eq_true rfl) (by rfl) dX9_has_35 ?_
      have hbd := as_sel_bd (c_P σ a b) (c_V σ b) (σ 22 6).toNat
      have hch : ((c_sel σ a b (σ 22 6).toNat).1 < 0 ↔ r32 < 0) ∧ r32 < 20 ∧ (0 ≤ r32 → σ 23 (c_sel σ a b (σ 22 6).toNat).1.toNat = r32) := by
        unfold c_of1 at hq32
        by_cases h0 : (c_sel σ a b (σ 22 6).toNat).1 < 0
        · rw [if_pos h0] at hq32
          exact ⟨by omega, by omega, fun h => by omega⟩
        · rw [if_neg h0] at hq32
          have hb2 : (c_sel σ a b (σ 22 6).toNat).1 < ((σ 22 6).toNat : Int) := hbd.2.1
          have := hask (c_sel σ a b (σ 22 6).toNat).1.toNat (by omega)
          exact ⟨by omega, by omega, fun _ => hq32.symm⟩
      refine am_iload_n (x := r32) X (by rfl) dX9_has_36 ?_
      refine am_if_ge (tgt := 45) X dX9_has_37 (by decide) (fun h37 => ?_) (fun h37 => ?_)
      · skip
        have hch3 := hch.2.2 (by omega)
        refine am_aload_n (x := 0) X (by rfl) dX9_has_45 ?_
        refine am_getr (c1 := 16) X 0 fl_X9_33 (by decide) sh_0 (by decide) (by rfl) dX9_has_46 ?_
        refine am_getr (c1 := 18) X 16 fl_X9_193 (by decide) sh_16 (by decide) (by rfl) dX9_has_49 ?_
        refine am_iload_n (x := r32) X (by rfl) dX9_has_52 ?_
        refine am_ald (v := σ 18 ((r32).toNat)) X 18 ((r32).toNat) sh_18 (by omega) (by omega) (hf32 18 ((r32).toNat) (by decide) (by decide)) dX9_has_53 ?_
        exact hret _ _ _ _ _ dX9_has_54 rfl rfl (⟨rfl, hf32, by rw [if_pos (by omega), if_neg (by omega), hch3]⟩)
      · skip
        refine am_bipush X (by decide) dX9_has_40 ?_
        refine am_goto (tgt := 54) X dX9_has_42 (by decide) ?_
        exact hret _ _ _ _ _ dX9_has_54 rfl rfl (⟨rfl, hf32, by rw [if_pos (by omega), if_pos (by omega)]⟩)
    · skip
      refine am_ic X (by decide) dX9_has_27 ?_
      exact hret _ _ _ _ _ dX9_has_28 rfl rfl (⟨rfl, c_fr_rf σ, by rw [if_neg (by omega)]⟩)

set_option maxHeartbeats 4000000 in
set_option maxRecDepth 100000 in
theorem m_X9_bestDay (σ : am_H) (a b : Int) (k : Nat) (hka : a.toNat = k) (hp : 0 ≤ σ 1 2 ∧ σ 1 2 ≤ 8) (hc : 0 ≤ σ 16 5 ∧ σ 16 5 ≤ 20) (hd : ∀ n : Nat, (n : Int) < σ 16 5 → 0 ≤ σ 19 n ∧ σ 19 n ≤ 9) (hlaw : CLaw σ) (hski : SkiV σ) (hdeb : DebV σ) (hn : 0 ≤ σ 22 7 ∧ σ 22 7 ≤ 48) : am_Mi yX9_bestDay cX9_bestDay 7 (some .int) 3 0 0 [vr 0, vi a, vi b] SH σ (fun r sh' σ' => SH = sh' ∧ c_fr σ σ' ∧ r = (if (0 ≤ a ∧ a < σ 16 5) ∧ 0 ≤ b ∧ b ≤ 1 then (if 0 < σ 19 k then (if b = 0 then (bs_f (fun d => c_wv σ (σ 17 k) (σ 18 k) d) (σ 22 7 + 3) (45 - σ 22 7).toNat).1 else (bs_f (fun d => c_wv σ (σ 17 k) (σ 18 k) d) (σ 22 7 + 3) (45 - σ 22 7).toNat).2) else -5) else -1)) := by
  refine am_Mi_of (by decide +kernel) (Nat.le_of_ble_eq_true rfl) (fun K X hY hI hret => ?_)
  show am_G K 0 [some (vr 0), some (vi a), some (vi b), none, none, none, none] [] SH σ
  refine am_aload_n (x := 0) X (by rfl) dX9_bestDay_0 ?_
  refine am_getr (c1 := 16) X 0 fl_X9_33 (by decide) sh_0 (by decide) (by rfl) dX9_bestDay_1 ?_
  refine am_iload_n (x := a) X (by rfl) dX9_bestDay_4 ?_
  refine am_callVi (ci := 4) X hY lk_X9_136 mf_X4_isDebt (m_X4_isDebt a σ hc) (by decide) (by decide) (Nat.le_refl _) (Nat.le_refl _) sh_16 rfl rfl rfl (Nat.le_of_ble_eq_true rfl) dX9_bestDay_5 (fun r5 sh5 σ5 hr5 hp5 => ?_)
  obtain ⟨rfl, rfl, hq5⟩ := hp5
  refine am_if_eq (tgt := 20) X dX9_bestDay_8 (by decide) (fun h8 => ?_) (fun h8 => ?_)
  · skip
    refine am_ic X (by decide) dX9_bestDay_20 ?_
    exact hret _ _ _ _ _ dX9_bestDay_21 rfl rfl (⟨rfl, c_fr_rf σ, by rw [if_neg (by omega)]⟩)
  · skip
    refine am_iload_n (x := b) X (by rfl) dX9_bestDay_11 ?_
    refine am_ic X (by decide) dX9_bestDay_12 ?_
    refine am_ic X (by decide) dX9_bestDay_13 ?_
    refine am_callSi X hY lk_X9_75 mf_X9_within (m_X9_within b 0 1 _ σ) (by decide) (by decide) (Nat.le_refl _) (Nat.le_refl _) rfl rfl (Nat.le_of_ble_eq_true rfl) dX9_bestDay_14 (fun r14 sh14 σ14 hr14 hp14 => ?_)
    obtain ⟨rfl, rfl, hq14⟩ := hp14
    refine am_if_ne (tgt := 22) X dX9_bestDay_17 (by decide) (fun h17 => ?_) (fun h17 => ?_)
    · skip
      refine am_aload_n (x := 0) X (by rfl) dX9_bestDay_22 ?_
      refine am_getr (c1 := 16) X 0 fl_X9_33 (by decide) sh_0 (by decide) (by rfl) dX9_bestDay_23 ?_
      refine am_iload_n (x := a) X (by rfl) dX9_bestDay_26 ?_
      refine am_callVi (ci := 4) X hY lk_X9_181 mf_X4_isOpen (m_X4_isOpen a k (by omega) σ hc) (by decide) (by decide) (Nat.le_refl _) (Nat.le_refl _) sh_16 rfl rfl rfl (Nat.le_of_ble_eq_true rfl) dX9_bestDay_27 (fun r27 sh27 σ27 hr27 hp27 => ?_)
      obtain ⟨rfl, rfl, hq27⟩ := hp27
      refine am_if_ne (tgt := 36) X dX9_bestDay_30 (by decide) (fun h30 => ?_) (fun h30 => ?_)
      · skip
        have hdb := hdeb k (by omega)
        refine am_bipush X (by decide) dX9_bestDay_36 ?_
        refine am_istore_n (i := 3) (L' := [some (vr 0), some (vi a), some (vi b), some (vi (-2)), none, none, none]) X rfl (Nat.le_of_ble_eq_true rfl) (by rfl) dX9_bestDay_38 ?_
        refine am_bipush X (by decide) dX9_bestDay_39 ?_
        refine am_istore (i := 4) (L' := [some (vr 0), some (vi a), some (vi b), some (vi (-2)), some (vi (-2)), none, none]) X (Nat.le_of_ble_eq_true rfl) (by rfl) dX9_bestDay_41 ?_
        refine am_aload_n (x := 0) X (by rfl) dX9_bestDay_43 ?_
        refine am_getr (c1 := 22) X 0 fl_X9_40 (by decide) sh_0 (by decide) (by rfl) dX9_bestDay_44 ?_
        refine am_get (v := σ 22 7) X 22 fl_X9_175 (by decide) sh_22 (by decide) (rfl) dX9_bestDay_47 ?_
        refine am_ic X (by decide) dX9_bestDay_50 ?_
        refine am_add (v := (σ 22 7 + 3)) X (by first | rfl | omega) (by omega) dX9_bestDay_51 ?_
        refine am_istore (i := 5) (L' := [some (vr 0), some (vi a), some (vi b), some (vi (-2)), some (vi (-2)), some (vi (σ 22 7 + 3)), none]) X (Nat.le_of_ble_eq_true rfl) (by rfl) dX9_bestDay_52 ?_
        have hL54 : ∀ (m54 : Nat) (m : Nat) (τ : am_H) (be : Int) (mo : Int) (dv : Int) (hm : m ≤ (45 - σ 22 7).toNat) (hdv : σ 22 7 + 3 + (m : Int) = dv) (hfr : c_fr σ τ) (hbs : (be, mo) = bs_f (fun d => c_wv σ (σ 17 k) (σ 18 k) d) (σ 22 7 + 3) m) (hm54 : (45 - σ 22 7).toNat - m = m54), am_G K 54 [some (vr 0), some (vi a), some (vi b), some (vi be), some (vi mo), some (vi dv), none] [] SH τ := by
          intro m54
          induction m54 using Nat.strongRecOn with
          | ind m54 ih54 =>
          intro m τ be mo dv hm hdv hfr hbs hm54
          refine am_iload (x := dv) X (by rfl) dX9_bestDay_54 ?_
          refine am_bipush X (by decide) dX9_bestDay_56 ?_
          refine am_icmp_ge (tgt := 115) X dX9_bestDay_58 (by decide) (fun h58 => ?_) (fun h58 => ?_)
          · skip
            refine am_iload_n (x := b) X (by rfl) dX9_bestDay_115 ?_
            refine am_if_ne (tgt := 123) X dX9_bestDay_116 (by decide) (fun h116 => ?_) (fun h116 => ?_)
            · skip
              refine am_iload (x := mo) X (by rfl) dX9_bestDay_123 ?_
              exact hret _ _ _ _ _ dX9_bestDay_125 rfl rfl (⟨rfl, hfr, by rw [if_pos (by omega), if_pos (by omega), if_neg (by omega), show (45 - σ 22 7).toNat = m by omega, ← hbs]⟩)
            · skip
              refine am_iload_n (x := be) X (by rfl) dX9_bestDay_119 ?_
              refine am_goto (tgt := 125) X dX9_bestDay_120 (by decide) ?_
              exact hret _ _ _ _ _ dX9_bestDay_125 rfl rfl (⟨rfl, hfr, by rw [if_pos (by omega), if_pos (by omega), if_pos (by omega), show (45 - σ 22 7).toNat = m by omega, ← hbs]⟩)
          · skip
            refine am_iload (x := dv) X (by rfl) dX9_bestDay_61 ?_
            refine am_callSi X hY lk_X9_178 mf_X9_isHoly (m_X9_isHoly dv (by omega) _ τ) (by decide) (by decide) (Nat.le_refl _) (Nat.le_refl _) rfl rfl (Nat.le_of_ble_eq_true rfl) dX9_bestDay_63 (fun r63 sh63 σ63 hr63 hp63 => ?_)
            obtain ⟨rfl, rfl, hq63⟩ := hp63
            refine am_if_ne (tgt := 109) X dX9_bestDay_66 (by decide) (fun h66 => ?_) (fun h66 => ?_)
            · skip
              refine am_inc (x := dv) (v := (dv + 1)) (L' := [some (vr 0), some (vi a), some (vi b), some (vi be), some (vi mo), some (vi (dv + 1)), none]) X (by rfl) (by omega) (by omega) (by rfl) dX9_bestDay_109 ?_
              refine am_goto (tgt := 54) X dX9_bestDay_112 (by decide) ?_
              exact ih54 _ (by omega) (m + 1) τ be mo (dv + 1) (by omega) (by omega) (hfr) (by rw [bs_f_s, ← hbs, hdv]; exact (if_neg (by omega)).symm) rfl
            · skip
              refine am_aload_n (x := 0) X (by rfl) dX9_bestDay_69 ?_
              refine am_aload_n (x := 0) X (by rfl) dX9_bestDay_70 ?_
              refine am_getr (c1 := 16) X 0 fl_X9_33 (by decide) sh_0 (by decide) (by rfl) dX9_bestDay_71 ?_
              refine am_getr (c1 := 17) X 16 fl_X9_218 (by decide) sh_16 (by decide) (by rfl) dX9_bestDay_74 ?_
              refine am_iload_n (x := a) X (by rfl) dX9_bestDay_77 ?_
              refine am_ald (v := σ 17 k) X 17 k sh_17 (by omega) (by omega) (hfr 17 k (by decide) (by decide)) dX9_bestDay_78 ?_
              refine am_aload_n (x := 0) X (by rfl) dX9_bestDay_79 ?_
              refine am_getr (c1 := 16) X 0 fl_X9_33 (by decide) sh_0 (by decide) (by rfl) dX9_bestDay_80 ?_
              refine am_getr (c1 := 18) X 16 fl_X9_193 (by decide) sh_16 (by decide) (by rfl) dX9_bestDay_83 ?_
              refine am_iload_n (x := a) X (by rfl) dX9_bestDay_86 ?_
              refine am_ald (v := σ 18 k) X 18 k sh_18 (by omega) (by omega) (hfr 18 k (by decide) (by decide)) dX9_bestDay_87 ?_
              refine am_iload (x := dv) X (by rfl) dX9_bestDay_88 ?_
              refine am_callVi (ci := 8) X hY lk_X9_171 mf_X9_worthOf (m_X9_worthOf (σ 17 k) (σ 18 k) dv (dv / 4).toNat (σ 17 k).toNat rfl (by omega) (by omega) τ ((c_lw_fr hfr).2 hlaw) (by rw [hfr 2 _ (by decide) (by decide), hfr 3 _ (by decide) (by decide)]; have h1 := hski.1 (dv / 4).toNat (by omega); have h2 := hski.2 (σ 17 k).toNat (by omega); omega)) (by decide) (by decide) (Nat.le_refl _) (Nat.le_refl _) sh_0 rfl rfl rfl (Nat.le_of_ble_eq_true rfl) dX9_bestDay_90 (fun r90 sh90 σ90 hr90 hp90 => ?_)
              obtain ⟨rfl, hf90, hq90⟩ := hp90
              have hg90 := c_fr_tr hfr hf90
              rw [c_wv_fr hfr] at hq90
              refine am_istore (i := 6) (L' := [some (vr 0), some (vi a), some (vi b), some (vi be), some (vi mo), some (vi dv), some (vi r90)]) X (Nat.le_of_ble_eq_true rfl) (by rfl) dX9_bestDay_93 ?_
              refine am_iload (x := r90) X (by rfl) dX9_bestDay_95 ?_
              refine am_iload (x := mo) X (by rfl) dX9_bestDay_97 ?_
              refine am_icmp_le (tgt := 109) X dX9_bestDay_99 (by decide) (fun h99 => ?_) (fun h99 => ?_)
              · skip
                refine am_inc (x := dv) (v := (dv + 1)) (L' := [some (vr 0), some (vi a), some (vi b), some (vi be), some (vi mo), some (vi (dv + 1)), some (vi r90)]) X (by rfl) (by omega) (by omega) (by rfl) dX9_bestDay_109 ?_
                refine am_goto (tgt := 54) X dX9_bestDay_112 (by decide) ?_
                refine am_fg [true, true, true, true, true, true, false] rfl (L' := [some (vr 0), some (vi a), some (vi b), some (vi be), some (vi mo), some (vi (dv + 1)), none]) rfl ?_
                exact ih54 _ (by omega) (m + 1) σ90 be mo (dv + 1) (by omega) (by omega) (hg90) (by rw [bs_f_s, ← hbs, hdv]; exact (if_neg (fun q => by have q2 : mo < c_wv σ (σ 17 k) (σ 18 k) dv := q.2; omega)).symm) rfl
              · skip
                refine am_iload (x := dv) X (by rfl) dX9_bestDay_102 ?_
                refine am_istore_n (i := 3) (L' := [some (vr 0), some (vi a), some (vi b), some (vi dv), some (vi mo), some (vi dv), some (vi r90)]) X rfl (Nat.le_of_ble_eq_true rfl) (by rfl) dX9_bestDay_104 ?_
                refine am_iload (x := r90) X (by rfl) dX9_bestDay_105 ?_
                refine am_istore (i := 4) (L' := [some (vr 0), some (vi a), some (vi b), some (vi dv), some (vi r90), some (vi dv), some (vi r90)]) X (Nat.le_of_ble_eq_true rfl) (by rfl) dX9_bestDay_107 ?_
                refine am_inc (x := dv) (v := (dv + 1)) (L' := [some (vr 0), some (vi a), some (vi b), some (vi dv), some (vi r90), some (vi (dv + 1)), some (vi r90)]) X (by rfl) (by omega) (by omega) (by rfl) dX9_bestDay_109 ?_
                refine am_goto (tgt := 54) X dX9_bestDay_112 (by decide) ?_
                refine am_fg [true, true, true, true, true, true, false] rfl (L' := [some (vr 0), some (vi a), some (vi b), some (vi dv), some (vi r90), some (vi (dv + 1)), none]) rfl ?_
                exact ih54 _ (by omega) (m + 1) σ90 dv r90 (dv + 1) (by omega) (by omega) (hg90) (by rw [bs_f_s, ← hbs, hdv]; rw [hq90]; exact (if_pos ⟨by omega, by show mo < c_wv σ (σ 17 k) (σ 18 k) dv; omega⟩).symm) rfl
        exact hL54 _ 0 σ (-2) (-2) (σ 22 7 + 3) (by omega) (by omega) (c_fr_rf σ) (rfl) rfl
      · skip
        refine am_bipush X (by decide) dX9_bestDay_33 ?_
        exact hret _ _ _ _ _ dX9_bestDay_35 rfl rfl (⟨rfl, c_fr_rf σ, by rw [if_pos (by omega), if_neg (by omega)]⟩)
    · skip
      refine am_ic X (by decide) dX9_bestDay_20 ?_
      exact hret _ _ _ _ _ dX9_bestDay_21 rfl rfl (⟨rfl, c_fr_rf σ, by rw [if_neg (by omega)]⟩)
