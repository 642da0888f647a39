set_option maxHeartbeats 4000000 in
set_option maxRecDepth 100000 in
theorem m_X10_weightOf (σ : am_H) (k n : Nat) (hkn : (σ 72 (3 * k)).toNat = n) (hk : (k : Int) < σ 63 20) (ha : 0 ≤ σ 63 20 ∧ σ 63 20 ≤ 30) (hp : 0 ≤ σ 63 6 ∧ σ 63 6 ≤ 8) (hc : 0 ≤ σ 63 7 ∧ σ 63 7 ≤ 20) (hd : ∀ n : Nat, (n : Int) < σ 63 7 → 0 ≤ σ 68 (5 * n + 2) ∧ σ 68 (5 * n + 2) ≤ 9) (hlaw : MLaw σ) (hski : MskV σ) (hdeb : MdeV σ) (hask : MasV σ) : am_Mi yX10_weightOf cX10_weightOf 5 (some .int) 46 0 0 [vr 63, vi (k : Int)] SH σ (fun r sh' σ' => SH = sh' ∧ md_fr σ σ' ∧ r = md_wei σ n (σ 72 (3 * k + 1)) ∧ 0 ≤ r ∧ r ≤ 180) := by
  refine am_Mi_of (by decide +kernel) (Nat.le_of_ble_eq_true rfl) (fun K X hY hI hret => ?_)
  show am_G K 0 [some (vr 63), some (vi (k : Int)), none, none, none] [] SH σ
  have hak := hask k hk
  have hdb := hdeb n (by omega)
  refine am_aload_n (x := 63) X (by rfl) dX10_weightOf_0 ?_
  refine am_getr (c1 := 72) X 63 fl_X10_34 (by decide) sh_63 (by decide) (by rfl) dX10_weightOf_1 ?_
  refine am_ic X (by decide) dX10_weightOf_4 ?_
  refine am_iload_n (x := (k : Int)) X (by rfl) dX10_weightOf_5 ?_
  refine am_mul (v := (3 * (k : Int))) X (by first | rfl | omega) (by omega) dX10_weightOf_6 ?_
  refine am_ald (v := σ 72 (3 * k)) X 72 (3 * k) sh_72 (by omega) (by omega) (rfl) dX10_weightOf_7 ?_
  refine am_istore_n (i := 2) (L' := [some (vr 63), some (vi (k : Int)), some (vi (σ 72 (3 * k))), none, none]) X rfl (Nat.le_of_ble_eq_true rfl) (by rfl) dX10_weightOf_8 ?_
  refine am_aload_n (x := 63) X (by rfl) dX10_weightOf_9 ?_
  refine am_getr (c1 := 68) X 63 fl_X10_22 (by decide) sh_63 (by decide) (by rfl) dX10_weightOf_10 ?_
  refine am_ic X (by decide) dX10_weightOf_13 ?_
  refine am_iload_n (x := σ 72 (3 * k)) X (by rfl) dX10_weightOf_14 ?_
  refine am_mul (v := (5 * σ 72 (3 * k))) X (by first | rfl | omega) (by omega) dX10_weightOf_15 ?_
  refine am_ald (v := σ 68 (5 * n)) X 68 (5 * n) sh_68 (by omega) (by omega) (rfl) dX10_weightOf_16 ?_
  refine am_istore_n (i := 3) (L' := [some (vr 63), some (vi (k : Int)), some (vi (σ 72 (3 * k))), some (vi (σ 68 (5 * n))), none]) X rfl (Nat.le_of_ble_eq_true rfl) (by rfl) dX10_weightOf_17 ?_
  refine am_aload_n (x := 63) X (by rfl) dX10_weightOf_18 ?_
  refine am_getr (c1 := 68) X 63 fl_X10_22 (by decide) sh_63 (by decide) (by rfl) dX10_weightOf_19 ?_
  refine am_ic X (by decide) dX10_weightOf_22 ?_
  refine am_iload_n (x := σ 72 (3 * k)) X (by rfl) dX10_weightOf_23 ?_
  refine am_mul (v := (5 * σ 72 (3 * k))) X (by first | rfl | omega) (by omega) dX10_weightOf_24 ?_
  refine am_ic X (by decide) dX10_weightOf_25 ?_
  refine am_add (v := ((5 * σ 72 (3 * k)) + 1)) X (by first | rfl | omega) (by omega) dX10_weightOf_26 ?_
  refine am_ald (v := σ 68 (5 * n + 1)) X 68 (5 * n + 1) sh_68 (by omega) (by omega) (rfl) dX10_weightOf_27 ?_
  refine am_istore (i := 4) (L' := [some (vr 63), some (vi (k : Int)), some (vi (σ 72 (3 * k))), some (vi (σ 68 (5 * n))), some (vi (σ 68 (5 * n + 1)))]) X (Nat.le_of_ble_eq_true rfl) (by rfl) dX10_weightOf_28 ?_
  refine am_aload_n (x := 63) X (by rfl) dX10_weightOf_30 ?_
  refine am_getr (c1 := 64) X 63 fl_X10_9 (by decide) sh_63 (by decide) (by rfl) dX10_weightOf_31 ?_
  refine am_bipush X (by decide) dX10_weightOf_34 ?_
  refine am_ald (v := σ 64 20) X 64 20 sh_64 (by omega) (by omega) (rfl) dX10_weightOf_36 ?_
  refine am_if_ne (tgt := 44) X dX10_weightOf_37 (by decide) (fun h37 => ?_) (fun h37 => ?_)
  · skip
    refine am_aload_n (x := 63) X (by rfl) dX10_weightOf_44 ?_
    refine am_getr (c1 := 64) X 63 fl_X10_9 (by decide) sh_63 (by decide) (by rfl) dX10_weightOf_45 ?_
    refine am_bipush X (by decide) dX10_weightOf_48 ?_
    refine am_ald (v := σ 64 20) X 64 20 sh_64 (by omega) (by omega) (rfl) dX10_weightOf_50 ?_
    refine am_ic X (by decide) dX10_weightOf_51 ?_
    refine am_icmp_ne (tgt := 65) X dX10_weightOf_52 (by decide) (fun h52 => ?_) (fun h52 => ?_)
    · skip
      refine am_aload_n (x := 63) X (by rfl) dX10_weightOf_65 ?_
      refine am_iload_n (x := σ 68 (5 * n)) X (by rfl) dX10_weightOf_66 ?_
      refine am_iload (x := σ 68 (5 * n + 1)) X (by rfl) dX10_weightOf_67 ?_
      refine am_aload_n (x := 63) X (by rfl) dX10_weightOf_69 ?_
      refine am_getr (c1 := 72) X 63 fl_X10_34 (by decide) sh_63 (by decide) (by rfl) dX10_weightOf_70 ?_
      refine am_ic X (by decide) dX10_weightOf_73 ?_
      refine am_iload_n (x := (k : Int)) X (by rfl) dX10_weightOf_74 ?_
      refine am_mul (v := (3 * (k : Int))) X (by first | rfl | omega) (by omega) dX10_weightOf_75 ?_
      refine am_ic X (by decide) dX10_weightOf_76 ?_
      refine am_add (v := ((3 * (k : Int)) + 1)) X (by first | rfl | omega) (by omega) dX10_weightOf_77 ?_
      refine am_ald (v := σ 72 (3 * k + 1)) X 72 (3 * k + 1) sh_72 (by omega) (by omega) (rfl) dX10_weightOf_78 ?_
      refine am_callVi (ci := 9) X hY lk_X10_227 mf_X10_worthOf (m_X10_worthOf (σ 68 (5 * n)) (σ 68 (5 * n + 1)) (σ 72 (3 * k + 1)) (σ 72 (3 * k + 1) / 4).toNat (σ 68 (5 * n)).toNat rfl (by omega) (by omega) σ hlaw (by have h1 := hski.1 (σ 72 (3 * k + 1) / 4).toNat (by omega); have h2 := hski.2 (σ 68 (5 * n)).toNat (by omega); omega)) (by decide) (by decide) (Nat.le_refl _) (Nat.le_refl _) sh_63 rfl rfl rfl (Nat.le_of_ble_eq_true rfl) dX10_weightOf_79 (fun r79 sh79 σ79 hr79 hp79 => ?_)
      obtain ⟨rfl, hf79, hq79⟩ := hp79
      exact hret _ _ _ _ _ dX10_weightOf_82 rfl rfl (⟨rfl, hf79, by unfold md_wei; rw [if_neg (by omega), if_neg (by omega)]; exact hq79, by have := wv_bd (md_lw σ) (σ 64 (σ 72 (3 * k + 1) / 4).toNat) (σ 64 (12 + σ 68 (5 * n)).toNat) (σ 72 (3 * k + 1)) (σ 68 (5 * n)) (σ 68 (5 * n + 1)); unfold md_wv at hq79; omega⟩)
    · skip
      refine am_aload_n (x := 63) X (by rfl) dX10_weightOf_55 ?_
      refine am_iload_n (x := σ 68 (5 * n)) X (by rfl) dX10_weightOf_56 ?_
      refine am_iload (x := σ 68 (5 * n + 1)) X (by rfl) dX10_weightOf_57 ?_
      refine am_callVi (ci := 9) X hY lk_X10_167 mf_X10_owedBetween (m_X10_owedBetween (σ 68 (5 * n)) (σ 68 (5 * n + 1)) σ hc hd) (by decide) (by decide) (Nat.le_refl _) (Nat.le_refl _) sh_63 rfl rfl rfl (Nat.le_of_ble_eq_true rfl) dX10_weightOf_59 (fun r59 sh59 σ59 hr59 hp59 => ?_)
      obtain ⟨rfl, rfl, hq59⟩ := hp59
      refine am_goto (tgt := 82) X dX10_weightOf_62 (by decide) ?_
      exact hret _ _ _ _ _ dX10_weightOf_82 rfl rfl (⟨rfl, md_fr_rf σ, by unfold md_wei md_owed; rw [if_neg (by omega), if_pos (by omega)]; exact hq59.1, by omega, by omega⟩)
  · skip
    refine am_ic X (by decide) dX10_weightOf_40 ?_
    refine am_goto (tgt := 82) X dX10_weightOf_41 (by decide) ?_
    exact hret _ _ _ _ _ dX10_weightOf_82 rfl rfl (⟨rfl, md_fr_rf σ, by unfold md_wei; rw [if_pos (by omega)], by omega, by omega⟩)

set_option maxHeartbeats 4000000 in
set_option maxRecDepth 100000 in
theorem m_X10_askFor (σ : am_H) (p t : Int) (ht : 0 ≤ t ∧ t ≤ 47) (hp : 0 ≤ σ 63 6 ∧ σ 63 6 ≤ 8) (hc : 0 ≤ σ 63 7 ∧ σ 63 7 ≤ 20) (hd : ∀ n : Nat, (n : Int) < σ 63 7 → 0 ≤ σ 68 (5 * n + 2) ∧ σ 68 (5 * n + 2) ≤ 9) (hlaw : MLaw σ) (hski : MskV σ) (hdeb : MdeV σ) (ha : 0 ≤ σ 63 20 ∧ σ 63 20 ≤ 30) (hask : MasV σ) : am_Mi yX10_askFor cX10_askFor 8 (some .int) 47 0 0 [vr 63, vi p, vi t] SH σ (fun r sh' σ' => SH = sh' ∧ md_fr σ σ' ∧ r = (md_sel σ p t (σ 63 20).toNat).1) := by
  refine am_Mi_of (by decide +kernel) (Nat.le_of_ble_eq_true rfl) (fun K X hY hI hret => ?_)
  show am_G K 0 [some (vr 63), some (vi p), some (vi t), none, none, none, none, none] [] SH σ
  refine am_ic X (by decide) dX10_askFor_0 ?_
  refine am_istore_n (i := 3) (L' := [some (vr 63), some (vi p), some (vi t), some (vi (-1)), none, none, none, none]) X rfl (Nat.le_of_ble_eq_true rfl) (by rfl) dX10_askFor_1 ?_
  refine am_ic X (by decide) dX10_askFor_2 ?_
  refine am_istore (i := 4) (L' := [some (vr 63), some (vi p), some (vi t), some (vi (-1)), some (vi 0), none, none, none]) X (Nat.le_of_ble_eq_true rfl) (by rfl) dX10_askFor_3 ?_
  refine am_ic X (by decide) dX10_askFor_5 ?_
  refine am_istore (i := 5) (L' := [some (vr 63), some (vi p), some (vi t), some (vi (-1)), some (vi 0), some (vi 0), none, none]) X (Nat.le_of_ble_eq_true rfl) (by rfl) dX10_askFor_6 ?_
  have hL8 : ∀ (m8 : Nat) (k : Nat) (τ : am_H) (be : Int) (mo : Int) (hk : (k : Int) ≤ σ 63 20) (hfr : md_fr σ τ) (hch : be = (md_sel σ p t k).1) (hmo : mo = (md_sel σ p t k).2) (hm8 : (σ 63 20).toNat - k = m8), am_G K 8 [some (vr 63), some (vi p), some (vi t), some (vi be), some (vi mo), some (vi (k : Int)), none, none] [] SH τ := by
    intro m8
    induction m8 using Nat.strongRecOn with
    | ind m8 ih8 =>
    intro k τ be mo hk hfr hch hmo hm8
    have hbd := as_sel_bd (md_P σ p t) (md_V σ) k
    have hPk : md_P σ p t k = true ↔ (σ 72 (3 * k + 1) = t ∧ σ 72 (3 * k + 2) = 0 ∧ 0 < σ 68 (5 * (σ 72 (3 * k)).toNat + 2) ∧ σ 68 (5 * (σ 72 (3 * k)).toNat) = p) := by unfold md_P; exact decide_eq_true_iff
    have hch2 : be = (as_sel (md_P σ p t) (md_V σ) k).1 := hch
    have hmo2 : mo = (as_sel (md_P σ p t) (md_V σ) k).2 := hmo
    refine am_iload (x := (k : Int)) X (by rfl) dX10_askFor_8 ?_
    refine am_aload_n (x := 63) X (by rfl) dX10_askFor_10 ?_
    refine am_get (v := σ 63 20) X 63 fl_X10_161 (by decide) sh_63 (by decide) (hfr 63 20 (by decide) (by decide)) dX10_askFor_11 ?_
    refine am_icmp_ge (tgt := 135) X dX10_askFor_14 (by decide) (fun h14 => ?_) (fun h14 => ?_)
    · skip
      refine am_iload_n (x := be) X (by rfl) dX10_askFor_135 ?_
      exact hret _ _ _ _ _ dX10_askFor_136 rfl rfl (⟨rfl, hfr, by rw [show (σ 63 20).toNat = k by omega]; exact hch⟩)
    · skip
      have hak := hask k (by omega)
      refine am_aload_n (x := 63) X (by rfl) dX10_askFor_17 ?_
      have hL129 : ∀ (τ2 : am_H) (be2 : Int) (mo2 : Int) (hfr2 : md_fr σ τ2) (hch2 : be2 = (md_sel σ p t (k + 1)).1) (hmo2 : mo2 = (md_sel σ p t (k + 1)).2), am_G K 129 [some (vr 63), some (vi p), some (vi t), some (vi be2), some (vi mo2), some (vi (k : Int)), none, none] [] SH τ2 := by
        intro τ2 be2 mo2 hfr2 hch2 hmo2
        refine am_inc (x := (k : Int)) (v := ((k : Int) + 1)) (L' := [some (vr 63), some (vi p), some (vi t), some (vi be2), some (vi mo2), some (vi ((k : Int) + 1)), none, none]) X (by rfl) (by omega) (by omega) (by rfl) dX10_askFor_129 ?_
        refine am_goto (tgt := 8) X dX10_askFor_132 (by decide) ?_
        exact ih8 _ (by omega) (k + 1) τ2 be2 mo2 (by omega) (hfr2) (hch2) (hmo2) rfl
      have hL87 : ∀ (iz : Int) (hiz : (iz = 1 ∧ (σ 72 (3 * k + 1) = t ∧ σ 72 (3 * k + 2) = 0 ∧ 0 < σ 68 (5 * (σ 72 (3 * k)).toNat + 2) ∧ σ 68 (5 * (σ 72 (3 * k)).toNat) = p)) ∨ (iz = 0 ∧ ¬ (σ 72 (3 * k + 1) = t ∧ σ 72 (3 * k + 2) = 0 ∧ 0 < σ 68 (5 * (σ 72 (3 * k)).toNat + 2) ∧ σ 68 (5 * (σ 72 (3 * k)).toNat) = p))), am_G K 87 [some (vr 63), some (vi p), some (vi t), some (vi be), some (vi mo), some (vi (k : Int)), none, none] [vi iz] SH τ := by
        intro iz hiz
        refine am_istore (i := 6) (L' := [some (vr 63), some (vi p), some (vi t), some (vi be), some (vi mo), some (vi (k : Int)), some (vi iz), none]) X (Nat.le_of_ble_eq_true rfl) (by rfl) dX10_askFor_87 ?_
        refine am_iload (x := iz) X (by rfl) dX10_askFor_89 ?_
        refine am_if_eq (tgt := 103) X dX10_askFor_91 (by decide) (fun h91 => ?_) (fun h91 => ?_)
        · skip
          refine am_ic X (by decide) dX10_askFor_103 ?_
          refine am_istore (i := 7) (L' := [some (vr 63), some (vi p), some (vi t), some (vi be), some (vi mo), some (vi (k : Int)), some (vi iz), some (vi 0)]) X (Nat.le_of_ble_eq_true rfl) (by rfl) dX10_askFor_104 ?_
          refine am_iload (x := iz) X (by rfl) dX10_askFor_106 ?_
          refine am_if_eq (tgt := 129) X dX10_askFor_108 (by decide) (fun h108 => ?_) (fun h108 => ?_)
          · skip
            refine am_fg [true, true, true, true, true, true, false, false] rfl (L' := [some (vr 63), some (vi p), some (vi t), some (vi be), some (vi mo), some (vi (k : Int)), none, none]) rfl ?_
            exact hL129 τ be mo (hfr) (by show _ = (as_sel (md_P σ p t) (md_V σ) (k + 1)).1; rw [as_sel_s, if_neg (by rw [hPk]; omega)]; exact hch) (by show _ = (as_sel (md_P σ p t) (md_V σ) (k + 1)).2; rw [as_sel_s, if_neg (by rw [hPk]; omega)]; exact hmo)
          · skip
            (exfalso; omega)
        · skip
          refine am_aload_n (x := 63) X (by rfl) dX10_askFor_94 ?_
          refine am_iload (x := (k : Int)) X (by rfl) dX10_askFor_95 ?_
          refine am_callVi (ci := 9) X hY lk_X10_243 mf_X10_weightOf (m_X10_weightOf τ k (σ 72 (3 * k)).toNat (by rw [hfr 72 _ (by decide) (Or.inl (by decide))]) (by rw [hfr 63 20 (by decide) (by decide)]; omega) (by rw [hfr 63 20 (by decide) (by decide)]; exact ha) (by rw [hfr 63 6 (by decide) (by decide)]; exact hp) (by rw [hfr 63 7 (by decide) (by decide)]; exact hc) (md_day_fr hfr hd) ((md_lw_fr hfr).2 hlaw) (md_ski_fr hfr hski) (md_deb_fr hfr hdeb) (md_ask_fr hfr hask)) (by decide) (by decide) (Nat.le_refl _) (Nat.le_refl _) sh_63 rfl rfl rfl (Nat.le_of_ble_eq_true rfl) dX10_askFor_97 (fun r97 sh97 σ97 hr97 hp97 => ?_)
          obtain ⟨rfl, hf97, hq97, hz97⟩ := hp97
          have hg97 := md_fr_tr hfr hf97
          rw [md_wei_fr hfr, hfr 72 _ (by decide) (Or.inl (by decide))] at hq97
          refine am_goto (tgt := 104) X dX10_askFor_100 (by decide) ?_
          refine am_istore (i := 7) (L' := [some (vr 63), some (vi p), some (vi t), some (vi be), some (vi mo), some (vi (k : Int)), some (vi iz), some (vi r97)]) X (Nat.le_of_ble_eq_true rfl) (by rfl) dX10_askFor_104 ?_
          refine am_iload (x := iz) X (by rfl) dX10_askFor_106 ?_
          refine am_if_eq (tgt := 129) X dX10_askFor_108 (by decide) (fun h108 => ?_) (fun h108 => ?_)
          · skip
            (exfalso; omega)
          · skip
            refine am_iload_n (x := be) X (by rfl) dX10_askFor_111 ?_
            refine am_if_lt (tgt := 122) X dX10_askFor_112 (by decide) (fun h112 => ?_) (fun h112 => ?_)
            · skip
              refine am_iload (x := (k : Int)) X (by rfl) dX10_askFor_122 ?_
              refine am_istore_n (i := 3) (L' := [some (vr 63), some (vi p), some (vi t), some (vi (k : Int)), some (vi mo), some (vi (k : Int)), some (vi iz), some (vi r97)]) X rfl (Nat.le_of_ble_eq_true rfl) (by rfl) dX10_askFor_124 ?_
              refine am_iload (x := r97) X (by rfl) dX10_askFor_125 ?_
              refine am_istore (i := 4) (L' := [some (vr 63), some (vi p), some (vi t), some (vi (k : Int)), some (vi r97), some (vi (k : Int)), some (vi iz), some (vi r97)]) X (Nat.le_of_ble_eq_true rfl) (by rfl) dX10_askFor_127 ?_
              refine am_fg [true, true, true, true, true, true, false, false] rfl (L' := [some (vr 63), some (vi p), some (vi t), some (vi (k : Int)), some (vi r97), some (vi (k : Int)), none, none]) rfl ?_
              exact hL129 σ97 (k : Int) r97 (hg97) (by show _ = (as_sel (md_P σ p t) (md_V σ) (k + 1)).1; rw [as_sel_s, if_pos (hPk.mpr (by omega)), if_pos (by rw [← hch2, ← hmo2]; show be < 0 ∨ mo < md_wei σ (σ 72 (3 * k)).toNat (σ 72 (3 * k + 1)); omega)]) (by show _ = (as_sel (md_P σ p t) (md_V σ) (k + 1)).2; rw [as_sel_s, if_pos (hPk.mpr (by omega)), if_pos (by rw [← hch2, ← hmo2]; show be < 0 ∨ mo < md_wei σ (σ 72 (3 * k)).toNat (σ 72 (3 * k + 1)); omega)]; exact hq97)
            · skip
              refine am_iload (x := r97) X (by rfl) dX10_askFor_115 ?_
              refine am_iload (x := mo) X (by rfl) dX10_askFor_117 ?_
              refine am_icmp_le (tgt := 129) X dX10_askFor_119 (by decide) (fun h119 => ?_) (fun h119 => ?_)
              · skip
                refine am_fg [true, true, true, true, true, true, false, false] rfl (L' := [some (vr 63), some (vi p), some (vi t), some (vi be), some (vi mo), some (vi (k : Int)), none, none]) rfl ?_
                exact hL129 σ97 be mo (hg97) (by show _ = (as_sel (md_P σ p t) (md_V σ) (k + 1)).1; rw [as_sel_s, if_pos (hPk.mpr (by omega)), if_neg (by rw [← hch2, ← hmo2]; show ¬ (be < 0 ∨ mo < md_wei σ (σ 72 (3 * k)).toNat (σ 72 (3 * k + 1))); omega)]; exact hch) (by show _ = (as_sel (md_P σ p t) (md_V σ) (k + 1)).2; rw [as_sel_s, if_pos (hPk.mpr (by omega)), if_neg (by rw [← hch2, ← hmo2]; show ¬ (be < 0 ∨ mo < md_wei σ (σ 72 (3 * k)).toNat (σ 72 (3 * k + 1))); omega)]; exact hmo)
              · skip
                refine am_iload (x := (k : Int)) X (by rfl) dX10_askFor_122 ?_
                refine am_istore_n (i := 3) (L' := [some (vr 63), some (vi p), some (vi t), some (vi (k : Int)), some (vi mo), some (vi (k : Int)), some (vi iz), some (vi r97)]) X rfl (Nat.le_of_ble_eq_true rfl) (by rfl) dX10_askFor_124 ?_
                refine am_iload (x := r97) X (by rfl) dX10_askFor_125 ?_
                refine am_istore (i := 4) (L' := [some (vr 63), some (vi p), some (vi t), some (vi (k : Int)), some (vi r97), some (vi (k : Int)), some (vi iz), some (vi r97)]) X (Nat.le_of_ble_eq_true rfl) (by rfl) dX10_askFor_127 ?_
                refine am_fg [true, true, true, true, true, true, false, false] rfl (L' := [some (vr 63), some (vi p), some (vi t), some (vi (k : Int)), some (vi r97), some (vi (k : Int)), none, none]) rfl ?_
                exact hL129 σ97 (k : Int) r97 (hg97) (by show _ = (as_sel (md_P σ p t) (md_V σ) (k + 1)).1; rw [as_sel_s, if_pos (hPk.mpr (by omega)), if_pos (by rw [← hch2, ← hmo2]; show be < 0 ∨ mo < md_wei σ (σ 72 (3 * k)).toNat (σ 72 (3 * k + 1)); omega)]) (by show _ = (as_sel (md_P σ p t) (md_V σ) (k + 1)).2; rw [as_sel_s, if_pos (hPk.mpr (by omega)), if_pos (by rw [← hch2, ← hmo2]; show be < 0 ∨ mo < md_wei σ (σ 72 (3 * k)).toNat (σ 72 (3 * k + 1)); omega)]; exact hq97)
      refine am_getr (c1 := 72) X 63 fl_X10_34 (by decide) sh_63 (by decide) (by rfl) dX10_askFor_18 ?_
      refine am_ic X (by decide) dX10_askFor_21 ?_
      refine am_iload (x := (k : Int)) X (by rfl) dX10_askFor_22 ?_
      refine am_mul (v := (3 * (k : Int))) X (by first | rfl | omega) (by omega) dX10_askFor_24 ?_
      refine am_ic X (by decide) dX10_askFor_25 ?_
      refine am_add (v := ((3 * (k : Int)) + 1)) X (by first | rfl | omega) (by omega) dX10_askFor_26 ?_
      refine am_ald (v := σ 72 (3 * k + 1)) X 72 (3 * k + 1) sh_72 (by omega) (by omega) (hfr 72 (3 * k + 1) (by decide) (Or.inl (by decide))) dX10_askFor_27 ?_
      refine am_iload_n (x := t) X (by rfl) dX10_askFor_28 ?_
      refine am_icmp_ne (tgt := 86) X dX10_askFor_29 (by decide) (fun h29 => ?_) (fun h29 => ?_)
      · skip
        refine am_ic X (by decide) dX10_askFor_86 ?_
        exact hL87 0 (by omega)
      · skip
        refine am_aload_n (x := 63) X (by rfl) dX10_askFor_32 ?_
        refine am_getr (c1 := 72) X 63 fl_X10_34 (by decide) sh_63 (by decide) (by rfl) dX10_askFor_33 ?_
        refine am_ic X (by decide) dX10_askFor_36 ?_
        refine am_iload (x := (k : Int)) X (by rfl) dX10_askFor_37 ?_
        refine am_mul (v := (3 * (k : Int))) X (by first | rfl | omega) (by omega) dX10_askFor_39 ?_
        refine am_ic X (by decide) dX10_askFor_40 ?_
        refine am_add (v := ((3 * (k : Int)) + 2)) X (by first | rfl | omega) (by omega) dX10_askFor_41 ?_
        refine am_ald (v := σ 72 (3 * k + 2)) X 72 (3 * k + 2) sh_72 (by omega) (by omega) (hfr 72 (3 * k + 2) (by decide) (Or.inl (by decide))) dX10_askFor_42 ?_
        refine am_if_ne (tgt := 86) X dX10_askFor_43 (by decide) (fun h43 => ?_) (fun h43 => ?_)
        · skip
          refine am_ic X (by decide) dX10_askFor_86 ?_
          exact hL87 0 (by omega)
        · skip
          refine am_aload_n (x := 63) X (by rfl) dX10_askFor_46 ?_
          refine am_aload_n (x := 63) X (by rfl) dX10_askFor_47 ?_
          refine am_getr (c1 := 72) X 63 fl_X10_34 (by decide) sh_63 (by decide) (by rfl) dX10_askFor_48 ?_
          refine am_ic X (by decide) dX10_askFor_51 ?_
          refine am_iload (x := (k : Int)) X (by rfl) dX10_askFor_52 ?_
          refine am_mul (v := (3 * (k : Int))) X (by first | rfl | omega) (by omega) dX10_askFor_54 ?_
          refine am_ald (v := σ 72 (3 * k)) X 72 (3 * k) sh_72 (by omega) (by omega) (hfr 72 (3 * k) (by decide) (Or.inl (by decide))) dX10_askFor_55 ?_
          refine am_callVi (ci := 9) X hY lk_X10_240 mf_X10_isOpen (m_X10_isOpen (σ 72 (3 * k)) (σ 72 (3 * k)).toNat (by omega) (by omega) τ) (by decide) (by decide) (Nat.le_refl _) (Nat.le_refl _) sh_63 rfl rfl rfl (Nat.le_of_ble_eq_true rfl) dX10_askFor_56 (fun r56 sh56 σ56 hr56 hp56 => ?_)
          obtain ⟨rfl, rfl, hq56⟩ := hp56
          rw [hfr 68 _ (by decide) (Or.inl (by decide))] at hq56
          refine am_if_eq (tgt := 86) X dX10_askFor_59 (by decide) (fun h59 => ?_) (fun h59 => ?_)
          · skip
            refine am_ic X (by decide) dX10_askFor_86 ?_
            exact hL87 0 (by omega)
          · skip
            refine am_aload_n (x := 63) X (by rfl) dX10_askFor_62 ?_
            refine am_getr (c1 := 68) X 63 fl_X10_22 (by decide) sh_63 (by decide) (by rfl) dX10_askFor_63 ?_
            refine am_ic X (by decide) dX10_askFor_66 ?_
            refine am_aload_n (x := 63) X (by rfl) dX10_askFor_67 ?_
            refine am_getr (c1 := 72) X 63 fl_X10_34 (by decide) sh_63 (by decide) (by rfl) dX10_askFor_68 ?_
            refine am_ic X (by decide) dX10_askFor_71 ?_
            refine am_iload (x := (k : Int)) X (by rfl) dX10_askFor_72 ?_
            refine am_mul (v := (3 * (k : Int))) X (by first | rfl | omega) (by omega) dX10_askFor_74 ?_
            refine am_ald (v := σ 72 (3 * k)) X 72 (3 * k) sh_72 (by omega) (by omega) (hfr 72 (3 * k) (by decide) (Or.inl (by decide))) dX10_askFor_75 ?_
            refine am_mul (v := (5 * σ 72 (3 * k))) X (by first | rfl | omega) (by omega) dX10_askFor_76 ?_
            refine am_ald (v := σ 68 (5 * (σ 72 (3 * k)).toNat)) X 68 (5 * (σ 72 (3 * k)).toNat) sh_68 (by omega) (by omega) (hfr 68 (5 * (σ 72 (3 * k)).toNat) (by decide) (Or.inl (by decide))) dX10_askFor_77 ?_
            refine am_iload_n (x := p) X (by rfl) dX10_askFor_78 ?_
            refine am_icmp_ne (tgt := 86) X dX10_askFor_79 (by decide) (fun h79 => ?_) (fun h79 => ?_)
            · skip
              refine am_ic X (by decide) dX10_askFor_86 ?_
              exact hL87 0 (by omega)
            · skip
              refine am_ic X (by decide) dX10_askFor_82 ?_
              refine am_goto (tgt := 87) X dX10_askFor_83 (by decide) ?_
              exact hL87 1 (by omega)
  exact hL8 _ 0 σ (-1) 0 (by omega) (md_fr_rf σ) (rfl) (rfl) rfl

set_option maxHeartbeats 4000000 in
set_option maxRecDepth 100000 in
theorem m_X10_has (σ : am_H) (a b : Int) (hp : 0 ≤ σ 63 6 ∧ σ 63 6 ≤ 8) (hc : 0 ≤ σ 63 7 ∧ σ 63 7 ≤ 20) (hd : ∀ n : Nat, (n : Int) < σ 63 7 → 0 ≤ σ 68 (5 * n + 2) ∧ σ 68 (5 * n + 2) ≤ 9) (hlaw : MLaw σ) (hski : MskV σ) (hdeb : MdeV σ) (ha : 0 ≤ σ 63 20 ∧ σ 63 20 ≤ 30) (hask : MasV σ) (hn : 0 ≤ σ 63 9 ∧ σ 63 9 ≤ 48) : am_Mi yX10_has cX10_has 4 (some .int) 48 0 0 [vr 63, vi a, vi b] SH σ (fun r sh' σ' => SH = sh' ∧ md_fr σ σ' ∧ r = (if (0 ≤ a ∧ a < σ 63 6) ∧ σ 63 9 ≤ b ∧ b ≤ 47 then (if (md_sel σ a b (σ 63 20).toNat).1 < 0 then -2 else σ 68 (5 * (σ 72 (3 * (md_sel σ a b (σ 63 20).toNat).1.toNat)).toNat + 1)) else -1)) := by
  refine am_Mi_of (by decide +kernel) (Nat.le_of_ble_eq_true rfl) (fun K X hY hI hret => ?_)
  show am_G K 0 [some (vr 63), some (vi a), some (vi b), none] [] SH σ
  refine am_aload_n (x := 63) X (by rfl) dX10_has_0 ?_
  refine am_iload_n (x := a) X (by rfl) dX10_has_1 ?_
  refine am_callVi (ci := 9) X hY lk_X10_107 mf_X10_isPerson (m_X10_isPerson a σ hp) (by decide) (by decide) (Nat.le_refl _) (Nat.le_refl _) sh_63 rfl rfl rfl (Nat.le_of_ble_eq_true rfl) dX10_has_2 (fun r2 sh2 σ2 hr2 hp2 => ?_)
  obtain ⟨rfl, rfl, hq2⟩ := hp2
  refine am_if_eq (tgt := 24) X dX10_has_5 (by decide) (fun h5 => ?_) (fun h5 => ?_)
  · skip
    refine am_ic X (by decide) dX10_has_24 ?_
    exact hret _ _ _ _ _ dX10_has_25 rfl rfl (⟨rfl, md_fr_rf σ, by rw [if_neg (by omega)]⟩)
  · skip
    refine am_iload_n (x := b) X (by rfl) dX10_has_8 ?_
    refine am_i2l X dX10_has_9 ?_
    refine am_aload_n (x := 63) X (by rfl) dX10_has_10 ?_
    refine am_get (v := σ 63 9) X 63 fl_X10_231 (by decide) sh_63 (by decide) (rfl) dX10_has_11 ?_
    refine am_i2l X dX10_has_14 ?_
    refine am_ldc2 X (n := 47) (by unfold R64; decide) cn_X10_114 dX10_has_15 ?_
    refine am_callSi X hY lk_X10_103 mf_X10_within (m_X10_within b (σ 63 9) 47 _ σ) (by decide) (by decide) (Nat.le_refl _) (Nat.le_refl _) rfl rfl (Nat.le_of_ble_eq_true rfl) dX10_has_18 (fun r18 sh18 σ18 hr18 hp18 => ?_)
    obtain ⟨rfl, rfl, hq18⟩ := hp18
    refine am_if_ne (tgt := 26) X dX10_has_21 (by decide) (fun h21 => ?_) (fun h21 => ?_)
    · skip
      refine am_aload_n (x := 63) X (by rfl) dX10_has_26 ?_
      refine am_iload_n (x := a) X (by rfl) dX10_has_27 ?_
      refine am_iload_n (x := b) X (by rfl) dX10_has_28 ?_
      refine am_callVi (ci := 9) X hY lk_X10_246 mf_X10_askFor (m_X10_askFor σ a b (by omega) hp hc hd hlaw hski hdeb ha hask) (by decide) (by decide) (Nat.le_refl _) (Nat.le_refl _) sh_63 rfl rfl rfl (Nat.le_of_ble_eq_true rfl) dX10_has_29 (fun r29 sh29 σ29 hr29 hp29 => ?_)
      obtain ⟨rfl, hf29, hq29⟩ := hp29
      have hbd := as_sel_bd (md_P σ a b) (md_V σ) (σ 63 20).toNat
      have hqq : r29 = (as_sel (md_P σ a b) (md_V σ) (σ 63 20).toNat).1 := hq29
      refine am_istore_n (i := 3) (L' := [some (vr 63), some (vi a), some (vi b), some (vi r29)]) X rfl (Nat.le_of_ble_eq_true rfl) (by rfl) dX10_has_32 ?_
      refine am_iload_n (x := r29) X (by rfl) dX10_has_33 ?_
      refine am_if_ge (tgt := 42) X dX10_has_34 (by decide) (fun h34 => ?_) (fun h34 => ?_)
      · skip
        have hak := hask r29.toNat (by omega)
        refine am_aload_n (x := 63) X (by rfl) dX10_has_42 ?_
        refine am_getr (c1 := 68) X 63 fl_X10_22 (by decide) sh_63 (by decide) (by rfl) dX10_has_43 ?_
        refine am_ic X (by decide) dX10_has_46 ?_
        refine am_aload_n (x := 63) X (by rfl) dX10_has_47 ?_
        refine am_getr (c1 := 72) X 63 fl_X10_34 (by decide) sh_63 (by decide) (by rfl) dX10_has_48 ?_
        refine am_ic X (by decide) dX10_has_51 ?_
        refine am_iload_n (x := r29) X (by rfl) dX10_has_52 ?_
        refine am_mul (v := (3 * r29)) X (by first | rfl | omega) (by omega) dX10_has_53 ?_
        refine am_ald (v := σ 72 (3 * r29.toNat)) X 72 (3 * r29.toNat) sh_72 (by omega) (by omega) (hf29 72 (3 * r29.toNat) (by decide) (Or.inl (by decide))) dX10_has_54 ?_
        refine am_mul (v := (5 * σ 72 (3 * r29.toNat))) X (by first | rfl | omega) (by omega) dX10_has_55 ?_
        refine am_ic X (by decide) dX10_has_56 ?_
        refine am_add (v := ((5 * σ 72 (3 * r29.toNat)) + 1)) X (by first | rfl | omega) (by omega) dX10_has_57 ?_
        refine am_ald (v := σ 68 (5 * (σ 72 (3 * r29.toNat)).toNat + 1)) X 68 (5 * (σ 72 (3 * r29.toNat)).toNat + 1) sh_68 (by omega) (by omega) (hf29 68 (5 * (σ 72 (3 * r29.toNat)).toNat + 1) (by decide) (Or.inl (by decide))) dX10_has_58 ?_
        exact hret _ _ _ _ _ dX10_has_59 rfl rfl (⟨rfl, hf29, by rw [if_pos (by omega), if_neg (by omega), ← hq29]⟩)
      · skip
        refine am_bipush X (by decide) dX10_has_37 ?_
        refine am_goto (tgt := 59) X dX10_has_39 (by decide) ?_
        exact hret _ _ _ _ _ dX10_has_59 rfl rfl (⟨rfl, hf29, by rw [if_pos (by omega), if_pos (by omega)]⟩)
    · skip
      refine am_ic X (by decide) dX10_has_24 ?_
      exact hret _ _ _ _ _ dX10_has_25 rfl rfl (⟨rfl, md_fr_rf σ, by rw [if_neg (by omega)]⟩)

set_option maxHeartbeats 4000000 in
set_option maxRecDepth 100000 in
theorem m_X10_bestDay (σ : am_H) (a b : Int) (k : Nat) (hka : a.toNat = k) (hp : 0 ≤ σ 63 6 ∧ σ 63 6 ≤ 8) (hc : 0 ≤ σ 63 7 ∧ σ 63 7 ≤ 20) (hd : ∀ n : Nat, (n : Int) < σ 63 7 → 0 ≤ σ 68 (5 * n + 2) ∧ σ 68 (5 * n + 2) ≤ 9) (hlaw : MLaw σ) (hski : MskV σ) (hdeb : MdeV σ) (hn : 0 ≤ σ 63 9 ∧ σ 63 9 ≤ 48) : am_Mi yX10_bestDay cX10_bestDay 7 (some .int) 46 0 0 [vr 63, vi a, vi b] SH σ (fun r sh' σ' => SH = sh' ∧ md_fr σ σ' ∧ r = (if (0 ≤ a ∧ a < σ 63 7) ∧ 0 ≤ b ∧ b ≤ 1 then (if 0 < σ 68 (5 * k + 2) then (if b = 0 then (bs_f (fun d => md_wv σ (σ 68 (5 * k)) (σ 68 (5 * k + 1)) d) (σ 63 9 + 3) (45 - σ 63 9).toNat).1 else (bs_f (fun d => md_wv σ (σ 68 (5 * k)) (σ 68 (5 * k + 1)) d) (σ 63 9 + 3) (45 - σ 63 9).toNat).2) else -5) else -1)) := by
  refine am_Mi_of (by decide +kernel) (Nat.le_of_ble_eq_true rfl) (fun K X hY hI hret => ?_)
  show am_G K 0 [some (vr 63), some (vi a), some (vi b), none, none, none, none] [] SH σ
  refine am_aload_n (x := 63) X (by rfl) dX10_bestDay_0 ?_
  refine am_iload_n (x := a) X (by rfl) dX10_bestDay_1 ?_
  refine am_callVi (ci := 9) X hY lk_X10_146 mf_X10_isDebt (m_X10_isDebt a σ hc) (by decide) (by decide) (Nat.le_refl _) (Nat.le_refl _) sh_63 rfl rfl rfl (Nat.le_of_ble_eq_true rfl) dX10_bestDay_2 (fun r2 sh2 σ2 hr2 hp2 => ?_)
  obtain ⟨rfl, rfl, hq2⟩ := hp2
  refine am_if_eq (tgt := 18) X dX10_bestDay_5 (by decide) (fun h5 => ?_) (fun h5 => ?_)
  · skip
    refine am_ic X (by decide) dX10_bestDay_18 ?_
    exact hret _ _ _ _ _ dX10_bestDay_19 rfl rfl (⟨rfl, md_fr_rf σ, by rw [if_neg (by omega)]⟩)
  · skip
    refine am_iload_n (x := b) X (by rfl) dX10_bestDay_8 ?_
    refine am_i2l X dX10_bestDay_9 ?_
    refine am_lc (v := 0) X (by rfl) dX10_bestDay_10 ?_
    refine am_lc (v := 1) X (by rfl) dX10_bestDay_11 ?_
    refine am_callSi X hY lk_X10_103 mf_X10_within (m_X10_within b 0 1 _ σ) (by decide) (by decide) (Nat.le_refl _) (Nat.le_refl _) rfl rfl (Nat.le_of_ble_eq_true rfl) dX10_bestDay_12 (fun r12 sh12 σ12 hr12 hp12 => ?_)
    obtain ⟨rfl, rfl, hq12⟩ := hp12
    refine am_if_ne (tgt := 20) X dX10_bestDay_15 (by decide) (fun h15 => ?_) (fun h15 => ?_)
    · skip
      refine am_aload_n (x := 63) X (by rfl) dX10_bestDay_20 ?_
      refine am_iload_n (x := a) X (by rfl) dX10_bestDay_21 ?_
      refine am_callVi (ci := 9) X hY lk_X10_240 mf_X10_isOpen (m_X10_isOpen a k (by omega) (by omega) σ) (by decide) (by decide) (Nat.le_refl _) (Nat.le_refl _) sh_63 rfl rfl rfl (Nat.le_of_ble_eq_true rfl) dX10_bestDay_22 (fun r22 sh22 σ22 hr22 hp22 => ?_)
      obtain ⟨rfl, rfl, hq22⟩ := hp22
      refine am_if_ne (tgt := 31) X dX10_bestDay_25 (by decide) (fun h25 => ?_) (fun h25 => ?_)
      · skip
        have hdb := hdeb k (by omega)
        refine am_bipush X (by decide) dX10_bestDay_31 ?_
        refine am_istore_n (i := 3) (L' := [some (vr 63), some (vi a), some (vi b), some (vi (-2)), none, none, none]) X rfl (Nat.le_of_ble_eq_true rfl) (by rfl) dX10_bestDay_33 ?_
        refine am_bipush X (by decide) dX10_bestDay_34 ?_
        refine am_istore (i := 4) (L' := [some (vr 63), some (vi a), some (vi b), some (vi (-2)), some (vi (-2)), none, none]) X (Nat.le_of_ble_eq_true rfl) (by rfl) dX10_bestDay_36 ?_
        refine am_aload_n (x := 63) X (by rfl) dX10_bestDay_38 ?_
        refine am_get (v := σ 63 9) X 63 fl_X10_231 (by decide) sh_63 (by decide) (rfl) dX10_bestDay_39 ?_
        refine am_ic X (by decide) dX10_bestDay_42 ?_
        refine am_add (v := (σ 63 9 + 3)) X (by first | rfl | omega) (by omega) dX10_bestDay_43 ?_
        refine am_istore (i := 5) (L' := [some (vr 63), some (vi a), some (vi b), some (vi (-2)), some (vi (-2)), some (vi (σ 63 9 + 3)), none]) X (Nat.le_of_ble_eq_true rfl) (by rfl) dX10_bestDay_44 ?_
        have hL46 : ∀ (m46 : Nat) (m : Nat) (τ : am_H) (be : Int) (mo : Int) (dv : Int) (hm : m ≤ (45 - σ 63 9).toNat) (hdv : σ 63 9 + 3 + (m : Int) = dv) (hfr : md_fr σ τ) (hbs : (be, mo) = bs_f (fun d => md_wv σ (σ 68 (5 * k)) (σ 68 (5 * k + 1)) d) (σ 63 9 + 3) m) (hm46 : (45 - σ 63 9).toNat - m = m46), am_G K 46 [some (vr 63), some (vi a), some (vi b), some (vi be), some (vi mo), some (vi dv), none] [] SH τ := by
          intro m46
          induction m46 using Nat.strongRecOn with
          | ind m46 ih46 =>
          intro m τ be mo dv hm hdv hfr hbs hm46
          have hb2 := bs_f_bd (W := fun d => md_wv σ (σ 68 (5 * k)) (σ 68 (5 * k + 1)) d) (d0 := σ 63 9 + 3) m
          rw [← hbs] at hb2
          have hb3 : -2 ≤ mo := hb2
          refine am_iload (x := dv) X (by rfl) dX10_bestDay_46 ?_
          refine am_bipush X (by decide) dX10_bestDay_48 ?_
          refine am_icmp_ge (tgt := 128) X dX10_bestDay_50 (by decide) (fun h50 => ?_) (fun h50 => ?_)
          · skip
            refine am_iload_n (x := b) X (by rfl) dX10_bestDay_128 ?_
            refine am_if_ne (tgt := 136) X dX10_bestDay_129 (by decide) (fun h129 => ?_) (fun h129 => ?_)
            · skip
              refine am_iload (x := mo) X (by rfl) dX10_bestDay_136 ?_
              exact hret _ _ _ _ _ dX10_bestDay_138 rfl rfl (⟨rfl, hfr, by rw [if_pos (by omega), if_pos (by omega), if_neg (by omega), show (45 - σ 63 9).toNat = m by omega, ← hbs]⟩)
            · skip
              refine am_iload_n (x := be) X (by rfl) dX10_bestDay_132 ?_
              refine am_goto (tgt := 138) X dX10_bestDay_133 (by decide) ?_
              exact hret _ _ _ _ _ dX10_bestDay_138 rfl rfl (⟨rfl, hfr, by rw [if_pos (by omega), if_pos (by omega), if_pos (by omega), show (45 - σ 63 9).toNat = m by omega, ← hbs]⟩)
          · skip
            refine am_iload (x := dv) X (by rfl) dX10_bestDay_53 ?_
            refine am_callSi X hY lk_X10_234 mf_X10_isHoly (m_X10_isHoly dv (by omega) _ τ) (by decide) (by decide) (Nat.le_refl _) (Nat.le_refl _) rfl rfl (Nat.le_of_ble_eq_true rfl) dX10_bestDay_55 (fun r55 sh55 σ55 hr55 hp55 => ?_)
            obtain ⟨rfl, rfl, hq55⟩ := hp55
            refine am_if_eq (tgt := 66) X dX10_bestDay_58 (by decide) (fun h58 => ?_) (fun h58 => ?_)
            · skip
              refine am_aload_n (x := 63) X (by rfl) dX10_bestDay_66 ?_
              refine am_aload_n (x := 63) X (by rfl) dX10_bestDay_67 ?_
              refine am_getr (c1 := 68) X 63 fl_X10_22 (by decide) sh_63 (by decide) (by rfl) dX10_bestDay_68 ?_
              refine am_ic X (by decide) dX10_bestDay_71 ?_
              refine am_iload_n (x := a) X (by rfl) dX10_bestDay_72 ?_
              refine am_mul (v := (5 * a)) X (by first | rfl | omega) (by omega) dX10_bestDay_73 ?_
              refine am_ald (v := σ 68 (5 * k)) X 68 (5 * k) sh_68 (by omega) (by omega) (hfr 68 (5 * k) (by decide) (Or.inl (by decide))) dX10_bestDay_74 ?_
              refine am_aload_n (x := 63) X (by rfl) dX10_bestDay_75 ?_
              refine am_getr (c1 := 68) X 63 fl_X10_22 (by decide) sh_63 (by decide) (by rfl) dX10_bestDay_76 ?_
              refine am_ic X (by decide) dX10_bestDay_79 ?_
              refine am_iload_n (x := a) X (by rfl) dX10_bestDay_80 ?_
              refine am_mul (v := (5 * a)) X (by first | rfl | omega) (by omega) dX10_bestDay_81 ?_
              refine am_ic X (by decide) dX10_bestDay_82 ?_
              refine am_add (v := ((5 * a) + 1)) X (by first | rfl | omega) (by omega) dX10_bestDay_83 ?_
              refine am_ald (v := σ 68 (5 * k + 1)) X 68 (5 * k + 1) sh_68 (by omega) (by omega) (hfr 68 (5 * k + 1) (by decide) (Or.inl (by decide))) dX10_bestDay_84 ?_
              refine am_iload (x := dv) X (by rfl) dX10_bestDay_85 ?_
              refine am_callVi (ci := 9) X hY lk_X10_227 mf_X10_worthOf (m_X10_worthOf (σ 68 (5 * k)) (σ 68 (5 * k + 1)) dv (dv / 4).toNat (σ 68 (5 * k)).toNat rfl (by omega) (by omega) τ ((md_lw_fr hfr).2 hlaw) (by rw [hfr 64 _ (by decide) (Or.inl (by decide)), hfr 64 _ (by decide) (Or.inl (by decide))]; have h1 := hski.1 (dv / 4).toNat (by omega); have h2 := hski.2 (σ 68 (5 * k)).toNat (by omega); omega)) (by decide) (by decide) (Nat.le_refl _) (Nat.le_refl _) sh_63 rfl rfl rfl (Nat.le_of_ble_eq_true rfl) dX10_bestDay_87 (fun r87 sh87 σ87 hr87 hp87 => ?_)
              obtain ⟨rfl, hf87, hq87⟩ := hp87
              have hg87 := md_fr_tr hfr hf87
              rw [md_wv_fr hfr] at hq87
              refine am_istore (i := 6) (L' := [some (vr 63), some (vi a), some (vi b), some (vi be), some (vi mo), some (vi dv), some (vi r87)]) X (Nat.le_of_ble_eq_true rfl) (by rfl) dX10_bestDay_90 ?_
              refine am_iload (x := r87) X (by rfl) dX10_bestDay_92 ?_
              refine am_iload (x := mo) X (by rfl) dX10_bestDay_94 ?_
              refine am_icmp_le (tgt := 104) X dX10_bestDay_96 (by decide) (fun h96 => ?_) (fun h96 => ?_)
              · skip
                refine am_iload_n (x := be) X (by rfl) dX10_bestDay_104 ?_
                refine am_istore_n (i := 3) (L' := [some (vr 63), some (vi a), some (vi b), some (vi be), some (vi mo), some (vi dv), some (vi r87)]) X rfl (Nat.le_of_ble_eq_true rfl) (by rfl) dX10_bestDay_105 ?_
                refine am_iload (x := r87) X (by rfl) dX10_bestDay_106 ?_
                refine am_iload (x := mo) X (by rfl) dX10_bestDay_108 ?_
                refine am_icmp_le (tgt := 118) X dX10_bestDay_110 (by decide) (fun h110 => ?_) (fun h110 => ?_)
                · skip
                  refine am_iload (x := mo) X (by rfl) dX10_bestDay_118 ?_
                  refine am_istore (i := 4) (L' := [some (vr 63), some (vi a), some (vi b), some (vi be), some (vi mo), some (vi dv), some (vi r87)]) X (Nat.le_of_ble_eq_true rfl) (by rfl) dX10_bestDay_120 ?_
                  refine am_inc (x := dv) (v := (dv + 1)) (L' := [some (vr 63), some (vi a), some (vi b), some (vi be), some (vi mo), some (vi (dv + 1)), some (vi r87)]) X (by rfl) (by omega) (by omega) (by rfl) dX10_bestDay_122 ?_
                  refine am_goto (tgt := 46) X dX10_bestDay_125 (by decide) ?_
                  refine am_fg [true, true, true, true, true, true, false] rfl (L' := [some (vr 63), some (vi a), some (vi b), some (vi be), some (vi mo), some (vi (dv + 1)), none]) rfl ?_
                  exact ih46 _ (by omega) (m + 1) σ87 be mo (dv + 1) (by omega) (by omega) (hg87) (by rw [bs_f_s, ← hbs, hdv]; exact (if_neg (fun q => by have q2 : mo < md_wv σ (σ 68 (5 * k)) (σ 68 (5 * k + 1)) dv := q.2; omega)).symm) rfl
                · skip
                  (exfalso; omega)
              · skip
                refine am_iload (x := dv) X (by rfl) dX10_bestDay_99 ?_
                refine am_goto (tgt := 105) X dX10_bestDay_101 (by decide) ?_
                refine am_istore_n (i := 3) (L' := [some (vr 63), some (vi a), some (vi b), some (vi dv), some (vi mo), some (vi dv), some (vi r87)]) X rfl (Nat.le_of_ble_eq_true rfl) (by rfl) dX10_bestDay_105 ?_
                refine am_iload (x := r87) X (by rfl) dX10_bestDay_106 ?_
                refine am_iload (x := mo) X (by rfl) dX10_bestDay_108 ?_
                refine am_icmp_le (tgt := 118) X dX10_bestDay_110 (by decide) (fun h110 => ?_) (fun h110 => ?_)
                · skip
                  (exfalso; omega)
                · skip
                  refine am_iload (x := r87) X (by rfl) dX10_bestDay_113 ?_
                  refine am_goto (tgt := 120) X dX10_bestDay_115 (by decide) ?_
                  refine am_istore (i := 4) (L' := [some (vr 63), some (vi a), some (vi b), some (vi dv), some (vi r87), some (vi dv), some (vi r87)]) X (Nat.le_of_ble_eq_true rfl) (by rfl) dX10_bestDay_120 ?_
                  refine am_inc (x := dv) (v := (dv + 1)) (L' := [some (vr 63), some (vi a), some (vi b), some (vi dv), some (vi r87), some (vi (dv + 1)), some (vi r87)]) X (by rfl) (by omega) (by omega) (by rfl) dX10_bestDay_122 ?_
                  refine am_goto (tgt := 46) X dX10_bestDay_125 (by decide) ?_
                  refine am_fg [true, true, true, true, true, true, false] rfl (L' := [some (vr 63), some (vi a), some (vi b), some (vi dv), some (vi r87), some (vi (dv + 1)), none]) rfl ?_
                  exact ih46 _ (by omega) (m + 1) σ87 dv r87 (dv + 1) (by omega) (by omega) (hg87) (by rw [bs_f_s, ← hbs, hdv]; rw [hq87]; exact (if_pos ⟨by omega, by show mo < md_wv σ (σ 68 (5 * k)) (σ 68 (5 * k + 1)) dv; omega⟩).symm) rfl
            · skip
              refine am_bipush X (by decide) dX10_bestDay_61 ?_
              refine am_goto (tgt := 90) X dX10_bestDay_63 (by decide) ?_
              refine am_istore (i := 6) (L' := [some (vr 63), some (vi a), some (vi b), some (vi be), some (vi mo), some (vi dv), some (vi (-2))]) X (Nat.le_of_ble_eq_true rfl) (by rfl) dX10_bestDay_90 ?_
              refine am_iload (x := -2) X (by rfl) dX10_bestDay_92 ?_
              refine am_iload (x := mo) X (by rfl) dX10_bestDay_94 ?_
              refine am_icmp_le (tgt := 104) X dX10_bestDay_96 (by decide) (fun h96 => ?_) (fun h96 => ?_)
              · skip
                refine am_iload_n (x := be) X (by rfl) dX10_bestDay_104 ?_
                refine am_istore_n (i := 3) (L' := [some (vr 63), some (vi a), some (vi b), some (vi be), some (vi mo), some (vi dv), some (vi (-2))]) X rfl (Nat.le_of_ble_eq_true rfl) (by rfl) dX10_bestDay_105 ?_
                refine am_iload (x := -2) X (by rfl) dX10_bestDay_106 ?_
                refine am_iload (x := mo) X (by rfl) dX10_bestDay_108 ?_
                refine am_icmp_le (tgt := 118) X dX10_bestDay_110 (by decide) (fun h110 => ?_) (fun h110 => ?_)
                · skip
                  refine am_iload (x := mo) X (by rfl) dX10_bestDay_118 ?_
                  refine am_istore (i := 4) (L' := [some (vr 63), some (vi a), some (vi b), some (vi be), some (vi mo), some (vi dv), some (vi (-2))]) X (Nat.le_of_ble_eq_true rfl) (by rfl) dX10_bestDay_120 ?_
                  refine am_inc (x := dv) (v := (dv + 1)) (L' := [some (vr 63), some (vi a), some (vi b), some (vi be), some (vi mo), some (vi (dv + 1)), some (vi (-2))]) X (by rfl) (by omega) (by omega) (by rfl) dX10_bestDay_122 ?_
                  refine am_goto (tgt := 46) X dX10_bestDay_125 (by decide) ?_
                  refine am_fg [true, true, true, true, true, true, false] rfl (L' := [some (vr 63), some (vi a), some (vi b), some (vi be), some (vi mo), some (vi (dv + 1)), none]) rfl ?_
                  exact ih46 _ (by omega) (m + 1) τ be mo (dv + 1) (by omega) (by omega) (hfr) (by rw [bs_f_s, ← hbs, hdv]; exact (if_neg (by omega)).symm) rfl
                · skip
                  (exfalso; omega)
              · skip
                (exfalso; omega)
        exact hL46 _ 0 σ (-2) (-2) (σ 63 9 + 3) (by omega) (by omega) (md_fr_rf σ) (rfl) rfl
      · skip
        refine am_bipush X (by decide) dX10_bestDay_28 ?_
        exact hret _ _ _ _ _ dX10_bestDay_30 rfl rfl (⟨rfl, md_fr_rf σ, by rw [if_pos (by omega), if_neg (by omega)]⟩)
    · skip
      refine am_ic X (by decide) dX10_bestDay_18 ?_
      exact hret _ _ _ _ _ dX10_bestDay_19 rfl rfl (⟨rfl, md_fr_rf σ, by rw [if_neg (by omega)]⟩)
