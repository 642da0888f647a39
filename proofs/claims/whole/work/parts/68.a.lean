set_option maxHeartbeats 4000000 in
set_option maxRecDepth 100000 in
theorem m_X10_worksOff (σ : am_H) (a b : Int) (k : Nat) (ha : a = k) (hk : k < 20) (hb : 0 ≤ b ∧ b ≤ 47) (hd : 1 ≤ σ 68 (5 * k + 2) ∧ σ 68 (5 * k + 2) ≤ 9) (hkd : 0 ≤ σ 68 (5 * k + 3) ∧ σ 68 (5 * k + 3) ≤ 12) : am_Mv yX10_worksOff cX10_worksOff 4 none 1 0 0 [vr 63, vi a, vi b] SH σ (fun sh' σ' => SH = sh' ∧ (md_off σ k b) = σ' ∧ True) := by
  refine am_Mv_of (by decide +kernel) (Nat.le_of_ble_eq_true rfl) (fun K X hY hI hret => ?_)
  show am_G K 0 [some (vr 63), some (vi a), some (vi b), none] [] SH σ
  refine am_aload_n (x := 63) X (by rfl) dX10_worksOff_0 ?_
  refine am_getr (c1 := 68) X 63 fl_X10_22 (by decide) sh_63 (by decide) (by rfl) dX10_worksOff_1 ?_
  refine am_ic X (by decide) dX10_worksOff_4 ?_
  refine am_iload_n (x := a) X (by rfl) dX10_worksOff_5 ?_
  refine am_mul (v := (5 * a)) X (by first | rfl | omega) (by omega) dX10_worksOff_6 ?_
  refine am_ic X (by decide) dX10_worksOff_7 ?_
  refine am_add (v := ((5 * a) + 3)) X (by first | rfl | omega) (by omega) dX10_worksOff_8 ?_
  refine am_ald (v := σ 68 (5 * k + 3)) X 68 (5 * k + 3) sh_68 (by omega) (by omega) (rfl) dX10_worksOff_9 ?_
  refine am_istore_n (i := 3) (L' := [some (vr 63), some (vi a), some (vi b), some (vi (σ 68 (5 * k + 3)))]) X rfl (Nat.le_of_ble_eq_true rfl) (by rfl) dX10_worksOff_10 ?_
  refine am_iload_n (x := σ 68 (5 * k + 3)) X (by rfl) dX10_worksOff_11 ?_
  refine am_bipush X (by decide) dX10_worksOff_12 ?_
  refine am_icmp_eq (tgt := 34) X dX10_worksOff_14 (by decide) (fun h14 => ?_) (fun h14 => ?_)
  · skip
    refine am_aload_n (x := 63) X (by rfl) dX10_worksOff_34 ?_
    refine am_iload_n (x := a) X (by rfl) dX10_worksOff_35 ?_
    refine am_ic X (by decide) dX10_worksOff_36 ?_
    refine am_callVv (ci := 9) X hY lk_X10_249 mf_X10_loses (m_X10_loses a k ha hk 1 σ (by omega)) (by decide) (by decide) (Nat.le_refl _) (Nat.le_refl _) sh_63 rfl rfl rfl (Nat.le_of_ble_eq_true rfl) dX10_worksOff_37 (fun sh37 σ37 hp37 => ?_)
    obtain ⟨rfl, rfl, hq37⟩ := hp37
    refine am_goto (tgt := 88) X dX10_worksOff_40 (by decide) ?_
    exact hret _ _ _ _ dX10_worksOff_88 rfl rfl (by refine ⟨rfl, ?_, trivial⟩; unfold md_off; first | (rw [if_pos (show md_wh σ k b by unfold md_wh; omega)]; done) | (rw [if_neg (show ¬ md_wh σ k b by unfold md_wh; omega)]; first | (rw [if_pos (by omega)]; done) | (rw [if_neg (by omega)]; done)))
  · skip
    refine am_aload_n (x := 63) X (by rfl) dX10_worksOff_17 ?_
    refine am_getr (c1 := 64) X 63 fl_X10_9 (by decide) sh_63 (by decide) (by rfl) dX10_worksOff_18 ?_
    refine am_iload_n (x := σ 68 (5 * k + 3)) X (by rfl) dX10_worksOff_21 ?_
    refine am_ald (v := σ 64 ((σ 68 (5 * k + 3)).toNat)) X 64 ((σ 68 (5 * k + 3)).toNat) sh_64 (by omega) (by omega) (rfl) dX10_worksOff_22 ?_
    refine am_aload_n (x := 63) X (by rfl) dX10_worksOff_23 ?_
    refine am_getr (c1 := 64) X 63 fl_X10_9 (by decide) sh_63 (by decide) (by rfl) dX10_worksOff_24 ?_
    refine am_iload_n (x := b) X (by rfl) dX10_worksOff_27 ?_
    refine am_ic X (by decide) dX10_worksOff_28 ?_
    refine am_div (v := (b / 4)) X (by omega) (by omega) rfl dX10_worksOff_29 ?_
    refine am_ald (v := σ 64 ((b / 4).toNat)) X 64 ((b / 4).toNat) sh_64 (by omega) (by omega) (rfl) dX10_worksOff_30 ?_
    refine am_icmp_gt (tgt := 43) X dX10_worksOff_31 (by decide) (fun h31 => ?_) (fun h31 => ?_)
    · skip
      refine am_aload_n (x := 63) X (by rfl) dX10_worksOff_43 ?_
      refine am_getr (c1 := 68) X 63 fl_X10_22 (by decide) sh_63 (by decide) (by rfl) dX10_worksOff_44 ?_
      refine am_ic X (by decide) dX10_worksOff_47 ?_
      refine am_iload_n (x := a) X (by rfl) dX10_worksOff_48 ?_
      refine am_mul (v := (5 * a)) X (by first | rfl | omega) (by omega) dX10_worksOff_49 ?_
      refine am_ic X (by decide) dX10_worksOff_50 ?_
      refine am_add (v := ((5 * a) + 4)) X (by first | rfl | omega) (by omega) dX10_worksOff_51 ?_
      refine am_ald (v := σ 68 (5 * k + 4)) X 68 (5 * k + 4) sh_68 (by omega) (by omega) (rfl) dX10_worksOff_52 ?_
      refine am_ic X (by decide) dX10_worksOff_53 ?_
      refine am_icmp_ne (tgt := 77) X dX10_worksOff_54 (by decide) (fun h54 => ?_) (fun h54 => ?_)
      · skip
        refine am_aload_n (x := 63) X (by rfl) dX10_worksOff_77 ?_
        refine am_getr (c1 := 68) X 63 fl_X10_22 (by decide) sh_63 (by decide) (by rfl) dX10_worksOff_78 ?_
        refine am_ic X (by decide) dX10_worksOff_81 ?_
        refine am_iload_n (x := a) X (by rfl) dX10_worksOff_82 ?_
        refine am_mul (v := (5 * a)) X (by first | rfl | omega) (by omega) dX10_worksOff_83 ?_
        refine am_ic X (by decide) dX10_worksOff_84 ?_
        refine am_add (v := ((5 * a) + 4)) X (by first | rfl | omega) (by omega) dX10_worksOff_85 ?_
        refine am_ic X (by decide) dX10_worksOff_86 ?_
        refine am_ast X 68 (5 * k + 4) sh_68 (by omega) (by omega) dX10_worksOff_87 ?_
        exact hret _ _ _ _ dX10_worksOff_88 rfl rfl (by refine ⟨rfl, ?_, trivial⟩; unfold md_off; first | (rw [if_pos (show md_wh σ k b by unfold md_wh; omega)]; done) | (rw [if_neg (show ¬ md_wh σ k b by unfold md_wh; omega)]; first | (rw [if_pos (by omega)]; done) | (rw [if_neg (by omega)]; done)))
      · skip
        refine am_aload_n (x := 63) X (by rfl) dX10_worksOff_57 ?_
        refine am_getr (c1 := 68) X 63 fl_X10_22 (by decide) sh_63 (by decide) (by rfl) dX10_worksOff_58 ?_
        refine am_ic X (by decide) dX10_worksOff_61 ?_
        refine am_iload_n (x := a) X (by rfl) dX10_worksOff_62 ?_
        refine am_mul (v := (5 * a)) X (by first | rfl | omega) (by omega) dX10_worksOff_63 ?_
        refine am_ic X (by decide) dX10_worksOff_64 ?_
        refine am_add (v := ((5 * a) + 4)) X (by first | rfl | omega) (by omega) dX10_worksOff_65 ?_
        refine am_ic X (by decide) dX10_worksOff_66 ?_
        refine am_ast X 68 (5 * k + 4) sh_68 (by omega) (by omega) dX10_worksOff_67 ?_
        refine am_aload_n (x := 63) X (by rfl) dX10_worksOff_68 ?_
        refine am_iload_n (x := a) X (by rfl) dX10_worksOff_69 ?_
        refine am_ic X (by decide) dX10_worksOff_70 ?_
        refine am_callVv (ci := 9) X hY lk_X10_249 mf_X10_loses (m_X10_loses a k ha hk 1 (am_up σ 68 (5 * k + 4) 0) (by rw [am_up_k (by omega)]; omega)) (by decide) (by decide) (Nat.le_refl _) (Nat.le_refl _) sh_63 rfl rfl rfl (Nat.le_of_ble_eq_true rfl) dX10_worksOff_71 (fun sh71 σ71 hp71 => ?_)
        obtain ⟨rfl, rfl, hq71⟩ := hp71
        refine am_goto (tgt := 88) X dX10_worksOff_74 (by decide) ?_
        exact hret _ _ _ _ dX10_worksOff_88 rfl rfl (by refine ⟨rfl, ?_, trivial⟩; unfold md_off; first | (rw [if_pos (show md_wh σ k b by unfold md_wh; omega)]; done) | (rw [if_neg (show ¬ md_wh σ k b by unfold md_wh; omega)]; first | (rw [if_pos (by omega)]; done) | (rw [if_neg (by omega)]; done)))
    · skip
      refine am_aload_n (x := 63) X (by rfl) dX10_worksOff_34 ?_
      refine am_iload_n (x := a) X (by rfl) dX10_worksOff_35 ?_
      refine am_ic X (by decide) dX10_worksOff_36 ?_
      refine am_callVv (ci := 9) X hY lk_X10_249 mf_X10_loses (m_X10_loses a k ha hk 1 σ (by omega)) (by decide) (by decide) (Nat.le_refl _) (Nat.le_refl _) sh_63 rfl rfl rfl (Nat.le_of_ble_eq_true rfl) dX10_worksOff_37 (fun sh37 σ37 hp37 => ?_)
      obtain ⟨rfl, rfl, hq37⟩ := hp37
      refine am_goto (tgt := 88) X dX10_worksOff_40 (by decide) ?_
      exact hret _ _ _ _ dX10_worksOff_88 rfl rfl (by refine ⟨rfl, ?_, trivial⟩; unfold md_off; first | (rw [if_pos (show md_wh σ k b by unfold md_wh; omega)]; done) | (rw [if_neg (show ¬ md_wh σ k b by unfold md_wh; omega)]; first | (rw [if_pos (by omega)]; done) | (rw [if_neg (by omega)]; done)))

set_option maxHeartbeats 4000000 in
set_option maxRecDepth 100000 in
theorem m_X10_dayGoes (σ : am_H) (hg : MGo σ) (hn : 0 ≤ σ 63 9 ∧ σ 63 9 ≤ 47) : am_Mi yX10_dayGoes cX10_dayGoes 8 (some .int) 48 0 0 [vr 63] SH σ (fun r sh' σ' => SH = sh' ∧ r = (md_day σ).1 ∧ md_fr (md_day σ).2 σ') := by
  refine am_Mi_of (by decide +kernel) (Nat.le_of_ble_eq_true rfl) (fun K X hY hI hret => ?_)
  show am_G K 0 [some (vr 63), none, none, none, none, none, none, none] [] SH σ
  refine am_ic X (by decide) dX10_dayGoes_0 ?_
  refine am_istore_n (i := 1) (L' := [some (vr 63), some (vi 0), none, none, none, none, none, none]) X rfl (Nat.le_of_ble_eq_true rfl) (by rfl) dX10_dayGoes_1 ?_
  refine am_ic X (by decide) dX10_dayGoes_2 ?_
  refine am_istore_n (i := 2) (L' := [some (vr 63), some (vi 0), some (vi 0), none, none, none, none, none]) X rfl (Nat.le_of_ble_eq_true rfl) (by rfl) dX10_dayGoes_3 ?_
  have hL4 : ∀ (m4 : Nat) (p : Nat) (w2 : Int) (υ2 : am_H) (τ2 : am_H) (hpn : (p : Int) ≤ σ 63 6) (hin : (w2, υ2) = am_it md_pp p (0, σ)) (hfr2 : md_fr υ2 τ2) (hg2 : MGo υ2) (h63 : ∀ k, k ≠ 25 → υ2 63 k = σ 63 k) (hw2 : 0 ≤ w2 ∧ w2 ≤ (p : Int)) (hm4 : 8 - p = m4), am_G K 4 [some (vr 63), some (vi w2), some (vi (p : Int)), none, none, none, none, none] [] SH τ2 := by
    intro m4
    induction m4 using Nat.strongRecOn with
    | ind m4 ih4 =>
    intro p w2 υ2 τ2 hpn hin hfr2 hg2 h63 hw2 hm4
    have hpz := hg2.1
    have haz := hg2.2.2.2.2.2.2.1
    have h9 := h63 9 (by decide)
    have h6 := h63 6 (by decide)
    have h20 := h63 20 (by decide)
    obtain ⟨υz, hυz⟩ : ∃ υz, md_zz υ2 = υz := ⟨_, rfl⟩
    have hgz : MGo υz := by rw [← hυz]; exact MGo_zz hg2 _
    have hz9 : υz 63 9 = υ2 63 9 := by rw [← hυz]; exact am_up_k (by omega)
    have hz6 : υz 63 6 = υ2 63 6 := by rw [← hυz]; exact am_up_k (by omega)
    obtain ⟨kk, hkk⟩ : ∃ kk : Nat, (8 * υz 63 9 + (p : Int)).toNat = kk := ⟨_, rfl⟩
    refine am_iload_n (x := (p : Int)) X (by rfl) dX10_dayGoes_4 ?_
    refine am_aload_n (x := 63) X (by rfl) dX10_dayGoes_5 ?_
    refine am_get (v := υ2 63 6) X 63 fl_X10_100 (by decide) sh_63 (by decide) (hfr2 63 6 (by decide) (by decide)) dX10_dayGoes_6 ?_
    refine am_icmp_ge (tgt := 199) X dX10_dayGoes_9 (by decide) (fun h9 => ?_) (fun h9 => ?_)
    · skip
      obtain ⟨i0, hi0⟩ : ∃ i0 : Nat, (8 * υ2 63 9 + υ2 63 6).toNat = i0 := ⟨_, rfl⟩
      have hi02 : i0 = (8 * τ2 63 9 + τ2 63 6).toNat := by rw [hfr2 63 9 (by decide) (by decide), hfr2 63 6 (by decide) (by decide)]; exact hi0.symm
      refine am_aload_n (x := 63) X (by rfl) dX10_dayGoes_199 ?_
      refine am_get (v := υ2 63 6) X 63 fl_X10_100 (by decide) sh_63 (by decide) (hfr2 63 6 (by decide) (by decide)) dX10_dayGoes_200 ?_
      refine am_istore_n (i := 2) (L' := [some (vr 63), some (vi w2), some (vi (υ2 63 6)), none, none, none, none, none]) X rfl (Nat.le_of_ble_eq_true rfl) (by rfl) dX10_dayGoes_203 ?_
      have hL204 : ∀ (m204 : Nat) (m : Nat) (pv : Int) (hpv : pv = υ2 63 6 + (m : Int)) (hm8 : pv ≤ 8) (hm204 : 8 - m = m204), am_G K 204 [some (vr 63), some (vi w2), some (vi pv), none, none, none, none, none] [] SH (md_rest τ2 m) := by
        intro m204
        induction m204 using Nat.strongRecOn with
        | ind m204 ih204 =>
        intro m pv hpv hm8 hm204
        refine am_iload_n (x := pv) X (by rfl) dX10_dayGoes_204 ?_
        refine am_bipush X (by decide) dX10_dayGoes_205 ?_
        refine am_icmp_ge (tgt := 248) X dX10_dayGoes_207 (by decide) (fun h207 => ?_) (fun h207 => ?_)
        · skip
          refine am_ic X (by decide) dX10_dayGoes_248 ?_
          refine am_istore_n (i := 2) (L' := [some (vr 63), some (vi w2), some (vi 0), none, none, none, none, none]) X rfl (Nat.le_of_ble_eq_true rfl) (by rfl) dX10_dayGoes_249 ?_
          have hL250 : ∀ (m250 : Nat) (k : Nat) (hk : (k : Int) ≤ υ2 63 20) (hm250 : 30 - k = m250), am_G K 250 [some (vr 63), some (vi w2), some (vi (k : Int)), none, none, none, none, none] [] SH (md_dn (md_rest τ2 m) k) := by
            intro m250
            induction m250 using Nat.strongRecOn with
            | ind m250 ih250 =>
            intro k hk hm250
            have hR20 : md_rest τ2 m 63 20 = υ2 63 20 := (md_rest_at (by decide)).trans (hfr2 63 20 (by decide) (by decide))
            refine am_iload_n (x := (k : Int)) X (by rfl) dX10_dayGoes_250 ?_
            refine am_aload_n (x := 63) X (by rfl) dX10_dayGoes_251 ?_
            refine am_get (v := (md_rest τ2 m) 63 20) X 63 fl_X10_161 (by decide) sh_63 (by decide) (md_dn_at (by decide)) dX10_dayGoes_252 ?_
            refine am_icmp_ge (tgt := 305) X dX10_dayGoes_255 (by decide) (fun h255 => ?_) (fun h255 => ?_)
            · skip
              have hR9 : md_rest τ2 m 63 9 = υ2 63 9 := (md_rest_at (by decide)).trans (hfr2 63 9 (by decide) (by decide))
              refine am_aload_n (x := 63) X (by rfl) dX10_dayGoes_305 ?_
              refine am_dup X (Nat.ne_of_beq_eq_false rfl) dX10_dayGoes_306 ?_
              refine am_get (v := (md_rest τ2 m) 63 9) X 63 fl_X10_231 (by decide) sh_63 (by decide) (md_dn_at (by decide)) dX10_dayGoes_307 ?_
              refine am_ic X (by decide) dX10_dayGoes_310 ?_
              refine am_add (v := ((md_rest τ2 m) 63 9 + 1)) X (by first | rfl | omega) (by omega) dX10_dayGoes_311 ?_
              refine am_puti X 63 fl_X10_231 rfl rfl sh_63 (by decide) dX10_dayGoes_312 ?_
              refine am_iload_n (x := w2) X (by rfl) dX10_dayGoes_315 ?_
              exact hret _ _ _ _ _ dX10_dayGoes_316 rfl rfl (⟨rfl, by unfold md_day; rw [show (σ 63 6).toNat = p by omega, ← hin], by unfold md_day; rw [show (σ 63 6).toNat = p by omega, ← hin]; show md_fr (md_end υ2) _; unfold md_end; rw [show (8 - υ2 63 6).toNat = m by omega, show (υ2 63 20).toNat = k by omega]; exact md_fr_up (md_dn_fr (md_rest_fr hfr2 m) k) (by omega)⟩)
            · skip
              have hR9 : md_rest τ2 m 63 9 = υ2 63 9 := (md_rest_at (by decide)).trans (hfr2 63 9 (by decide) (by decide))
              refine am_aload_n (x := 63) X (by rfl) dX10_dayGoes_258 ?_
              refine am_getr (c1 := 72) X 63 fl_X10_34 (by decide) sh_63 (by decide) (by rfl) dX10_dayGoes_259 ?_
              refine am_ic X (by decide) dX10_dayGoes_262 ?_
              refine am_iload_n (x := (k : Int)) X (by rfl) dX10_dayGoes_263 ?_
              refine am_mul (v := (3 * (k : Int))) X (by first | rfl | omega) (by omega) dX10_dayGoes_264 ?_
              refine am_ic X (by decide) dX10_dayGoes_265 ?_
              refine am_add (v := ((3 * (k : Int)) + 2)) X (by first | rfl | omega) (by omega) dX10_dayGoes_266 ?_
              refine am_aload_n (x := 63) X (by rfl) dX10_dayGoes_267 ?_
              refine am_getr (c1 := 72) X 63 fl_X10_34 (by decide) sh_63 (by decide) (by rfl) dX10_dayGoes_268 ?_
              refine am_ic X (by decide) dX10_dayGoes_271 ?_
              refine am_iload_n (x := (k : Int)) X (by rfl) dX10_dayGoes_272 ?_
              refine am_mul (v := (3 * (k : Int))) X (by first | rfl | omega) (by omega) dX10_dayGoes_273 ?_
              refine am_ic X (by decide) dX10_dayGoes_274 ?_
              refine am_add (v := ((3 * (k : Int)) + 1)) X (by first | rfl | omega) (by omega) dX10_dayGoes_275 ?_
              refine am_ald (v := (md_rest τ2 m) 72 (3 * k + 1)) X 72 (3 * k + 1) sh_72 (by omega) (by omega) (md_dn_at (by omega)) dX10_dayGoes_276 ?_
              refine am_aload_n (x := 63) X (by rfl) dX10_dayGoes_277 ?_
              refine am_get (v := (md_rest τ2 m) 63 9) X 63 fl_X10_231 (by decide) sh_63 (by decide) (md_dn_at (by decide)) dX10_dayGoes_278 ?_
              refine am_icmp_ne (tgt := 288) X dX10_dayGoes_281 (by decide) (fun h281 => ?_) (fun h281 => ?_)
              · skip
                refine am_aload_n (x := 63) X (by rfl) dX10_dayGoes_288 ?_
                refine am_getr (c1 := 72) X 63 fl_X10_34 (by decide) sh_63 (by decide) (by rfl) dX10_dayGoes_289 ?_
                refine am_ic X (by decide) dX10_dayGoes_292 ?_
                refine am_iload_n (x := (k : Int)) X (by rfl) dX10_dayGoes_293 ?_
                refine am_mul (v := (3 * (k : Int))) X (by first | rfl | omega) (by omega) dX10_dayGoes_294 ?_
                refine am_ic X (by decide) dX10_dayGoes_295 ?_
                refine am_add (v := ((3 * (k : Int)) + 2)) X (by first | rfl | omega) (by omega) dX10_dayGoes_296 ?_
                refine am_ald (v := (md_rest τ2 m) 72 (3 * k + 2)) X 72 (3 * k + 2) sh_72 (by omega) (by omega) (md_dn_at2) dX10_dayGoes_297 ?_
                refine am_ast X 72 (3 * k + 2) sh_72 (by omega) (by omega) dX10_dayGoes_298 ?_
                refine am_inc (x := (k : Int)) (v := ((k : Int) + 1)) (L' := [some (vr 63), some (vi w2), some (vi ((k : Int) + 1)), none, none, none, none, none]) X (by rfl) (by omega) (by omega) (by rfl) dX10_dayGoes_299 ?_
                refine am_goto (tgt := 250) X dX10_dayGoes_302 (by decide) ?_
                refine am_sg (md_dn (md_rest τ2 m) (k + 1)) (md_dn_s0 (by omega)) ?_
                exact ih250 _ (by omega) (k + 1) (by omega) rfl
              · skip
                refine am_ic X (by decide) dX10_dayGoes_284 ?_
                refine am_goto (tgt := 298) X dX10_dayGoes_285 (by decide) ?_
                refine am_ast X 72 (3 * k + 2) sh_72 (by omega) (by omega) dX10_dayGoes_298 ?_
                refine am_inc (x := (k : Int)) (v := ((k : Int) + 1)) (L' := [some (vr 63), some (vi w2), some (vi ((k : Int) + 1)), none, none, none, none, none]) X (by rfl) (by omega) (by omega) (by rfl) dX10_dayGoes_299 ?_
                refine am_goto (tgt := 250) X dX10_dayGoes_302 (by decide) ?_
                refine am_sg (md_dn (md_rest τ2 m) (k + 1)) (md_dn_s1 (by omega)) ?_
                exact ih250 _ (by omega) (k + 1) (by omega) rfl
          refine am_sg (md_dn (md_rest τ2 m) 0) ((md_dn_0 _).symm) ?_
          exact hL250 _ 0 (by omega) rfl
        · skip
          refine am_aload_n (x := 63) X (by rfl) dX10_dayGoes_210 ?_
          refine am_getr (c1 := 74) X 63 fl_X10_40 (by decide) sh_63 (by decide) (by rfl) dX10_dayGoes_211 ?_
          refine am_bipush X (by decide) dX10_dayGoes_214 ?_
          refine am_aload_n (x := 63) X (by rfl) dX10_dayGoes_216 ?_
          refine am_get (v := υ2 63 9) X 63 fl_X10_231 (by decide) sh_63 (by decide) ((md_rest_at (by decide)).trans (hfr2 63 9 (by decide) (by decide))) dX10_dayGoes_217 ?_
          refine am_mul (v := (8 * υ2 63 9)) X (by first | rfl | omega) (by omega) dX10_dayGoes_220 ?_
          refine am_iload_n (x := pv) X (by rfl) dX10_dayGoes_221 ?_
          refine am_add (v := ((8 * υ2 63 9) + pv)) X (by first | rfl | omega) (by omega) dX10_dayGoes_222 ?_
          refine am_bipush X (by decide) dX10_dayGoes_223 ?_
          refine am_ast X 74 (i0 + m) sh_74 (by omega) (by omega) dX10_dayGoes_225 ?_
          refine am_aload_n (x := 63) X (by rfl) dX10_dayGoes_226 ?_
          refine am_getr (c1 := 75) X 63 fl_X10_43 (by decide) sh_63 (by decide) (by rfl) dX10_dayGoes_227 ?_
          refine am_bipush X (by decide) dX10_dayGoes_230 ?_
          refine am_aload_n (x := 63) X (by rfl) dX10_dayGoes_232 ?_
          refine am_get (v := υ2 63 9) X 63 fl_X10_231 (by decide) sh_63 (by decide) ((by simp [am_up] : (am_up (md_rest τ2 m) 74 (i0 + m) (-2)) 63 9 = (md_rest τ2 m) 63 9).trans ((md_rest_at (by decide)).trans (hfr2 63 9 (by decide) (by decide)))) dX10_dayGoes_233 ?_
          refine am_mul (v := (8 * υ2 63 9)) X (by first | rfl | omega) (by omega) dX10_dayGoes_236 ?_
          refine am_iload_n (x := pv) X (by rfl) dX10_dayGoes_237 ?_
          refine am_add (v := ((8 * υ2 63 9) + pv)) X (by first | rfl | omega) (by omega) dX10_dayGoes_238 ?_
          refine am_bipush X (by decide) dX10_dayGoes_239 ?_
          refine am_ast X 75 (i0 + m) sh_75 (by omega) (by omega) dX10_dayGoes_241 ?_
          refine am_inc (x := pv) (v := (pv + 1)) (L' := [some (vr 63), some (vi w2), some (vi (pv + 1)), none, none, none, none, none]) X (by rfl) (by omega) (by omega) (by rfl) dX10_dayGoes_242 ?_
          refine am_goto (tgt := 204) X dX10_dayGoes_245 (by decide) ?_
          refine am_sg (md_rest τ2 (m + 1)) (md_rest_s hi02) ?_
          exact ih204 _ (by omega) (m + 1) _ (by omega) (by omega) rfl
      refine am_sg (md_rest τ2 0) ((md_rest_0 _).symm) ?_
      exact hL204 _ 0 _ (by omega) (by omega) rfl
    · skip
      refine am_aload_n (x := 63) X (by rfl) dX10_dayGoes_12 ?_
      refine am_aload_n (x := 63) X (by rfl) dX10_dayGoes_13 ?_
      refine am_get (v := υ2 63 25) X 63 fl_X10_253 (by decide) sh_63 (by decide) (hfr2 63 25 (by decide) (by decide)) dX10_dayGoes_14 ?_
      refine am_ldcw X (n := 1103515245) (by unfold R32; decide) cn_X10_256 dX10_dayGoes_17 ?_
      refine am_imul X dX10_dayGoes_20 ?_
      refine am_sipush X (by decide) dX10_dayGoes_21 ?_
      refine am_iadd X dX10_dayGoes_24 ?_
      refine am_puti X 63 fl_X10_253 rfl rfl sh_63 (by decide) dX10_dayGoes_25 ?_
      obtain ⟨τz, hτz⟩ : ∃ τz, am_up τ2 63 25 (go_z (υ2 63 25)) = τz := ⟨_, rfl⟩
      refine am_sg τz hτz ?_
      have hfrz : md_fr υz τz := by rw [← hυz, ← hτz]; exact md_fr_up hfr2 rfl
      have hgz2 := MGo_fr hfrz hgz
      refine am_aload_n (x := 63) X (by rfl) dX10_dayGoes_28 ?_
      have hL81 : ∀ (a4 : Int) (τ3 : am_H) (haq : a4 = md_a υz p) (hfr3 : md_fr υz τ3), am_G K 81 [some (vr 63), some (vi w2), some (vi (p : Int)), none, none, none, none, none] [vi a4] SH τ3 := by
        intro a4 τ3 haq hfr3
        refine am_istore (i := 4) (L' := [some (vr 63), some (vi w2), some (vi (p : Int)), none, some (vi a4), none, none, none]) X (Nat.le_of_ble_eq_true rfl) (by rfl) dX10_dayGoes_81 ?_
        refine am_bipush X (by decide) dX10_dayGoes_83 ?_
        refine am_aload_n (x := 63) X (by rfl) dX10_dayGoes_85 ?_
        refine am_get (v := υz 63 9) X 63 fl_X10_231 (by decide) sh_63 (by decide) (hfr3 63 9 (by decide) (by decide)) dX10_dayGoes_86 ?_
        refine am_mul (v := (8 * υz 63 9)) X (by first | rfl | omega) (by omega) dX10_dayGoes_89 ?_
        refine am_iload_n (x := (p : Int)) X (by rfl) dX10_dayGoes_90 ?_
        refine am_add (v := ((8 * υz 63 9) + (p : Int))) X (by first | rfl | omega) (by omega) dX10_dayGoes_91 ?_
        refine am_istore (i := 5) (L' := [some (vr 63), some (vi w2), some (vi (p : Int)), none, some (vi a4), some (vi ((8 * υz 63 9) + (p : Int))), none, none]) X (Nat.le_of_ble_eq_true rfl) (by rfl) dX10_dayGoes_92 ?_
        refine am_aload_n (x := 63) X (by rfl) dX10_dayGoes_94 ?_
        refine am_getr (c1 := 74) X 63 fl_X10_40 (by decide) sh_63 (by decide) (by rfl) dX10_dayGoes_95 ?_
        refine am_iload (x := ((8 * υz 63 9) + (p : Int))) X (by rfl) dX10_dayGoes_98 ?_
        refine am_bipush X (by decide) dX10_dayGoes_100 ?_
        refine am_ast X 74 kk sh_74 (by omega) (by omega) dX10_dayGoes_102 ?_
        refine am_aload_n (x := 63) X (by rfl) dX10_dayGoes_103 ?_
        refine am_getr (c1 := 75) X 63 fl_X10_43 (by decide) sh_63 (by decide) (by rfl) dX10_dayGoes_104 ?_
        refine am_iload (x := ((8 * υz 63 9) + (p : Int))) X (by rfl) dX10_dayGoes_107 ?_
        refine am_bipush X (by decide) dX10_dayGoes_109 ?_
        refine am_ast X 75 kk sh_75 (by omega) (by omega) dX10_dayGoes_111 ?_
        refine am_iload (x := a4) X (by rfl) dX10_dayGoes_112 ?_
        refine am_if_lt (tgt := 193) X dX10_dayGoes_114 (by decide) (fun h114 => ?_) (fun h114 => ?_)
        · skip
          have hp2 : md_p2 p υz = (0, md_mk υz kk (-2) (-2)) := by unfold md_p2; rw [if_pos (by rw [← haq]; omega), hkk]
          refine am_inc (x := (p : Int)) (v := ((p : Int) + 1)) (L' := [some (vr 63), some (vi w2), some (vi ((p : Int) + 1)), none, some (vi a4), some (vi ((8 * υz 63 9) + (p : Int))), none, none]) X (by rfl) (by omega) (by omega) (by rfl) dX10_dayGoes_193 ?_
          refine am_goto (tgt := 4) X dX10_dayGoes_196 (by decide) ?_
          refine am_fg [true, true, true, false, false, false, false, false] rfl (L' := [some (vr 63), some (vi w2), some (vi ((p : Int) + 1)), none, none, none, none, none]) rfl ?_
          exact ih4 _ (by omega) (p + 1) w2 ((md_p2 p υz).2) (am_up (am_up τ3 74 kk (-2)) 75 kk (-2)) (by omega) (by show (_, _) = md_pp p (am_it md_pp p (0, σ)); rw [← hin]; unfold md_pp; show (_, _) = (w2 + (md_p2 p (md_zz υ2)).1, (md_p2 p (md_zz υ2)).2); rw [hυz, hp2]; show (_, _) = (w2 + 0, _); rw [Int.add_zero]) (by rw [hp2]; exact md_fr_up (md_fr_up hfr3 rfl) rfl) (MGo_p2 hgz p) (fun k hk => by rw [md_p2_at (by decide), ← hυz]; exact (am_up_k (by omega)).trans (h63 k hk)) (by omega) rfl
        · skip
          have hz20 := hgz.2.2.2.2.2.2.1
          have hz7 := hgz.2.1
          have hab := md_a_bd (p := (p : Int)) hgz
          rw [← haq] at hab
          unfold md_nx at hab
          obtain ⟨nn, hnn⟩ : ∃ nn : Nat, (υz 72 (3 * a4.toNat)).toNat = nn := ⟨_, rfl⟩
          rw [hnn] at hab
          have hdbn := hgz.2.2.2.2.2.1 nn (by omega)
          have hdan := hgz.2.2.1 nn (by omega)
          obtain ⟨qn, hqn⟩ : ∃ qn : Nat, (υz 68 (5 * nn + 1)).toNat = qn := ⟨_, rfl⟩
          obtain ⟨υm, hυm⟩ : ∃ υm, md_mk υz kk (-2) (-2) = υm := ⟨_, rfl⟩
          have hfm : md_fr υm (am_up (am_up τ3 74 kk (-2)) 75 kk (-2)) := by rw [← hυm]; exact md_fr_up (md_fr_up hfr3 rfl) rfl
          have hgm : MGo υm := by rw [← hυm]; exact MGo_mk hgz _ _ _
          have hgm2 := MGo_fr hfm hgm
          have hm9 : υm 63 9 = υz 63 9 := by rw [← hυm]; exact md_mk_at (by decide)
          have hm64 : ∀ j, υm 64 j = υz 64 j := fun j => by rw [← hυm]; exact md_mk_at (by decide)
          have hm68 : ∀ j, υm 68 j = υz 68 j := fun j => by rw [← hυm]; exact md_mk_at (by decide)
          have hp2 : md_p2 p υz = (1, md_pw υz p kk a4) := by unfold md_p2; rw [if_neg (by rw [← haq]; omega), hkk, ← haq]
          refine am_aload_n (x := 63) X (by rfl) dX10_dayGoes_117 ?_
          refine am_getr (c1 := 72) X 63 fl_X10_34 (by decide) sh_63 (by decide) (by rfl) dX10_dayGoes_118 ?_
          refine am_ic X (by decide) dX10_dayGoes_121 ?_
          refine am_iload (x := a4) X (by rfl) dX10_dayGoes_122 ?_
          refine am_mul (v := (3 * a4)) X (by first | rfl | omega) (by omega) dX10_dayGoes_124 ?_
          refine am_ald (v := υz 72 (3 * a4.toNat)) X 72 (3 * a4.toNat) sh_72 (by omega) (by omega) ((by simp [am_up] : (am_up (am_up τ3 74 kk (-2)) 75 kk (-2)) 72 (3 * a4.toNat) = τ3 72 (3 * a4.toNat)).trans (hfr3 72 (3 * a4.toNat) (by decide) (Or.inl (by decide)))) dX10_dayGoes_125 ?_
          refine am_istore (i := 6) (L' := [some (vr 63), some (vi w2), some (vi (p : Int)), none, some (vi a4), some (vi ((8 * υz 63 9) + (p : Int))), some (vi (υz 72 (3 * a4.toNat))), none]) X (Nat.le_of_ble_eq_true rfl) (by rfl) dX10_dayGoes_126 ?_
          refine am_aload_n (x := 63) X (by rfl) dX10_dayGoes_128 ?_
          refine am_getr (c1 := 68) X 63 fl_X10_22 (by decide) sh_63 (by decide) (by rfl) dX10_dayGoes_129 ?_
          refine am_ic X (by decide) dX10_dayGoes_132 ?_
          refine am_iload (x := υz 72 (3 * a4.toNat)) X (by rfl) dX10_dayGoes_133 ?_
          refine am_mul (v := (5 * υz 72 (3 * a4.toNat))) X (by first | rfl | omega) (by omega) dX10_dayGoes_135 ?_
          refine am_ic X (by decide) dX10_dayGoes_136 ?_
          refine am_add (v := ((5 * υz 72 (3 * a4.toNat)) + 1)) X (by first | rfl | omega) (by omega) dX10_dayGoes_137 ?_
          refine am_ald (v := υz 68 (5 * nn + 1)) X 68 (5 * nn + 1) sh_68 (by omega) (by omega) ((by simp [am_up] : (am_up (am_up τ3 74 kk (-2)) 75 kk (-2)) 68 (5 * nn + 1) = τ3 68 (5 * nn + 1)).trans (hfr3 68 (5 * nn + 1) (by decide) (Or.inl (by decide)))) dX10_dayGoes_138 ?_
          refine am_istore (i := 7) (L' := [some (vr 63), some (vi w2), some (vi (p : Int)), none, some (vi a4), some (vi ((8 * υz 63 9) + (p : Int))), some (vi (υz 72 (3 * a4.toNat))), some (vi (υz 68 (5 * nn + 1)))]) X (Nat.le_of_ble_eq_true rfl) (by rfl) dX10_dayGoes_139 ?_
          refine am_aload_n (x := 63) X (by rfl) dX10_dayGoes_141 ?_
          refine am_getr (c1 := 73) X 63 fl_X10_37 (by decide) sh_63 (by decide) (by rfl) dX10_dayGoes_142 ?_
          refine am_iload (x := υz 68 (5 * nn + 1)) X (by rfl) dX10_dayGoes_145 ?_
          refine am_dup2 X (Nat.ne_of_beq_eq_false rfl) (Nat.ne_of_beq_eq_false rfl) dX10_dayGoes_147 ?_
          refine am_ald (v := υz 73 qn) X 73 qn sh_73 (by omega) (by omega) ((by simp [am_up] : (am_up (am_up τ3 74 kk (-2)) 75 kk (-2)) 73 qn = τ3 73 qn).trans (hfr3 73 qn (by decide) (Or.inl (by decide)))) dX10_dayGoes_148 ?_
          refine am_aload_n (x := 63) X (by rfl) dX10_dayGoes_149 ?_
          refine am_iload_n (x := (p : Int)) X (by rfl) dX10_dayGoes_150 ?_
          refine am_iload (x := υz 68 (5 * nn + 1)) X (by rfl) dX10_dayGoes_151 ?_
          refine am_aload_n (x := 63) X (by rfl) dX10_dayGoes_153 ?_
          refine am_get (v := υz 63 9) X 63 fl_X10_231 (by decide) sh_63 (by decide) ((by simp [am_up] : (am_up (am_up τ3 74 kk (-2)) 75 kk (-2)) 63 9 = τ3 63 9).trans (hfr3 63 9 (by decide) (by decide))) dX10_dayGoes_154 ?_
          refine am_callVi (ci := 9) X hY lk_X10_227 mf_X10_worthOf (m_X10_worthOf p (υz 68 (5 * nn + 1)) (υz 63 9) (υz 63 9 / 4).toNat p rfl rfl (by omega) (am_up (am_up τ3 74 kk (-2)) 75 kk (-2)) hgm2.2.2.2.1 (by rw [hfm 64 _ (by decide) (Or.inl (by decide)), hfm 64 _ (by decide) (Or.inl (by decide)), hm64, hm64]; have h1 := hgz.2.2.2.2.1.1 (υz 63 9 / 4).toNat (by omega); have h2 := hgz.2.2.2.2.1.2 p (by omega); omega)) (by decide) (by decide) (Nat.le_refl _) (Nat.le_refl _) sh_63 rfl rfl rfl (Nat.le_of_ble_eq_true rfl) dX10_dayGoes_157 (fun r157 sh157 σ157 hr157 hp157 => ?_)
          obtain ⟨rfl, hf157, hq157⟩ := hp157
          have hg157 := md_fr_tr hfm hf157
          rw [md_wv_fr hfm] at hq157
          refine am_iadd X dX10_dayGoes_160 ?_
          refine am_ast X 73 qn sh_73 (by omega) (by omega) dX10_dayGoes_161 ?_
          refine am_aload_n (x := 63) X (by rfl) dX10_dayGoes_162 ?_
          refine am_iload (x := υz 72 (3 * a4.toNat)) X (by rfl) dX10_dayGoes_163 ?_
          refine am_aload_n (x := 63) X (by rfl) dX10_dayGoes_165 ?_
          refine am_get (v := υm 63 9) X 63 fl_X10_231 (by decide) sh_63 (by decide) ((by simp [am_up] : (am_up σ157 73 qn (w32 (υz 73 qn + r157))) 63 9 = σ157 63 9).trans (hg157 63 9 (by decide) (by decide))) dX10_dayGoes_166 ?_
          refine am_callVv (ci := 9) X hY lk_X10_257 mf_X10_worksOff (m_X10_worksOff (am_up σ157 73 qn (w32 (υz 73 qn + r157))) (υz 72 (3 * a4.toNat)) (υm 63 9) nn (by omega) (by omega) (by omega) (by rw [am_up_k (by omega), hg157 68 _ (by decide) (Or.inl (by decide)), hm68]; omega) (by rw [am_up_k (by omega), hg157 68 _ (by decide) (Or.inl (by decide)), hm68]; omega)) (by decide) (by decide) (Nat.le_refl _) (Nat.le_refl _) sh_63 rfl rfl rfl (Nat.le_of_ble_eq_true rfl) dX10_dayGoes_169 (fun sh169 σ169 hp169 => ?_)
          obtain ⟨rfl, rfl, hq169⟩ := hp169
          refine am_aload_n (x := 63) X (by rfl) dX10_dayGoes_172 ?_
          refine am_getr (c1 := 74) X 63 fl_X10_40 (by decide) sh_63 (by decide) (by rfl) dX10_dayGoes_173 ?_
          refine am_iload (x := ((8 * υz 63 9) + (p : Int))) X (by rfl) dX10_dayGoes_176 ?_
          refine am_iload (x := υz 68 (5 * nn + 1)) X (by rfl) dX10_dayGoes_178 ?_
          refine am_ast X 74 kk sh_74 (by omega) (by omega) dX10_dayGoes_180 ?_
          refine am_aload_n (x := 63) X (by rfl) dX10_dayGoes_181 ?_
          refine am_getr (c1 := 75) X 63 fl_X10_43 (by decide) sh_63 (by decide) (by rfl) dX10_dayGoes_182 ?_
          refine am_iload (x := ((8 * υz 63 9) + (p : Int))) X (by rfl) dX10_dayGoes_185 ?_
          refine am_iload (x := υz 72 (3 * a4.toNat)) X (by rfl) dX10_dayGoes_187 ?_
          refine am_ast X 75 kk sh_75 (by omega) (by omega) dX10_dayGoes_189 ?_
          refine am_inc (x := w2) (v := (w2 + 1)) (L' := [some (vr 63), some (vi (w2 + 1)), some (vi (p : Int)), none, some (vi a4), some (vi ((8 * υz 63 9) + (p : Int))), some (vi (υz 72 (3 * a4.toNat))), some (vi (υz 68 (5 * nn + 1)))]) X (by rfl) (by omega) (by omega) (by rfl) dX10_dayGoes_190 ?_
          
          refine am_inc (x := (p : Int)) (v := ((p : Int) + 1)) (L' := [some (vr 63), some (vi (w2 + 1)), some (vi ((p : Int) + 1)), none, some (vi a4), some (vi ((8 * υz 63 9) + (p : Int))), some (vi (υz 72 (3 * a4.toNat))), some (vi (υz 68 (5 * nn + 1)))]) X (by rfl) (by omega) (by omega) (by rfl) dX10_dayGoes_193 ?_
          refine am_goto (tgt := 4) X dX10_dayGoes_196 (by decide) ?_
          refine am_fg [true, true, true, false, false, false, false, false] rfl (L' := [some (vr 63), some (vi (w2 + 1)), some (vi ((p : Int) + 1)), none, none, none, none, none]) rfl ?_
          exact ih4 _ (by omega) (p + 1) (w2 + 1) ((md_p2 p υz).2) (am_up (am_up (md_off (am_up σ157 73 qn (w32 (υz 73 qn + r157))) nn (υm 63 9)) 74 kk (υz 68 (5 * nn + 1))) 75 kk (υz 72 (3 * a4.toNat))) (by omega) (by show (_, _) = md_pp p (am_it md_pp p (0, σ)); rw [← hin]; unfold md_pp; show (_, _) = (w2 + (md_p2 p (md_zz υ2)).1, (md_p2 p (md_zz υ2)).2); rw [hυz, hp2]) (by rw [hp2]; exact md_pw_real hυm hg157 hnn hqn hq157 hm9) (MGo_p2 hgz p) (fun k hk => by rw [md_p2_at (by decide), ← hυz]; exact (am_up_k (by omega)).trans (h63 k hk)) (by omega) rfl
      have hL63 : ∀ (il : Int) (hil : (il = 1 ∧ (¬ υz 63 9 % 4 = 3 ∧ w32 ((am_ushr (υz 63 25) 8).tmod 12) < υz 64 21)) ∨ (il = 0 ∧ ¬ (¬ υz 63 9 % 4 = 3 ∧ w32 ((am_ushr (υz 63 25) 8).tmod 12) < υz 64 21))), am_G K 63 [some (vr 63), some (vi w2), some (vi (p : Int)), none, none, none, none, none] [vi il] SH τz := by
        intro il hil
        refine am_istore_n (i := 3) (L' := [some (vr 63), some (vi w2), some (vi (p : Int)), some (vi il), none, none, none, none]) X rfl (Nat.le_of_ble_eq_true rfl) (by rfl) dX10_dayGoes_63 ?_
        refine am_iload_n (x := il) X (by rfl) dX10_dayGoes_64 ?_
        refine am_if_eq (tgt := 72) X dX10_dayGoes_65 (by decide) (fun h65 => ?_) (fun h65 => ?_)
        · skip
          refine am_aload_n (x := 63) X (by rfl) dX10_dayGoes_72 ?_
          refine am_iload_n (x := (p : Int)) X (by rfl) dX10_dayGoes_73 ?_
          refine am_aload_n (x := 63) X (by rfl) dX10_dayGoes_74 ?_
          refine am_get (v := υz 63 9) X 63 fl_X10_231 (by decide) sh_63 (by decide) (hfrz 63 9 (by decide) (by decide)) dX10_dayGoes_75 ?_
          refine am_callVi (ci := 9) X hY lk_X10_246 mf_X10_askFor (m_X10_askFor τz p (υz 63 9) (by omega) hgz2.1 hgz2.2.1 hgz2.2.2.1 hgz2.2.2.2.1 hgz2.2.2.2.2.1 hgz2.2.2.2.2.2.1 hgz2.2.2.2.2.2.2.1 hgz2.2.2.2.2.2.2.2) (by decide) (by decide) (Nat.le_refl _) (Nat.le_refl _) sh_63 rfl rfl rfl (Nat.le_of_ble_eq_true rfl) dX10_dayGoes_78 (fun r78 sh78 σ78 hr78 hp78 => ?_)
          obtain ⟨rfl, hf78, hq78⟩ := hp78
          rw [md_sel_fr hfrz, hfrz 63 20 (by decide) (by decide)] at hq78
          refine am_fg [true, true, true, false, false, false, false, false] rfl (L' := [some (vr 63), some (vi w2), some (vi (p : Int)), none, none, none, none, none]) rfl ?_
          exact hL81 r78 σ78 (by unfold md_a; rw [if_neg (show ¬ go_ill _ _ _ by rcases hil with ⟨i1, -⟩ | ⟨-, i2⟩; exact absurd i1 (by omega); exact i2)]; exact hq78) (md_fr_tr hfrz hf78)
        · skip
          refine am_ic X (by decide) dX10_dayGoes_68 ?_
          refine am_goto (tgt := 81) X dX10_dayGoes_69 (by decide) ?_
          refine am_fg [true, true, true, false, false, false, false, false] rfl (L' := [some (vr 63), some (vi w2), some (vi (p : Int)), none, none, none, none, none]) rfl ?_
          exact hL81 (-1) τz (by unfold md_a; rw [if_pos (show go_ill _ _ _ by rcases hil with ⟨-, i2⟩ | ⟨i1, -⟩; exact i2; exact absurd i1 (by omega))]) (hfrz)
      refine am_get (v := υz 63 9) X 63 fl_X10_231 (by decide) sh_63 (by decide) (hfrz 63 9 (by decide) (by decide)) dX10_dayGoes_29 ?_
      refine am_callSi X hY lk_X10_234 mf_X10_isHoly (m_X10_isHoly (υz 63 9) (by omega) _ τz) (by decide) (by decide) (Nat.le_refl _) (Nat.le_refl _) rfl rfl (Nat.le_of_ble_eq_true rfl) dX10_dayGoes_32 (fun r32 sh32 σ32 hr32 hp32 => ?_)
      obtain ⟨rfl, rfl, hq32⟩ := hp32
      refine am_if_ne (tgt := 62) X dX10_dayGoes_35 (by decide) (fun h35 => ?_) (fun h35 => ?_)
      · skip
        refine am_ic X (by decide) dX10_dayGoes_62 ?_
        exact hL63 0 (by omega)
      · skip
        refine am_aload_n (x := 63) X (by rfl) dX10_dayGoes_38 ?_
        refine am_get (v := υz 63 25) X 63 fl_X10_253 (by decide) sh_63 (by decide) (hfrz 63 25 (by decide) (by decide)) dX10_dayGoes_39 ?_
        refine am_bipush X (by decide) dX10_dayGoes_42 ?_
        refine am_iushr X dX10_dayGoes_44 ?_
        refine am_bipush X (by decide) dX10_dayGoes_45 ?_
        refine am_irem X (by omega) dX10_dayGoes_47 ?_
        refine am_aload_n (x := 63) X (by rfl) dX10_dayGoes_48 ?_
        refine am_getr (c1 := 64) X 63 fl_X10_9 (by decide) sh_63 (by decide) (by rfl) dX10_dayGoes_49 ?_
        refine am_bipush X (by decide) dX10_dayGoes_52 ?_
        refine am_ald (v := υz 64 21) X 64 21 sh_64 (by omega) (by omega) (hfrz 64 21 (by decide) (Or.inl (by decide))) dX10_dayGoes_54 ?_
        refine am_icmp_ge (tgt := 62) X dX10_dayGoes_55 (by decide) (fun h55 => ?_) (fun h55 => ?_)
        · skip
          refine am_ic X (by decide) dX10_dayGoes_62 ?_
          exact hL63 0 (by omega)
        · skip
          refine am_ic X (by decide) dX10_dayGoes_58 ?_
          refine am_goto (tgt := 63) X dX10_dayGoes_59 (by decide) ?_
          exact hL63 1 (by omega)
  exact hL4 _ 0 0 σ σ (by have := hg.1; omega) (rfl) (md_fr_rf σ) (hg) (fun _ _ => rfl) (by omega) rfl

set_option maxHeartbeats 4000000 in
set_option maxRecDepth 100000 in
theorem m_X10_go (σ : am_H) (seed n : Int) (hg : MGo σ) (hn : 0 ≤ σ 63 9 ∧ σ 63 9 ≤ 48) : am_Mi yX10_go cX10_go 5 (some .int) 49 0 0 [vr 63, vi seed, vi n] SH σ (fun r sh' σ' => SH = sh' ∧ ((((1 ≤ n ∧ n ≤ 48) ∧ n ≤ 48 - σ 63 9) ∧ md_fr (md_go n.toNat seed σ).2 σ' ∧ r = (md_go n.toNat seed σ).1) ∨ (¬ ((1 ≤ n ∧ n ≤ 48) ∧ n ≤ 48 - σ 63 9) ∧ σ = σ' ∧ r = (if 1 ≤ n ∧ n ≤ 48 then -5 else -1)))) := by
  refine am_Mi_of (by decide +kernel) (Nat.le_of_ble_eq_true rfl) (fun K X hY hI hret => ?_)
  show am_G K 0 [some (vr 63), some (vi seed), some (vi n), none, none] [] SH σ
  refine am_iload_n (x := n) X (by rfl) dX10_go_0 ?_
  refine am_i2l X dX10_go_1 ?_
  refine am_lc (v := 1) X (by rfl) dX10_go_2 ?_
  refine am_ldc2 X (n := 48) (by unfold R64; decide) cn_X10_260 dX10_go_3 ?_
  refine am_callSi X hY lk_X10_103 mf_X10_within (m_X10_within n 1 48 _ σ) (by decide) (by decide) (Nat.le_refl _) (Nat.le_refl _) rfl rfl (Nat.le_of_ble_eq_true rfl) dX10_go_6 (fun r6 sh6 σ6 hr6 hp6 => ?_)
  obtain ⟨rfl, rfl, hq6⟩ := hp6
  refine am_if_ne (tgt := 14) X dX10_go_9 (by decide) (fun h9 => ?_) (fun h9 => ?_)
  · skip
    refine am_aload_n (x := 63) X (by rfl) dX10_go_14 ?_
    refine am_get (v := σ 63 9) X 63 fl_X10_231 (by decide) sh_63 (by decide) (rfl) dX10_go_15 ?_
    refine am_iload_n (x := n) X (by rfl) dX10_go_18 ?_
    refine am_add (v := (σ 63 9 + n)) X (by first | rfl | omega) (by omega) dX10_go_19 ?_
    refine am_bipush X (by decide) dX10_go_20 ?_
    refine am_icmp_le (tgt := 28) X dX10_go_22 (by decide) (fun h22 => ?_) (fun h22 => ?_)
    · skip
      refine am_aload_n (x := 63) X (by rfl) dX10_go_28 ?_
      refine am_iload_n (x := seed) X (by rfl) dX10_go_29 ?_
      refine am_puti X 63 fl_X10_253 rfl rfl sh_63 (by decide) dX10_go_30 ?_
      refine am_ic X (by decide) dX10_go_33 ?_
      refine am_istore_n (i := 3) (L' := [some (vr 63), some (vi seed), some (vi n), some (vi 0), none]) X rfl (Nat.le_of_ble_eq_true rfl) (by rfl) dX10_go_34 ?_
      refine am_ic X (by decide) dX10_go_35 ?_
      refine am_istore (i := 4) (L' := [some (vr 63), some (vi seed), some (vi n), some (vi 0), some (vi 0)]) X (Nat.le_of_ble_eq_true rfl) (by rfl) dX10_go_36 ?_
      have hL38 : ∀ (m38 : Nat) (g : Nat) (w : Int) (υ : am_H) (τ : am_H) (hgn : (g : Int) ≤ n) (hgo : (w, υ) = md_go g seed σ) (hfr : md_fr υ τ) (hcg : MGo υ) (hnow : υ 63 9 = σ 63 9 + (g : Int)) (hw : 0 ≤ w ∧ w ≤ 8 * (g : Int)) (hm38 : n.toNat - g = m38), am_G K 38 [some (vr 63), some (vi seed), some (vi n), some (vi w), some (vi (g : Int))] [] SH τ := by
        intro m38
        induction m38 using Nat.strongRecOn with
        | ind m38 ih38 =>
        intro g w υ τ hgn hgo hfr hcg hnow hw hm38
        have hd8 := (md_day_st hcg).2.2.2
        have hdf := (md_day_fr2 hfr).1
        refine am_iload (x := (g : Int)) X (by rfl) dX10_go_38 ?_
        refine am_iload_n (x := n) X (by rfl) dX10_go_40 ?_
        refine am_icmp_ge (tgt := 57) X dX10_go_41 (by decide) (fun h41 => ?_) (fun h41 => ?_)
        · skip
          refine am_iload_n (x := w) X (by rfl) dX10_go_57 ?_
          exact hret _ _ _ _ _ dX10_go_58 rfl rfl (⟨rfl, Or.inl ⟨by omega, by rw [show n.toNat = g by omega, ← hgo]; exact hfr, by rw [show n.toNat = g by omega, ← hgo]⟩⟩)
        · skip
          refine am_iload_n (x := w) X (by rfl) dX10_go_44 ?_
          refine am_aload_n (x := 63) X (by rfl) dX10_go_45 ?_
          refine am_callVi (ci := 9) X hY lk_X10_262 mf_X10_dayGoes (m_X10_dayGoes τ (MGo_fr hfr hcg) (by rw [hfr 63 9 (by decide) (by decide)]; omega)) (by decide) (by decide) (Nat.le_refl _) (Nat.le_refl _) sh_63 rfl rfl rfl (Nat.le_of_ble_eq_true rfl) dX10_go_46 (fun r46 sh46 σ46 hr46 hp46 => ?_)
          obtain ⟨rfl, hq46, hf46⟩ := hp46
          refine am_add (v := (w + r46)) X (by first | rfl | omega) (by omega) dX10_go_49 ?_
          refine am_istore_n (i := 3) (L' := [some (vr 63), some (vi seed), some (vi n), some (vi (w + r46)), some (vi (g : Int))]) X rfl (Nat.le_of_ble_eq_true rfl) (by rfl) dX10_go_50 ?_
          refine am_inc (x := (g : Int)) (v := ((g : Int) + 1)) (L' := [some (vr 63), some (vi seed), some (vi n), some (vi (w + r46)), some (vi ((g : Int) + 1))]) X (by rfl) (by omega) (by omega) (by rfl) dX10_go_51 ?_
          refine am_goto (tgt := 38) X dX10_go_54 (by decide) ?_
          exact ih38 _ (by omega) (g + 1) (w + r46) ((md_day υ).2) σ46 (by omega) (by show (_, _) = md_gs (md_go g seed σ); rw [← hgo]; show (_, _) = (w + (md_day υ).1, (md_day υ).2); rw [hq46, (md_day_fr2 hfr).1]) (md_fr_tr (md_day_fr2 hfr).2 hf46) ((md_day_st hcg).1) (by rw [(md_day_st hcg).2.1, hnow]; omega) (by have h1 := (md_day_st hcg).2.2.2; have h2 := (md_day_fr2 hfr).1; omega) rfl
      exact hL38 _ 0 0 (am_up σ 63 25 seed) (am_up σ 63 25 seed) (by omega) (rfl) (md_fr_rf _) (MGo_zz hg _) (by rw [am_up_k (by omega)]; omega) (by omega) rfl
    · skip
      refine am_bipush X (by decide) dX10_go_25 ?_
      exact hret _ _ _ _ _ dX10_go_27 rfl rfl (⟨rfl, Or.inr ⟨by omega, rfl, by first | (rw [if_pos (by omega)]; done) | (rw [if_neg (by omega)]; done)⟩⟩)
  · skip
    refine am_ic X (by decide) dX10_go_12 ?_
    exact hret _ _ _ _ _ dX10_go_13 rfl rfl (⟨rfl, Or.inr ⟨by omega, rfl, by first | (rw [if_pos (by omega)]; done) | (rw [if_neg (by omega)]; done)⟩⟩)
