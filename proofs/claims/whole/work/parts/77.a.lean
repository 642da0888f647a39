set_option maxHeartbeats 4000000 in
set_option maxRecDepth 100000 in
theorem m_X9_worthOfBestDays (σ : am_H) (p q n t : Int) (kp M : Nat) (hkp : p = kp) (hpp : p < σ 1 2) (hn0 : 0 ≤ n ∧ n ≤ 180) (ht : 0 ≤ t ∧ t ≤ 47) (hM : (t + 1 - (σ 22 7 + 3)).toNat = M) (hp : 0 ≤ σ 1 2 ∧ σ 1 2 ≤ 8) (hlaw : CLaw σ) (hski : SkiV σ) (hn : 0 ≤ σ 22 7 ∧ σ 22 7 ≤ 48) : am_Mi yX9_worthOfBestDays cX9_worthOfBestDays 9 (some .int) 3 0 0 [vr 0, vi p, vi q, vi n, vi t] SH σ (fun r sh' σ' => SH = sh' ∧ (∀ c k : Nat, c ≠ 14 → c ≠ 15 → c ≠ 50 → σ' c k = σ c k) ∧ r = pl_T (fun d => c_wv σ p q d) (σ 22 7 + 3) M n ∧ 0 ≤ r ∧ r ≤ 4752) := by
  refine am_Mi_of (by decide +kernel) (Nat.le_of_ble_eq_true rfl) (fun K X hY hI hret => ?_)
  show am_G K 0 [some (vr 0), some (vi p), some (vi q), some (vi n), some (vi t), none, none, none, none] [] SH σ
  refine am_ic X (by decide) dX9_worthOfBestDays_0 ?_
  refine am_istore (i := 5) (L' := [some (vr 0), some (vi p), some (vi q), some (vi n), some (vi t), some (vi 0), none, none, none]) X (Nat.le_of_ble_eq_true rfl) (by rfl) dX9_worthOfBestDays_1 ?_
  have hL3 : ∀ (m3 : Nat) (k : Nat) (hk : k ≤ 100) (hm3 : 100 - k = m3), am_G K 3 [some (vr 0), some (vi p), some (vi q), some (vi n), some (vi t), some (vi (k : Int)), none, none, none] [] SH (c_wz σ k) := by
    intro m3
    induction m3 using Nat.strongRecOn with
    | ind m3 ih3 =>
    intro k hk hm3
    refine am_iload (x := (k : Int)) X (by rfl) dX9_worthOfBestDays_3 ?_
    refine am_bipush X (by decide) dX9_worthOfBestDays_5 ?_
    refine am_icmp_gt (tgt := 24) X dX9_worthOfBestDays_7 (by decide) (fun h7 => ?_) (fun h7 => ?_)
    · skip
      refine am_aload_n (x := 0) X (by rfl) dX9_worthOfBestDays_24 ?_
      refine am_getr (c1 := 22) X 0 fl_X9_40 (by decide) sh_0 (by decide) (by rfl) dX9_worthOfBestDays_25 ?_
      refine am_get (v := σ 22 7) X 22 fl_X9_175 (by decide) sh_22 (by decide) (c_wz_at (by decide)) dX9_worthOfBestDays_28 ?_
      refine am_ic X (by decide) dX9_worthOfBestDays_31 ?_
      refine am_add (v := (σ 22 7 + 3)) X (by first | rfl | omega) (by omega) dX9_worthOfBestDays_32 ?_
      refine am_istore (i := 5) (L' := [some (vr 0), some (vi p), some (vi q), some (vi n), some (vi t), some (vi (σ 22 7 + 3)), none, none, none]) X (Nat.le_of_ble_eq_true rfl) (by rfl) dX9_worthOfBestDays_33 ?_
      have hL35 : ∀ (m35 : Nat) (m : Nat) (τ : am_H) (dv : Int) (hdv : (σ 22 7 + 3) + (m : Int) = dv) (hm : m ≤ M) (hfr : ∀ c k : Nat, c ≠ 14 → c ≠ 15 → c ≠ 50 → τ c k = σ c k) (hct : ∀ k : Nat, k < 100 → τ 50 k = pl_ct (fun d => c_wv σ p q d) (σ 22 7 + 3) m (k : Int)) (hm35 : M - m = m35), am_G K 35 [some (vr 0), some (vi p), some (vi q), some (vi n), some (vi t), some (vi dv), none, none, none] [] SH τ := by
        intro m35
        induction m35 using Nat.strongRecOn with
        | ind m35 ih35 =>
        intro m τ dv hdv hm hfr hct hm35
        refine am_iload (x := dv) X (by rfl) dX9_worthOfBestDays_35 ?_
        refine am_iload (x := t) X (by rfl) dX9_worthOfBestDays_37 ?_
        refine am_icmp_gt (tgt := 73) X dX9_worthOfBestDays_39 (by decide) (fun h39 => ?_) (fun h39 => ?_)
        · skip
          have hmM : m = M := by omega
          refine am_ic X (by decide) dX9_worthOfBestDays_73 ?_
          refine am_istore (i := 5) (L' := [some (vr 0), some (vi p), some (vi q), some (vi n), some (vi t), some (vi 0), none, none, none]) X (Nat.le_of_ble_eq_true rfl) (by rfl) dX9_worthOfBestDays_74 ?_
          refine am_iload_n (x := n) X (by rfl) dX9_worthOfBestDays_76 ?_
          refine am_istore (i := 6) (L' := [some (vr 0), some (vi p), some (vi q), some (vi n), some (vi t), some (vi 0), some (vi n), none, none]) X (Nat.le_of_ble_eq_true rfl) (by rfl) dX9_worthOfBestDays_77 ?_
          refine am_bipush X (by decide) dX9_worthOfBestDays_79 ?_
          refine am_istore (i := 7) (L' := [some (vr 0), some (vi p), some (vi q), some (vi n), some (vi t), some (vi 0), some (vi n), some (vi 99), none]) X (Nat.le_of_ble_eq_true rfl) (by rfl) dX9_worthOfBestDays_81 ?_
          have hL83 : ∀ (m83 : Nat) (w : Nat) (wv : Int) (su : Int) (le : Int) (hwv : wv = (w : Int)) (hw : w ≤ 99) (hle : le = n - pl_mn n (pl_GE (fun d => c_wv σ p q d) (σ 22 7 + 3) M ((w : Int) + 1))) (hsu : su = pl_up (fun d => c_wv σ p q d) (σ 22 7 + 3) M n w + (w : Int) * pl_mn n (pl_GE (fun d => c_wv σ p q d) (σ 22 7 + 3) M ((w : Int) + 1))) (hsb : 0 ≤ su ∧ su ≤ 20000 * (99 - (w : Int))) (hm83 : w = m83), am_G K 83 [some (vr 0), some (vi p), some (vi q), some (vi n), some (vi t), some (vi su), some (vi le), some (vi wv), none] [] SH τ := by
            intro m83
            induction m83 using Nat.strongRecOn with
            | ind m83 ih83 =>
            intro w wv su le hwv hw hle hsu hsb hm83
            have hle2 : 0 ≤ le ∧ le ≤ 180 := by
              have hgb := pl_GE_bd (fun d => c_wv σ p q d) (σ 22 7 + 3) M ((w : Int) + 1)
              rw [hle]; unfold pl_mn; split <;> omega
            refine am_iload (x := wv) X (by rfl) dX9_worthOfBestDays_83 ?_
            refine am_if_le (tgt := 125) X dX9_worthOfBestDays_85 (by decide) (fun h85 => ?_) (fun h85 => ?_)
            · skip
              have hw0 : w = 0 := by omega
              have hres : su = pl_T (fun d => c_wv σ p q d) (σ 22 7 + 3) M n := by
                rw [hsu, hw0, pl_up_0, show ((0 : Nat) : Int) = 0 from rfl, Int.zero_mul, Int.add_zero]
              refine am_iload (x := su) X (by rfl) dX9_worthOfBestDays_125 ?_
              exact hret _ _ _ _ _ dX9_worthOfBestDays_127 rfl rfl (⟨rfl, hfr, hres, by rw [hres]; exact (pl_T_bd hn0.1 (by omega)).1, by rw [hres]; exact (pl_T_bd hn0.1 (by omega)).2⟩)
            · skip
              obtain ⟨w1, hw1⟩ : ∃ w1 : Nat, w = w1 + 1 := ⟨w - 1, by omega⟩
              have hctw := hct w (by omega)
              rw [hmM] at hctw
              have hctb := pl_ct_bd (fun d => c_wv σ p q d) (σ 22 7 + 3) M (w : Int)
              refine am_iload (x := le) X (by rfl) dX9_worthOfBestDays_88 ?_
              refine am_aload_n (x := 0) X (by rfl) dX9_worthOfBestDays_90 ?_
              refine am_getr (c1 := 50) X 0 fl_X9_70 (by decide) sh_0 (by decide) (by rfl) dX9_worthOfBestDays_91 ?_
              refine am_iload (x := wv) X (by rfl) dX9_worthOfBestDays_94 ?_
              refine am_ald (v := τ 50 w) X 50 w sh_50 (by omega) (by omega) (rfl) dX9_worthOfBestDays_96 ?_
              refine am_mmin X hY lk_X9_298 (by decide) (Nat.le_add_right _ _) (Nat.le_add_right _ _) (Nat.le_of_ble_eq_true rfl) dX9_worthOfBestDays_97 ?_
              refine am_topi (fun y97 hy97 => ?_)
              have htk : y97 = pl_mn le (pl_ct (fun d => c_wv σ p q d) (σ 22 7 + 3) M ((w1 : Int) + 1)) := by
                rw [← show (w : Int) = (w1 : Int) + 1 by omega, ← hctw, hy97]; unfold pl_mn; (repeat' split) <;> omega
              have hst := pl_step (w := w1) (left := le) (sum := su) (tk := y97) hn0.1 (by rw [hle, show (w : Int) + 1 = (w1 : Int) + 2 by omega]) (by rw [hsu, show (w : Int) + 1 = (w1 : Int) + 2 by omega, hw1, show ((w1 + 1 : Nat) : Int) = (w1 : Int) + 1 by omega]) htk
              have hyb : 0 ≤ y97 ∧ y97 ≤ 180 := by rw [hy97]; split <;> omega
              have hprod : 0 ≤ y97 * wv ∧ y97 * wv ≤ 180 * 99 := ⟨Int.mul_nonneg (by omega) (by omega), Int.mul_le_mul (by omega) (by omega) (by omega) (by omega)⟩
              refine am_istore (i := 8) (L' := [some (vr 0), some (vi p), some (vi q), some (vi n), some (vi t), some (vi su), some (vi le), some (vi wv), some (vi y97)]) X (Nat.le_of_ble_eq_true rfl) (by rfl) dX9_worthOfBestDays_100 ?_
              refine am_iload (x := su) X (by rfl) dX9_worthOfBestDays_102 ?_
              refine am_iload (x := y97) X (by rfl) dX9_worthOfBestDays_104 ?_
              refine am_iload (x := wv) X (by rfl) dX9_worthOfBestDays_106 ?_
              refine am_mul (v := (y97 * wv)) X (by first | rfl | omega) (by have h1 : 0 ≤ y97 * wv := Int.mul_nonneg (by omega) (by omega); have h2 : y97 * wv ≤ 180 * 99 := Int.mul_le_mul (by omega) (by omega) (by omega) (by omega); omega) dX9_worthOfBestDays_108 ?_
              refine am_add (v := (su + (y97 * wv))) X (by first | rfl | omega) (by have h1 : 0 ≤ y97 * wv := Int.mul_nonneg (by omega) (by omega); have h2 : y97 * wv ≤ 180 * 99 := Int.mul_le_mul (by omega) (by omega) (by omega) (by omega); omega) dX9_worthOfBestDays_109 ?_
              refine am_istore (i := 5) (L' := [some (vr 0), some (vi p), some (vi q), some (vi n), some (vi t), some (vi (su + (y97 * wv))), some (vi le), some (vi wv), some (vi y97)]) X (Nat.le_of_ble_eq_true rfl) (by rfl) dX9_worthOfBestDays_110 ?_
              refine am_iload (x := le) X (by rfl) dX9_worthOfBestDays_112 ?_
              refine am_iload (x := y97) X (by rfl) dX9_worthOfBestDays_114 ?_
              refine am_sub (v := (le - y97)) X (by first | rfl | omega) (by omega) dX9_worthOfBestDays_116 ?_
              refine am_istore (i := 6) (L' := [some (vr 0), some (vi p), some (vi q), some (vi n), some (vi t), some (vi (su + (y97 * wv))), some (vi (le - y97)), some (vi wv), some (vi y97)]) X (Nat.le_of_ble_eq_true rfl) (by rfl) dX9_worthOfBestDays_117 ?_
              refine am_inc (x := wv) (v := (wv - 1)) (L' := [some (vr 0), some (vi p), some (vi q), some (vi n), some (vi t), some (vi (su + (y97 * wv))), some (vi (le - y97)), some (vi (wv - 1)), some (vi y97)]) X (by rfl) (by omega) (by omega) (by rfl) dX9_worthOfBestDays_119 ?_
              refine am_goto (tgt := 83) X dX9_worthOfBestDays_122 (by decide) ?_
              refine am_fg [true, true, true, true, true, true, true, true, false] rfl (L' := [some (vr 0), some (vi p), some (vi q), some (vi n), some (vi t), some (vi (su + (y97 * wv))), some (vi (le - y97)), some (vi (wv - 1)), none]) rfl ?_
              exact ih83 _ (by omega) w1 (wv - 1) (su + (y97 * wv)) (le - y97) (by omega) (by omega) (hst.1) (by rw [show wv = (w1 : Int) + 1 by omega]; exact hst.2) (by omega) rfl
          exact hL83 _ 99 99 0 n (rfl) (by omega) (by rw [show ((99 : Nat) : Int) + 1 = 100 from rfl, pl_GE_100 (W := fun d => c_wv σ p q d) M (fun d => (wv_bd (c_lw σ) (σ 2 (d / 4).toNat) (σ 3 p.toNat) d p q).2)]; unfold pl_mn; split <;> omega) (by rw [pl_up_99, show ((99 : Nat) : Int) + 1 = 100 from rfl, pl_GE_100 (W := fun d => c_wv σ p q d) M (fun d => (wv_bd (c_lw σ) (σ 2 (d / 4).toNat) (σ 3 p.toNat) d p q).2), show pl_mn n 0 = 0 from (by unfold pl_mn; split <;> omega)]; rfl) (by omega) rfl
        · skip
          refine am_iload (x := dv) X (by rfl) dX9_worthOfBestDays_42 ?_
          refine am_callSi X hY lk_X9_178 mf_X9_isHoly (m_X9_isHoly dv (by omega) _ τ) (by decide) (by decide) (Nat.le_refl _) (Nat.le_refl _) rfl rfl (Nat.le_of_ble_eq_true rfl) dX9_worthOfBestDays_44 (fun r44 sh44 σ44 hr44 hp44 => ?_)
          obtain ⟨rfl, rfl, hq44⟩ := hp44
          refine am_if_ne (tgt := 67) X dX9_worthOfBestDays_47 (by decide) (fun h47 => ?_) (fun h47 => ?_)
          · skip
            refine am_inc (x := dv) (v := (dv + 1)) (L' := [some (vr 0), some (vi p), some (vi q), some (vi n), some (vi t), some (vi (dv + 1)), none, none, none]) X (by rfl) (by omega) (by omega) (by rfl) dX9_worthOfBestDays_67 ?_
            refine am_goto (tgt := 35) X dX9_worthOfBestDays_70 (by decide) ?_
            exact ih35 _ (by omega) (m + 1) τ (dv + 1) (by omega) (by omega) (hfr) (fun k hk => by rw [hct k hk]; show _ = pl_ct (fun d => c_wv σ p q d) (σ 22 7 + 3) m (k : Int) + (if ¬ (σ 22 7 + 3 + (m : Int)) % 4 = 3 ∧ c_wv σ p q (σ 22 7 + 3 + (m : Int)) = (k : Int) then 1 else 0); rw [if_neg (fun q0 => by omega)]; omega) rfl
          · skip
            refine am_aload_n (x := 0) X (by rfl) dX9_worthOfBestDays_50 ?_
            refine am_getr (c1 := 50) X 0 fl_X9_70 (by decide) sh_0 (by decide) (by rfl) dX9_worthOfBestDays_51 ?_
            refine am_aload_n (x := 0) X (by rfl) dX9_worthOfBestDays_54 ?_
            refine am_iload_n (x := p) X (by rfl) dX9_worthOfBestDays_55 ?_
            refine am_iload_n (x := q) X (by rfl) dX9_worthOfBestDays_56 ?_
            refine am_iload (x := dv) X (by rfl) dX9_worthOfBestDays_57 ?_
            refine am_callVi (ci := 8) X hY lk_X9_171 mf_X9_worthOf (m_X9_worthOf p q dv (dv / 4).toNat kp rfl hkp (by omega) τ (CLaw_of (hfr 9 7 (by decide) (by decide) (by decide)) (fun k => hfr 11 k (by decide) (by decide) (by decide)) hlaw) (by rw [hfr 2 _ (by decide) (by decide) (by decide), hfr 3 _ (by decide) (by decide) (by decide)]; have h1 := hski.1 (dv / 4).toNat (by omega); have h2 := hski.2 kp (by omega); omega)) (by decide) (by decide) (Nat.le_refl _) (Nat.le_refl _) sh_0 rfl rfl rfl (Nat.le_of_ble_eq_true rfl) dX9_worthOfBestDays_59 (fun r59 sh59 σ59 hr59 hp59 => ?_)
            obtain ⟨rfl, hf59, hq59⟩ := hp59
            have hcz := c_frp_wv hfr p q dv
            rw [hcz] at hq59
            have hwb := wv_bd (c_lw σ) (σ 2 (dv / 4).toNat) (σ 3 p.toNat) dv p q
            have hwb2 : c_wv σ p q dv = wv_of (c_lw σ) (σ 2 (dv / 4).toNat) (σ 3 p.toNat) dv p q := rfl
            have hm59 := hf59 50 r59.toNat (by decide) (by decide)
            have hctr := hct r59.toNat (by omega)
            have hctb := pl_ct_bd (fun d => c_wv σ p q d) (σ 22 7 + 3) m ((r59.toNat : Nat) : Int)
            refine am_dup2 X (Nat.ne_of_beq_eq_false rfl) (Nat.ne_of_beq_eq_false rfl) dX9_worthOfBestDays_62 ?_
            refine am_ald (v := σ59 50 r59.toNat) X 50 r59.toNat sh_50 (by omega) (by omega) (rfl) dX9_worthOfBestDays_63 ?_
            refine am_ic X (by decide) dX9_worthOfBestDays_64 ?_
            refine am_add (v := (σ59 50 r59.toNat + 1)) X (by first | rfl | omega) (by omega) dX9_worthOfBestDays_65 ?_
            refine am_ast X 50 r59.toNat sh_50 (by omega) (by omega) dX9_worthOfBestDays_66 ?_
            refine am_inc (x := dv) (v := (dv + 1)) (L' := [some (vr 0), some (vi p), some (vi q), some (vi n), some (vi t), some (vi (dv + 1)), none, none, none]) X (by rfl) (by omega) (by omega) (by rfl) dX9_worthOfBestDays_67 ?_
            refine am_goto (tgt := 35) X dX9_worthOfBestDays_70 (by decide) ?_
            exact ih35 _ (by omega) (m + 1) (am_up σ59 50 r59.toNat (σ59 50 r59.toNat + 1)) (dv + 1) (by omega) (by omega) (fun c k h1 h2 h3 => (am_up_k (by omega)).trans ((hf59 c k h1 h2).trans (hfr c k h1 h2 h3))) (fun k hk => by show _ = pl_ct (fun d => c_wv σ p q d) (σ 22 7 + 3) m (k : Int) + (if ¬ (σ 22 7 + 3 + (m : Int)) % 4 = 3 ∧ c_wv σ p q (σ 22 7 + 3 + (m : Int)) = (k : Int) then 1 else 0); rw [hdv]; by_cases e : k = r59.toNat; (rw [e, am_up_eq, if_pos ⟨by omega, by omega⟩, hm59, hctr]); rw [am_up_k (by omega), hf59 50 k (by decide) (by decide), hct k hk, if_neg (fun q0 => by omega)]; omega) rfl
      exact hL35 _ 0 _ (σ 22 7 + 3) (by omega) (Nat.zero_le _) (fun c k h1 h2 h3 => c_wz_at h3) (fun k hk => by unfold c_wz; rw [if_pos ⟨rfl, by omega⟩]; rfl) rfl
    · skip
      refine am_aload_n (x := 0) X (by rfl) dX9_worthOfBestDays_10 ?_
      refine am_getr (c1 := 50) X 0 fl_X9_70 (by decide) sh_0 (by decide) (by rfl) dX9_worthOfBestDays_11 ?_
      refine am_iload (x := (k : Int)) X (by rfl) dX9_worthOfBestDays_14 ?_
      refine am_ic X (by decide) dX9_worthOfBestDays_16 ?_
      refine am_ast X 50 k sh_50 (by omega) (by omega) dX9_worthOfBestDays_17 ?_
      refine am_inc (x := (k : Int)) (v := ((k : Int) + 1)) (L' := [some (vr 0), some (vi p), some (vi q), some (vi n), some (vi t), some (vi ((k : Int) + 1)), none, none, none]) X (by rfl) (by omega) (by omega) (by rfl) dX9_worthOfBestDays_18 ?_
      refine am_goto (tgt := 3) X dX9_worthOfBestDays_21 (by decide) ?_
      refine am_sg (c_wz σ (k + 1)) (c_wz_s) ?_
      exact ih3 _ (by omega) (k + 1) (by omega) rfl
  refine am_sg (c_wz σ 0) ((c_wz_0 σ).symm) ?_
  exact hL3 _ 0 (by omega) rfl

set_option maxHeartbeats 4000000 in
set_option maxRecDepth 100000 in
theorem m_X9_plan (σ : am_H) (a b : Int) (hp : 0 ≤ σ 1 2 ∧ σ 1 2 ≤ 8) (hc : 0 ≤ σ 16 5 ∧ σ 16 5 ≤ 20) (hd : ∀ n : Nat, (n : Int) < σ 16 5 → 0 ≤ σ 19 n ∧ σ 19 n ≤ 9) (hlaw : CLaw σ) (hski : SkiV σ) (hn : 0 ≤ σ 22 7 ∧ σ 22 7 ≤ 48) : am_Mi yX9_plan cX9_plan 6 (some .int) 4 0 0 [vr 0, vi a, vi b] SH σ (fun r sh' σ' => SH = sh' ∧ (∀ c k : Nat, c ≠ 14 → c ≠ 15 → c ≠ 50 → σ' c k = σ c k) ∧ r = (if (0 ≤ a ∧ a < σ 1 2) ∧ 0 ≤ b ∧ b ≤ 47 then am_sum (fun k : Nat => pl_T (fun d => c_wv σ (k : Int) a d) (σ 22 7 + 3) (b + 1 - (σ 22 7 + 3)).toNat (c_owed σ (k : Int) a)) (σ 1 2).toNat else -1)) := by
  refine am_Mi_of (by decide +kernel) (Nat.le_of_ble_eq_true rfl) (fun K X hY hI hret => ?_)
  show am_G K 0 [some (vr 0), some (vi a), some (vi b), none, none, none] [] SH σ
  refine am_aload_n (x := 0) X (by rfl) dX9_plan_0 ?_
  refine am_getr (c1 := 1) X 0 fl_X9_10 (by decide) sh_0 (by decide) (by rfl) dX9_plan_1 ?_
  refine am_iload_n (x := a) X (by rfl) dX9_plan_4 ?_
  refine am_callVi (ci := 5) X hY lk_X9_143 mf_X6_isPerson (m_X6_isPerson a σ hp) (by decide) (by decide) (Nat.le_refl _) (Nat.le_refl _) sh_1 rfl rfl rfl (Nat.le_of_ble_eq_true rfl) dX9_plan_5 (fun r5 sh5 σ5 hr5 hp5 => ?_)
  obtain ⟨rfl, rfl, hq5⟩ := hp5
  refine am_if_eq (tgt := 18) X dX9_plan_8 (by decide) (fun h8 => ?_) (fun h8 => ?_)
  · skip
    refine am_ic X (by decide) dX9_plan_18 ?_
    exact hret _ _ _ _ _ dX9_plan_19 rfl rfl (⟨rfl, fun _ _ _ _ _ => rfl, by rw [if_neg (by omega)]⟩)
  · skip
    refine am_iload_n (x := b) X (by rfl) dX9_plan_11 ?_
    refine am_callSi X hY lk_X9_168 mf_X9_isDay (m_X9_isDay b _ σ) (by decide) (by decide) (Nat.le_refl _) (Nat.le_refl _) rfl rfl (Nat.le_of_ble_eq_true rfl) dX9_plan_12 (fun r12 sh12 σ12 hr12 hp12 => ?_)
    obtain ⟨rfl, rfl, hq12⟩ := hp12
    refine am_if_ne (tgt := 20) X dX9_plan_15 (by decide) (fun h15 => ?_) (fun h15 => ?_)
    · skip
      refine am_ic X (by decide) dX9_plan_20 ?_
      refine am_istore_n (i := 3) (L' := [some (vr 0), some (vi a), some (vi b), some (vi 0), none, none]) X rfl (Nat.le_of_ble_eq_true rfl) (by rfl) dX9_plan_21 ?_
      refine am_ic X (by decide) dX9_plan_22 ?_
      refine am_istore (i := 4) (L' := [some (vr 0), some (vi a), some (vi b), some (vi 0), some (vi 0), none]) X (Nat.le_of_ble_eq_true rfl) (by rfl) dX9_plan_23 ?_
      have hL25 : ∀ (m25 : Nat) (k : Nat) (s : Int) (τ : am_H) (hk : (k : Int) ≤ σ 1 2) (hs : s = am_sum (fun k : Nat => pl_T (fun d => c_wv σ (k : Int) a d) (σ 22 7 + 3) (b + 1 - (σ 22 7 + 3)).toNat (c_owed σ (k : Int) a)) k) (hsb : 0 ≤ s ∧ s ≤ 5000 * (k : Int)) (hfr : ∀ c k : Nat, c ≠ 14 → c ≠ 15 → c ≠ 50 → τ c k = σ c k) (hm25 : 8 - k = m25), am_G K 25 [some (vr 0), some (vi a), some (vi b), some (vi s), some (vi (k : Int)), none] [] SH τ := by
        intro m25
        induction m25 using Nat.strongRecOn with
        | ind m25 ih25 =>
        intro k s τ hk hs hsb hfr hm25
        refine am_iload (x := (k : Int)) X (by rfl) dX9_plan_25 ?_
        refine am_aload_n (x := 0) X (by rfl) dX9_plan_27 ?_
        refine am_getr (c1 := 1) X 0 fl_X9_10 (by decide) sh_0 (by decide) (by rfl) dX9_plan_28 ?_
        refine am_get (v := σ 1 2) X 1 fl_X9_79 (by decide) sh_1 (by decide) (hfr 1 2 (by decide) (by decide) (by decide)) dX9_plan_31 ?_
        refine am_icmp_ge (tgt := 73) X dX9_plan_34 (by decide) (fun h34 => ?_) (fun h34 => ?_)
        · skip
          refine am_iload_n (x := s) X (by rfl) dX9_plan_73 ?_
          exact hret _ _ _ _ _ dX9_plan_74 rfl rfl (⟨rfl, hfr, by rw [if_pos (by omega), hs, show (σ 1 2).toNat = k by omega]⟩)
        · skip
          refine am_aload_n (x := 0) X (by rfl) dX9_plan_37 ?_
          refine am_getr (c1 := 16) X 0 fl_X9_33 (by decide) sh_0 (by decide) (by rfl) dX9_plan_38 ?_
          refine am_iload (x := (k : Int)) X (by rfl) dX9_plan_41 ?_
          refine am_iload_n (x := a) X (by rfl) dX9_plan_43 ?_
          refine am_callVi (ci := 4) X hY lk_X9_149 mf_X4_owed (m_X4_owed (k : Int) a τ (by rw [hfr 16 5 (by decide) (by decide) (by decide)]; exact hc) (fun n hn => by rw [hfr 16 5 (by decide) (by decide) (by decide)] at hn; rw [hfr 19 n (by decide) (by decide) (by decide)]; exact hd n hn)) (by decide) (by decide) (Nat.le_refl _) (Nat.le_refl _) sh_16 rfl rfl rfl (Nat.le_of_ble_eq_true rfl) dX9_plan_44 (fun r44 sh44 σ44 hr44 hp44 => ?_)
          obtain ⟨rfl, rfl, hq44⟩ := hp44
          have hco : r44 = c_owed σ (k : Int) a := hq44.1.trans (c_owed_frp hfr _ _)
          refine am_istore (i := 5) (L' := [some (vr 0), some (vi a), some (vi b), some (vi s), some (vi (k : Int)), some (vi r44)]) X (Nat.le_of_ble_eq_true rfl) (by rfl) dX9_plan_47 ?_
          refine am_iload (x := r44) X (by rfl) dX9_plan_49 ?_
          refine am_if_le (tgt := 67) X dX9_plan_51 (by decide) (fun h51 => ?_) (fun h51 => ?_)
          · skip
            refine am_inc (x := (k : Int)) (v := ((k : Int) + 1)) (L' := [some (vr 0), some (vi a), some (vi b), some (vi s), some (vi ((k : Int) + 1)), some (vi r44)]) X (by rfl) (by omega) (by omega) (by rfl) dX9_plan_67 ?_
            refine am_goto (tgt := 25) X dX9_plan_70 (by decide) ?_
            refine am_fg [true, true, true, true, true, false] rfl (L' := [some (vr 0), some (vi a), some (vi b), some (vi s), some (vi ((k : Int) + 1)), none]) rfl ?_
            exact ih25 _ (by omega) (k + 1) s τ (by omega) (by show _ = am_sum (fun k : Nat => pl_T (fun d => c_wv σ (k : Int) a d) (σ 22 7 + 3) (b + 1 - (σ 22 7 + 3)).toNat (c_owed σ (k : Int) a)) k + pl_T (fun d => c_wv σ (k : Int) a d) (σ 22 7 + 3) (b + 1 - (σ 22 7 + 3)).toNat (c_owed σ (k : Int) a); rw [show c_owed σ (k : Int) a = 0 by omega, pl_T_z, ← hs]; omega) (by omega) (hfr) rfl
          · skip
            refine am_iload_n (x := s) X (by rfl) dX9_plan_54 ?_
            refine am_aload_n (x := 0) X (by rfl) dX9_plan_55 ?_
            refine am_iload (x := (k : Int)) X (by rfl) dX9_plan_56 ?_
            refine am_iload_n (x := a) X (by rfl) dX9_plan_58 ?_
            refine am_iload (x := r44) X (by rfl) dX9_plan_59 ?_
            refine am_iload_n (x := b) X (by rfl) dX9_plan_61 ?_
            refine am_callVi (ci := 8) X hY lk_X9_221 mf_X9_worthOfBestDays (m_X9_worthOfBestDays τ (k : Int) a r44 b k (b + 1 - (σ 22 7 + 3)).toNat rfl (by rw [hfr 1 2 (by decide) (by decide) (by decide)]; omega) (by omega) (by omega) (by rw [hfr 22 7 (by decide) (by decide) (by decide)]) (by rw [hfr 1 2 (by decide) (by decide) (by decide)]; exact hp) (CLaw_of (hfr 9 7 (by decide) (by decide) (by decide)) (fun j => hfr 11 j (by decide) (by decide) (by decide)) hlaw) (c_ski_frp hfr hski) (by rw [hfr 22 7 (by decide) (by decide) (by decide)]; exact hn)) (by decide) (by decide) (Nat.le_refl _) (Nat.le_refl _) sh_0 rfl rfl rfl (Nat.le_of_ble_eq_true rfl) dX9_plan_62 (fun r62 sh62 σ62 hr62 hp62 => ?_)
            obtain ⟨rfl, hf62, hq62⟩ := hp62
            rw [show (fun d => c_wv τ (k : Int) a d) = (fun d => c_wv σ (k : Int) a d) from funext (fun d => c_frp_wv hfr _ _ _), hfr 22 7 (by decide) (by decide) (by decide)] at hq62
            refine am_add (v := (s + r62)) X (by first | rfl | omega) (by omega) dX9_plan_65 ?_
            refine am_istore_n (i := 3) (L' := [some (vr 0), some (vi a), some (vi b), some (vi (s + r62)), some (vi (k : Int)), some (vi r44)]) X rfl (Nat.le_of_ble_eq_true rfl) (by rfl) dX9_plan_66 ?_
            refine am_inc (x := (k : Int)) (v := ((k : Int) + 1)) (L' := [some (vr 0), some (vi a), some (vi b), some (vi (s + r62)), some (vi ((k : Int) + 1)), some (vi r44)]) X (by rfl) (by omega) (by omega) (by rfl) dX9_plan_67 ?_
            refine am_goto (tgt := 25) X dX9_plan_70 (by decide) ?_
            refine am_fg [true, true, true, true, true, false] rfl (L' := [some (vr 0), some (vi a), some (vi b), some (vi (s + r62)), some (vi ((k : Int) + 1)), none]) rfl ?_
            exact ih25 _ (by omega) (k + 1) (s + r62) σ62 (by omega) (by show _ = am_sum (fun k : Nat => pl_T (fun d => c_wv σ (k : Int) a d) (σ 22 7 + 3) (b + 1 - (σ 22 7 + 3)).toNat (c_owed σ (k : Int) a)) k + pl_T (fun d => c_wv σ (k : Int) a d) (σ 22 7 + 3) (b + 1 - (σ 22 7 + 3)).toNat (c_owed σ (k : Int) a); rw [← hs, ← hco, ← hq62.1]) (by omega) (fun c j h1 h2 h3 => (hf62 c j h1 h2 h3).trans (hfr c j h1 h2 h3)) rfl
      exact hL25 _ 0 0 σ (by omega) (rfl) (by omega) (fun _ _ _ _ _ => rfl) rfl
    · skip
      refine am_ic X (by decide) dX9_plan_18 ?_
      exact hret _ _ _ _ _ dX9_plan_19 rfl rfl (⟨rfl, fun _ _ _ _ _ => rfl, by rw [if_neg (by omega)]⟩)
