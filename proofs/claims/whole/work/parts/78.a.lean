def pl_B (W : Int → Int) (τ : am_H) (d0 m : Nat) (be mo : Int) : Prop := (be = -1 ∧ mo = 0 ∧ ∀ j, j < m → τ 76 (d0 + j) ≠ 0) ∨ (∃ b, b < m ∧ be = ((d0 + b : Nat) : Int) ∧ τ 76 (d0 + b) = 0 ∧ mo = W ((d0 + b : Nat) : Int) ∧ ∀ j, j < m → τ 76 (d0 + j) = 0 → W ((d0 + j : Nat) : Int) ≤ mo)

set_option maxHeartbeats 4000000 in
set_option maxRecDepth 100000 in
theorem m_X10_bestSum (σ : am_H) (p q n t : Int) (kp M d0 : Nat) (hkp : p = kp) (hpp : p < σ 63 6) (hn0 : 0 ≤ n ∧ n ≤ 180) (ht : 0 ≤ t ∧ t ≤ 47) (hd0 : (σ 63 9 + 3).toNat = d0) (hM : (t + 1 - (σ 63 9 + 3)).toNat = M) (hp : 0 ≤ σ 63 6 ∧ σ 63 6 ≤ 8) (hlaw : MLaw σ) (hski : MskV σ) (hn : 0 ≤ σ 63 9 ∧ σ 63 9 ≤ 48) : am_Mi yX10_bestSum cX10_bestSum 11 (some .int) 46 0 0 [vr 63, vi p, vi q, vi n, vi t] SH σ (fun r sh' σ' => SH = sh' ∧ md_frp σ σ' ∧ r = pl_T (fun d => md_wv σ p q d) (d0 : Int) M n ∧ 0 ≤ r ∧ r ≤ 4752) := by
  refine am_Mi_of (by decide +kernel) (Nat.le_of_ble_eq_true rfl) (fun K X hY hI hret => ?_)
  show am_G K 0 [some (vr 63), some (vi p), some (vi q), some (vi n), some (vi t), none, none, none, none, none, none] [] SH σ
  have hWb : ∀ d, 0 ≤ md_wv σ p q d ∧ md_wv σ p q d ≤ 99 := fun d => wv_bd _ _ _ _ _ _
  refine am_ic X (by decide) dX10_bestSum_0 ?_
  refine am_istore (i := 5) (L' := [some (vr 63), some (vi p), some (vi q), some (vi n), some (vi t), some (vi 0), none, none, none, none, none]) X (Nat.le_of_ble_eq_true rfl) (by rfl) dX10_bestSum_1 ?_
  have hL3 : ∀ (m3 : Nat) (k : Nat) (hk : k ≤ 48) (hm3 : 48 - k = m3), am_G K 3 [some (vr 63), some (vi p), some (vi q), some (vi n), some (vi t), some (vi (k : Int)), none, none, none, none, none] [] SH (md_ih σ k) := by
    intro m3
    induction m3 using Nat.strongRecOn with
    | ind m3 ih3 =>
    intro k hk hm3
    refine am_iload (x := (k : Int)) X (by rfl) dX10_bestSum_3 ?_
    refine am_bipush X (by decide) dX10_bestSum_5 ?_
    refine am_icmp_ge (tgt := 28) X dX10_bestSum_7 (by decide) (fun h7 => ?_) (fun h7 => ?_)
    · skip
      have hk48 : k = 48 := by omega
      rw [hk48]
      refine am_ic X (by decide) dX10_bestSum_28 ?_
      refine am_istore (i := 5) (L' := [some (vr 63), some (vi p), some (vi q), some (vi n), some (vi t), some (vi 0), none, none, none, none, none]) X (Nat.le_of_ble_eq_true rfl) (by rfl) dX10_bestSum_29 ?_
      refine am_ic X (by decide) dX10_bestSum_31 ?_
      refine am_istore (i := 6) (L' := [some (vr 63), some (vi p), some (vi q), some (vi n), some (vi t), some (vi 0), some (vi 0), none, none, none, none]) X (Nat.le_of_ble_eq_true rfl) (by rfl) dX10_bestSum_32 ?_
      have hL34 : ∀ (m34 : Nat) (k : Nat) (su : Int) (τ : am_H) (hkn : (k : Int) ≤ n) (hfr : md_frp σ τ) (hsu : su + pl_TU (fun d => md_wv σ p q d) τ d0 M (n - (k : Int)) = pl_T (fun d => md_wv σ p q d) (d0 : Int) M n) (hs0 : 0 ≤ su) (hbo : ∀ j, j < 48 → τ 76 j = 0 ∨ τ 76 j = 1) (hm34 : n.toNat - k = m34), am_G K 34 [some (vr 63), some (vi p), some (vi q), some (vi n), some (vi t), some (vi su), some (vi (k : Int)), none, none, none, none] [] SH τ := by
        intro m34
        induction m34 using Nat.strongRecOn with
        | ind m34 ih34 =>
        intro k su τ hkn hfr hsu hs0 hbo hm34
        have htb0 := pl_T_bd (W := (fun d => md_wv σ p q d)) (d0 := (d0 : Int)) (M := M) (n := n) hn0.1 (by omega)
        have htn := pl_TU_nn (W := (fun d => md_wv σ p q d)) (τ := τ) (d0 := d0) (M := M) (n := n - (k : Int)) (by omega) (by omega)
        refine am_iload (x := (k : Int)) X (by rfl) dX10_bestSum_34 ?_
        refine am_iload_n (x := n) X (by rfl) dX10_bestSum_36 ?_
        refine am_icmp_ge (tgt := 147) X dX10_bestSum_37 (by decide) (fun h37 => ?_) (fun h37 => ?_)
        · skip
          have hres : su = pl_T (fun d => md_wv σ p q d) (d0 : Int) M n := by
            rw [← hsu, show n - (k : Int) = 0 by omega, pl_TU_z]; omega
          refine am_iload (x := su) X (by rfl) dX10_bestSum_147 ?_
          exact hret _ _ _ _ _ dX10_bestSum_149 rfl rfl (⟨rfl, hfr, hres, by rw [hres]; exact (pl_T_bd hn0.1 (by omega)).1, by rw [hres]; exact (pl_T_bd hn0.1 (by omega)).2⟩)
        · skip
          refine am_ic X (by decide) dX10_bestSum_40 ?_
          refine am_istore (i := 7) (L' := [some (vr 63), some (vi p), some (vi q), some (vi n), some (vi t), some (vi su), some (vi (k : Int)), some (vi (-1)), none, none, none]) X (Nat.le_of_ble_eq_true rfl) (by rfl) dX10_bestSum_41 ?_
          refine am_ic X (by decide) dX10_bestSum_43 ?_
          refine am_istore (i := 8) (L' := [some (vr 63), some (vi p), some (vi q), some (vi n), some (vi t), some (vi su), some (vi (k : Int)), some (vi (-1)), some (vi 0), none, none]) X (Nat.le_of_ble_eq_true rfl) (by rfl) dX10_bestSum_44 ?_
          refine am_aload_n (x := 63) X (by rfl) dX10_bestSum_46 ?_
          refine am_get (v := σ 63 9) X 63 fl_X10_231 (by decide) sh_63 (by decide) (hfr 63 9 (by decide) (by decide) (by decide)) dX10_bestSum_47 ?_
          refine am_ic X (by decide) dX10_bestSum_50 ?_
          refine am_add (v := (σ 63 9 + 3)) X (by first | rfl | omega) (by omega) dX10_bestSum_51 ?_
          refine am_istore (i := 9) (L' := [some (vr 63), some (vi p), some (vi q), some (vi n), some (vi t), some (vi su), some (vi (k : Int)), some (vi (-1)), some (vi 0), some (vi (σ 63 9 + 3)), none]) X (Nat.le_of_ble_eq_true rfl) (by rfl) dX10_bestSum_52 ?_
          have hL54 : ∀ (m54 : Nat) (m : Nat) (be : Int) (mo : Int) (τ2 : am_H) (dv : Int) (hdv : dv = ((d0 + m : Nat) : Int)) (hm : m ≤ M) (hmo0 : 0 ≤ mo ∧ mo ≤ 99) (hfr2 : md_frp σ τ2) (h76 : ∀ j, τ2 76 j = τ 76 j) (htb : pl_B (fun d => md_wv σ p q d) τ d0 m be mo) (hm54 : M - m = m54), am_G K 54 [some (vr 63), some (vi p), some (vi q), some (vi n), some (vi t), some (vi su), some (vi (k : Int)), some (vi be), some (vi mo), some (vi dv), none] [] SH τ2 := by
            intro m54
            induction m54 using Nat.strongRecOn with
            | ind m54 ih54 =>
            intro m be mo τ2 dv hdv hm hmo0 hfr2 h76 htb hm54
            have hbom := hbo (d0 + m)
            refine am_iload (x := dv) X (by rfl) dX10_bestSum_54 ?_
            refine am_iload (x := t) X (by rfl) dX10_bestSum_56 ?_
            refine am_icmp_gt (tgt := 121) X dX10_bestSum_58 (by decide) (fun h58 => ?_) (fun h58 => ?_)
            · skip
              have hmM : m = M := by omega
              rw [hmM] at htb
              refine am_iload (x := be) X (by rfl) dX10_bestSum_121 ?_
              refine am_if_lt (tgt := 141) X dX10_bestSum_123 (by decide) (fun h123 => ?_) (fun h123 => ?_)
              · skip
                refine am_inc (x := (k : Int)) (v := ((k : Int) + 1)) (L' := [some (vr 63), some (vi p), some (vi q), some (vi n), some (vi t), some (vi su), some (vi ((k : Int) + 1)), some (vi be), some (vi mo), some (vi dv), none]) X (by rfl) (by omega) (by omega) (by rfl) dX10_bestSum_141 ?_
                refine am_goto (tgt := 34) X dX10_bestSum_144 (by decide) ?_
                refine am_fg [true, true, true, true, true, true, true, false, false, false, false] rfl (L' := [some (vr 63), some (vi p), some (vi q), some (vi n), some (vi t), some (vi su), some (vi ((k : Int) + 1)), none, none, none, none]) rfl ?_
                exact ih34 _ (by omega) (k + 1) su τ2 (by omega) (hfr2) (by rw [pl_TU_congr (τ := τ2) (τ' := τ) (fun j _ => h76 _)]; have hz : ∀ j, j < M → τ 76 (d0 + j) ≠ 0 := (by rcases htb with ⟨-, -, z⟩ | ⟨b, -, z, -⟩; exact z; omega); rw [pl_TU_no (by omega) hz] at hsu ⊢; exact hsu) (by omega) (fun j hj => by rw [h76]; exact hbo j hj) rfl
              · skip
                obtain ⟨b, hb1, hb2, hb3, hb4, hb5⟩ : ∃ b, b < M ∧ be = ((d0 + b : Nat) : Int) ∧ τ 76 (d0 + b) = 0 ∧ mo = md_wv σ p q ((d0 + b : Nat) : Int) ∧ ∀ j, j < M → τ 76 (d0 + j) = 0 → md_wv σ p q ((d0 + j : Nat) : Int) ≤ mo := by
                  rcases htb with ⟨z, -⟩ | z
                  · omega
                  · exact z
                have hup := pl_TU_up (W := fun d => md_wv σ p q d) (τ := τ) (d0 := d0) (M := M) (b := b) (n := n - (k : Int)) (by omega) hWb hb1 hb3 (fun j hj hz => by have := hb5 j hj hz; omega)
                have hwb := hWb ((d0 + b : Nat) : Int)
                refine am_aload_n (x := 63) X (by rfl) dX10_bestSum_126 ?_
                refine am_getr (c1 := 76) X 63 fl_X10_46 (by decide) sh_63 (by decide) (by rfl) dX10_bestSum_127 ?_
                refine am_iload (x := be) X (by rfl) dX10_bestSum_130 ?_
                refine am_ic X (by decide) dX10_bestSum_132 ?_
                refine am_zasj X 76 (d0 + b) sh_76 (by omega) (by omega) (by first | exact Or.inl rfl | exact Or.inr rfl | omega) dX10_bestSum_133 ?_
                refine am_iload (x := su) X (by rfl) dX10_bestSum_134 ?_
                refine am_iload (x := mo) X (by rfl) dX10_bestSum_136 ?_
                refine am_add (v := (su + mo)) X (by first | rfl | omega) (by omega) dX10_bestSum_138 ?_
                refine am_istore (i := 5) (L' := [some (vr 63), some (vi p), some (vi q), some (vi n), some (vi t), some (vi (su + mo)), some (vi (k : Int)), some (vi be), some (vi mo), some (vi dv), none]) X (Nat.le_of_ble_eq_true rfl) (by rfl) dX10_bestSum_139 ?_
                refine am_inc (x := (k : Int)) (v := ((k : Int) + 1)) (L' := [some (vr 63), some (vi p), some (vi q), some (vi n), some (vi t), some (vi (su + mo)), some (vi ((k : Int) + 1)), some (vi be), some (vi mo), some (vi dv), none]) X (by rfl) (by omega) (by omega) (by rfl) dX10_bestSum_141 ?_
                refine am_goto (tgt := 34) X dX10_bestSum_144 (by decide) ?_
                refine am_fg [true, true, true, true, true, true, true, false, false, false, false] rfl (L' := [some (vr 63), some (vi p), some (vi q), some (vi n), some (vi t), some (vi (su + mo)), some (vi ((k : Int) + 1)), none, none, none, none]) rfl ?_
                exact ih34 _ (by omega) (k + 1) (su + mo) (am_up τ2 76 (d0 + b) 1) (by omega) (fun c j h1 h2 h3 => (am_up_k (by omega)).trans (hfr2 c j h1 h2 h3)) (by rw [pl_TU_congr (τ := am_up τ2 76 (d0 + b) 1) (τ' := am_up τ 76 (d0 + b) 1) (fun j _ => by unfold am_up; rw [h76]), show n - ((k + 1 : Nat) : Int) = n - (k : Int) - 1 by omega]; have hup2 : pl_TU (fun d => md_wv σ p q d) τ d0 M (n - (k : Int)) = pl_TU (fun d => md_wv σ p q d) (am_up τ 76 (d0 + b) 1) d0 M (n - (k : Int) - 1) + md_wv σ p q ((d0 + b : Nat) : Int) := hup; omega) (by omega) (fun j hj => by by_cases e : j = d0 + b; (rw [e, am_up_eq]; exact Or.inr rfl); rw [am_up_k (by omega), h76]; exact hbo j hj) rfl
            · skip
              refine am_aload_n (x := 63) X (by rfl) dX10_bestSum_61 ?_
              refine am_getr (c1 := 76) X 63 fl_X10_46 (by decide) sh_63 (by decide) (by rfl) dX10_bestSum_62 ?_
              refine am_iload (x := dv) X (by rfl) dX10_bestSum_65 ?_
              refine am_zalj (v := τ 76 (d0 + m)) X 76 (d0 + m) sh_76 (by omega) (by omega) (h76 _) dX10_bestSum_67 ?_
              refine am_if_eq (tgt := 75) X dX10_bestSum_68 (by decide) (fun h68 => ?_) (fun h68 => ?_)
              · skip
                refine am_aload_n (x := 63) X (by rfl) dX10_bestSum_75 ?_
                refine am_iload_n (x := p) X (by rfl) dX10_bestSum_76 ?_
                refine am_iload_n (x := q) X (by rfl) dX10_bestSum_77 ?_
                refine am_iload (x := dv) X (by rfl) dX10_bestSum_78 ?_
                refine am_callVi (ci := 9) X hY lk_X10_227 mf_X10_worthOf (m_X10_worthOf p q dv (dv / 4).toNat kp rfl hkp (by omega) τ2 ((md_frp_lw hfr2).2 hlaw) (by rw [hfr2 64 _ (by decide) (by decide) (Or.inl (by decide)), hfr2 64 _ (by decide) (by decide) (Or.inl (by decide))]; have h1 := hski.1 (dv / 4).toNat (by omega); have h2 := hski.2 kp (by omega); omega)) (by decide) (by decide) (Nat.le_refl _) (Nat.le_refl _) sh_63 rfl rfl rfl (Nat.le_of_ble_eq_true rfl) dX10_bestSum_80 (fun r80 sh80 σ80 hr80 hp80 => ?_)
                obtain ⟨rfl, hf80, hq80⟩ := hp80
                rw [md_frp_wv hfr2] at hq80
                have hw80 := hWb dv
                refine am_istore (i := 10) (L' := [some (vr 63), some (vi p), some (vi q), some (vi n), some (vi t), some (vi su), some (vi (k : Int)), some (vi be), some (vi mo), some (vi dv), some (vi r80)]) X (Nat.le_of_ble_eq_true rfl) (by rfl) dX10_bestSum_83 ?_
                refine am_aload_n (x := 63) X (by rfl) dX10_bestSum_85 ?_
                refine am_getr (c1 := 76) X 63 fl_X10_46 (by decide) sh_63 (by decide) (by rfl) dX10_bestSum_86 ?_
                refine am_iload (x := dv) X (by rfl) dX10_bestSum_89 ?_
                refine am_zalj (v := τ 76 (d0 + m)) X 76 (d0 + m) sh_76 (by omega) (by omega) ((hf80 76 _ (by decide) (Or.inl (by decide))).trans (h76 _)) dX10_bestSum_91 ?_
                refine am_if_ne (tgt := 115) X dX10_bestSum_92 (by decide) (fun h92 => ?_) (fun h92 => ?_)
                · skip
                  (exfalso; omega)
                · skip
                  refine am_iload (x := be) X (by rfl) dX10_bestSum_95 ?_
                  refine am_if_lt (tgt := 107) X dX10_bestSum_97 (by decide) (fun h97 => ?_) (fun h97 => ?_)
                  · skip
                    refine am_iload (x := dv) X (by rfl) dX10_bestSum_107 ?_
                    refine am_istore (i := 7) (L' := [some (vr 63), some (vi p), some (vi q), some (vi n), some (vi t), some (vi su), some (vi (k : Int)), some (vi dv), some (vi mo), some (vi dv), some (vi r80)]) X (Nat.le_of_ble_eq_true rfl) (by rfl) dX10_bestSum_109 ?_
                    refine am_iload (x := r80) X (by rfl) dX10_bestSum_111 ?_
                    refine am_istore (i := 8) (L' := [some (vr 63), some (vi p), some (vi q), some (vi n), some (vi t), some (vi su), some (vi (k : Int)), some (vi dv), some (vi r80), some (vi dv), some (vi r80)]) X (Nat.le_of_ble_eq_true rfl) (by rfl) dX10_bestSum_113 ?_
                    refine am_inc (x := dv) (v := (dv + 1)) (L' := [some (vr 63), some (vi p), some (vi q), some (vi n), some (vi t), some (vi su), some (vi (k : Int)), some (vi dv), some (vi r80), some (vi (dv + 1)), some (vi r80)]) X (by rfl) (by omega) (by omega) (by rfl) dX10_bestSum_115 ?_
                    refine am_goto (tgt := 54) X dX10_bestSum_118 (by decide) ?_
                    refine am_fg [true, true, true, true, true, true, true, true, true, true, false] rfl (L' := [some (vr 63), some (vi p), some (vi q), some (vi n), some (vi t), some (vi su), some (vi (k : Int)), some (vi dv), some (vi r80), some (vi (dv + 1)), none]) rfl ?_
                    exact ih54 _ (by omega) (m + 1) dv r80 σ80 (dv + 1) (by omega) (by omega) (by omega) (fun c j h1 h2 h3 => (hf80 c j h1 h3).trans (hfr2 c j h1 h2 h3)) (fun j => (hf80 76 j (by decide) (Or.inl (by decide))).trans (h76 j)) (by refine Or.inr ⟨m, by omega, hdv, h68, by rw [← hdv]; exact hq80, fun j hj hz => ?_⟩; by_cases e : j = m; (rw [e, ← hdv]; show md_wv σ p q dv ≤ _; omega); rcases htb with ⟨z1, z2, z3⟩ | ⟨b, z1, z2, z3, z4, z5⟩; exact absurd hz (z3 j (by omega)); exact Int.le_trans (z5 j (by omega) hz) (by omega)) rfl
                  · skip
                    refine am_iload (x := r80) X (by rfl) dX10_bestSum_100 ?_
                    refine am_iload (x := mo) X (by rfl) dX10_bestSum_102 ?_
                    refine am_icmp_le (tgt := 115) X dX10_bestSum_104 (by decide) (fun h104 => ?_) (fun h104 => ?_)
                    · skip
                      refine am_inc (x := dv) (v := (dv + 1)) (L' := [some (vr 63), some (vi p), some (vi q), some (vi n), some (vi t), some (vi su), some (vi (k : Int)), some (vi be), some (vi mo), some (vi (dv + 1)), some (vi r80)]) X (by rfl) (by omega) (by omega) (by rfl) dX10_bestSum_115 ?_
                      refine am_goto (tgt := 54) X dX10_bestSum_118 (by decide) ?_
                      refine am_fg [true, true, true, true, true, true, true, true, true, true, false] rfl (L' := [some (vr 63), some (vi p), some (vi q), some (vi n), some (vi t), some (vi su), some (vi (k : Int)), some (vi be), some (vi mo), some (vi (dv + 1)), none]) rfl ?_
                      exact ih54 _ (by omega) (m + 1) be mo σ80 (dv + 1) (by omega) (by omega) (by omega) (fun c j h1 h2 h3 => (hf80 c j h1 h3).trans (hfr2 c j h1 h2 h3)) (fun j => (hf80 76 j (by decide) (Or.inl (by decide))).trans (h76 j)) (by rcases htb with ⟨z1, z2, z3⟩ | ⟨b, z1, z2, z3, z4, z5⟩; exact absurd z1 (by omega); exact Or.inr ⟨b, by omega, z2, z3, z4, fun j hj hz => by by_cases e : j = m; (rw [e, ← hdv]; show md_wv σ p q dv ≤ _; omega); exact z5 j (by omega) hz⟩) rfl
                    · skip
                      refine am_iload (x := dv) X (by rfl) dX10_bestSum_107 ?_
                      refine am_istore (i := 7) (L' := [some (vr 63), some (vi p), some (vi q), some (vi n), some (vi t), some (vi su), some (vi (k : Int)), some (vi dv), some (vi mo), some (vi dv), some (vi r80)]) X (Nat.le_of_ble_eq_true rfl) (by rfl) dX10_bestSum_109 ?_
                      refine am_iload (x := r80) X (by rfl) dX10_bestSum_111 ?_
                      refine am_istore (i := 8) (L' := [some (vr 63), some (vi p), some (vi q), some (vi n), some (vi t), some (vi su), some (vi (k : Int)), some (vi dv), some (vi r80), some (vi dv), some (vi r80)]) X (Nat.le_of_ble_eq_true rfl) (by rfl) dX10_bestSum_113 ?_
                      refine am_inc (x := dv) (v := (dv + 1)) (L' := [some (vr 63), some (vi p), some (vi q), some (vi n), some (vi t), some (vi su), some (vi (k : Int)), some (vi dv), some (vi r80), some (vi (dv + 1)), some (vi r80)]) X (by rfl) (by omega) (by omega) (by rfl) dX10_bestSum_115 ?_
                      refine am_goto (tgt := 54) X dX10_bestSum_118 (by decide) ?_
                      refine am_fg [true, true, true, true, true, true, true, true, true, true, false] rfl (L' := [some (vr 63), some (vi p), some (vi q), some (vi n), some (vi t), some (vi su), some (vi (k : Int)), some (vi dv), some (vi r80), some (vi (dv + 1)), none]) rfl ?_
                      exact ih54 _ (by omega) (m + 1) dv r80 σ80 (dv + 1) (by omega) (by omega) (by omega) (fun c j h1 h2 h3 => (hf80 c j h1 h3).trans (hfr2 c j h1 h2 h3)) (fun j => (hf80 76 j (by decide) (Or.inl (by decide))).trans (h76 j)) (by refine Or.inr ⟨m, by omega, hdv, h68, by rw [← hdv]; exact hq80, fun j hj hz => ?_⟩; by_cases e : j = m; (rw [e, ← hdv]; show md_wv σ p q dv ≤ _; omega); rcases htb with ⟨z1, z2, z3⟩ | ⟨b, z1, z2, z3, z4, z5⟩; exact absurd hz (z3 j (by omega)); exact Int.le_trans (z5 j (by omega) hz) (by omega)) rfl
              · skip
                refine am_ic X (by decide) dX10_bestSum_71 ?_
                refine am_goto (tgt := 83) X dX10_bestSum_72 (by decide) ?_
                refine am_istore (i := 10) (L' := [some (vr 63), some (vi p), some (vi q), some (vi n), some (vi t), some (vi su), some (vi (k : Int)), some (vi be), some (vi mo), some (vi dv), some (vi 0)]) X (Nat.le_of_ble_eq_true rfl) (by rfl) dX10_bestSum_83 ?_
                refine am_aload_n (x := 63) X (by rfl) dX10_bestSum_85 ?_
                refine am_getr (c1 := 76) X 63 fl_X10_46 (by decide) sh_63 (by decide) (by rfl) dX10_bestSum_86 ?_
                refine am_iload (x := dv) X (by rfl) dX10_bestSum_89 ?_
                refine am_zalj (v := τ 76 (d0 + m)) X 76 (d0 + m) sh_76 (by omega) (by omega) (h76 _) dX10_bestSum_91 ?_
                refine am_if_ne (tgt := 115) X dX10_bestSum_92 (by decide) (fun h92 => ?_) (fun h92 => ?_)
                · skip
                  refine am_inc (x := dv) (v := (dv + 1)) (L' := [some (vr 63), some (vi p), some (vi q), some (vi n), some (vi t), some (vi su), some (vi (k : Int)), some (vi be), some (vi mo), some (vi (dv + 1)), some (vi 0)]) X (by rfl) (by omega) (by omega) (by rfl) dX10_bestSum_115 ?_
                  refine am_goto (tgt := 54) X dX10_bestSum_118 (by decide) ?_
                  refine am_fg [true, true, true, true, true, true, true, true, true, true, false] rfl (L' := [some (vr 63), some (vi p), some (vi q), some (vi n), some (vi t), some (vi su), some (vi (k : Int)), some (vi be), some (vi mo), some (vi (dv + 1)), none]) rfl ?_
                  exact ih54 _ (by omega) (m + 1) be mo τ2 (dv + 1) (by omega) (by omega) (by omega) (hfr2) (h76) (by rcases htb with ⟨z1, z2, z3⟩ | ⟨b, z1, z2, z3, z4, z5⟩; exact Or.inl ⟨z1, z2, fun j hj => by by_cases e : j = m; (rw [e]; exact h68); exact z3 j (by omega)⟩; exact Or.inr ⟨b, by omega, z2, z3, z4, fun j hj hz => by by_cases e : j = m; (rw [e] at hz; exact absurd hz h68); exact z5 j (by omega) hz⟩) rfl
                · skip
                  (exfalso; omega)
          exact hL54 _ 0 (-1) 0 τ (σ 63 9 + 3) (by omega) (Nat.zero_le _) (by omega) (hfr) (fun _ => rfl) (Or.inl ⟨rfl, rfl, fun j hj => absurd hj (Nat.not_lt_zero _)⟩) rfl
      exact hL34 _ 0 0 (md_ih σ 48) (by omega) (fun c j h1 h2 h3 => md_ih_at h2) (by rw [show n - ((0 : Nat) : Int) = n by omega, Int.zero_add]; exact pl_TU_T (fun m hm => by unfold md_ih; rw [if_pos ⟨rfl, by omega⟩]; split <;> omega)) (by omega) (fun j hj => by unfold md_ih; rw [if_pos ⟨rfl, hj⟩]; split <;> omega) rfl
    · skip
      refine am_aload_n (x := 63) X (by rfl) dX10_bestSum_10 ?_
      refine am_getr (c1 := 76) X 63 fl_X10_46 (by decide) sh_63 (by decide) (by rfl) dX10_bestSum_11 ?_
      refine am_iload (x := (k : Int)) X (by rfl) dX10_bestSum_14 ?_
      refine am_iload (x := (k : Int)) X (by rfl) dX10_bestSum_16 ?_
      refine am_callSi X hY lk_X10_234 mf_X10_isHoly (m_X10_isHoly (k : Int) (by omega) _ (md_ih σ k)) (by decide) (by decide) (Nat.le_refl _) (Nat.le_refl _) rfl rfl (Nat.le_of_ble_eq_true rfl) dX10_bestSum_18 (fun r18 sh18 σ18 hr18 hp18 => ?_)
      obtain ⟨rfl, rfl, hq18⟩ := hp18
      refine am_zasj X 76 k sh_76 (by omega) (by omega) (by first | exact Or.inl rfl | exact Or.inr rfl | omega) dX10_bestSum_21 ?_
      refine am_inc (x := (k : Int)) (v := ((k : Int) + 1)) (L' := [some (vr 63), some (vi p), some (vi q), some (vi n), some (vi t), some (vi ((k : Int) + 1)), none, none, none, none, none]) X (by rfl) (by omega) (by omega) (by rfl) dX10_bestSum_22 ?_
      refine am_goto (tgt := 3) X dX10_bestSum_25 (by decide) ?_
      refine am_sg (md_ih σ (k + 1)) (md_ih_s hq18) ?_
      exact ih3 _ (by omega) (k + 1) (by omega) rfl
  refine am_sg (md_ih σ 0) ((md_ih_0 σ).symm) ?_
  exact hL3 _ 0 (by omega) rfl

set_option maxHeartbeats 4000000 in
set_option maxRecDepth 100000 in
theorem m_X10_plan (σ : am_H) (a b : Int) (hp : 0 ≤ σ 63 6 ∧ σ 63 6 ≤ 8) (hc : 0 ≤ σ 63 7 ∧ σ 63 7 ≤ 20) (hd : ∀ n : Nat, (n : Int) < σ 63 7 → 0 ≤ σ 68 (5 * n + 2) ∧ σ 68 (5 * n + 2) ≤ 9) (hlaw : MLaw σ) (hski : MskV σ) (hn : 0 ≤ σ 63 9 ∧ σ 63 9 ≤ 48) : am_Mi yX10_plan cX10_plan 5 (some .int) 47 0 0 [vr 63, vi a, vi b] SH σ (fun r sh' σ' => SH = sh' ∧ md_frp σ σ' ∧ r = (if (0 ≤ a ∧ a < σ 63 6) ∧ 0 ≤ b ∧ b ≤ 47 then am_sum (fun k : Nat => pl_T (fun d => md_wv σ (k : Int) a d) (σ 63 9 + 3) (b + 1 - (σ 63 9 + 3)).toNat (md_owed σ (k : Int) a)) (σ 63 6).toNat else -1)) := by
  refine am_Mi_of (by decide +kernel) (Nat.le_of_ble_eq_true rfl) (fun K X hY hI hret => ?_)
  show am_G K 0 [some (vr 63), some (vi a), some (vi b), none, none] [] SH σ
  refine am_aload_n (x := 63) X (by rfl) dX10_plan_0 ?_
  refine am_iload_n (x := a) X (by rfl) dX10_plan_1 ?_
  refine am_callVi (ci := 9) X hY lk_X10_107 mf_X10_isPerson (m_X10_isPerson a σ hp) (by decide) (by decide) (Nat.le_refl _) (Nat.le_refl _) sh_63 rfl rfl rfl (Nat.le_of_ble_eq_true rfl) dX10_plan_2 (fun r2 sh2 σ2 hr2 hp2 => ?_)
  obtain ⟨rfl, rfl, hq2⟩ := hp2
  refine am_if_eq (tgt := 15) X dX10_plan_5 (by decide) (fun h5 => ?_) (fun h5 => ?_)
  · skip
    refine am_ic X (by decide) dX10_plan_15 ?_
    exact hret _ _ _ _ _ dX10_plan_16 rfl rfl (⟨rfl, fun _ _ _ _ _ => rfl, by rw [if_neg (by omega)]⟩)
  · skip
    refine am_iload_n (x := b) X (by rfl) dX10_plan_8 ?_
    refine am_callSi X hY lk_X10_224 mf_X10_isDay (m_X10_isDay b _ σ) (by decide) (by decide) (Nat.le_refl _) (Nat.le_refl _) rfl rfl (Nat.le_of_ble_eq_true rfl) dX10_plan_9 (fun r9 sh9 σ9 hr9 hp9 => ?_)
    obtain ⟨rfl, rfl, hq9⟩ := hp9
    refine am_if_ne (tgt := 17) X dX10_plan_12 (by decide) (fun h12 => ?_) (fun h12 => ?_)
    · skip
      refine am_ic X (by decide) dX10_plan_17 ?_
      refine am_istore_n (i := 3) (L' := [some (vr 63), some (vi a), some (vi b), some (vi 0), none]) X rfl (Nat.le_of_ble_eq_true rfl) (by rfl) dX10_plan_18 ?_
      refine am_ic X (by decide) dX10_plan_19 ?_
      refine am_istore (i := 4) (L' := [some (vr 63), some (vi a), some (vi b), some (vi 0), some (vi 0)]) X (Nat.le_of_ble_eq_true rfl) (by rfl) dX10_plan_20 ?_
      have hL22 : ∀ (m22 : Nat) (k : Nat) (s : Int) (τ : am_H) (hk : (k : Int) ≤ σ 63 6) (hs : s = am_sum (fun k : Nat => pl_T (fun d => md_wv σ (k : Int) a d) (σ 63 9 + 3) (b + 1 - (σ 63 9 + 3)).toNat (md_owed σ (k : Int) a)) k) (hsb : 0 ≤ s ∧ s ≤ 5000 * (k : Int)) (hfr : md_frp σ τ) (hm22 : 8 - k = m22), am_G K 22 [some (vr 63), some (vi a), some (vi b), some (vi s), some (vi (k : Int))] [] SH τ := by
        intro m22
        induction m22 using Nat.strongRecOn with
        | ind m22 ih22 =>
        intro k s τ hk hs hsb hfr hm22
        refine am_iload (x := (k : Int)) X (by rfl) dX10_plan_22 ?_
        refine am_aload_n (x := 63) X (by rfl) dX10_plan_24 ?_
        refine am_get (v := σ 63 6) X 63 fl_X10_100 (by decide) sh_63 (by decide) (hfr 63 6 (by decide) (by decide) (by decide)) dX10_plan_25 ?_
        refine am_icmp_ge (tgt := 55) X dX10_plan_28 (by decide) (fun h28 => ?_) (fun h28 => ?_)
        · skip
          refine am_iload_n (x := s) X (by rfl) dX10_plan_55 ?_
          exact hret _ _ _ _ _ dX10_plan_56 rfl rfl (⟨rfl, hfr, by rw [if_pos (by omega), hs, show (σ 63 6).toNat = k by omega]⟩)
        · skip
          refine am_iload_n (x := s) X (by rfl) dX10_plan_31 ?_
          refine am_aload_n (x := 63) X (by rfl) dX10_plan_32 ?_
          refine am_iload (x := (k : Int)) X (by rfl) dX10_plan_33 ?_
          refine am_iload_n (x := a) X (by rfl) dX10_plan_35 ?_
          refine am_aload_n (x := 63) X (by rfl) dX10_plan_36 ?_
          refine am_iload (x := (k : Int)) X (by rfl) dX10_plan_37 ?_
          refine am_iload_n (x := a) X (by rfl) dX10_plan_39 ?_
          refine am_callVi (ci := 9) X hY lk_X10_167 mf_X10_owedBetween (m_X10_owedBetween (k : Int) a τ (by rw [hfr 63 7 (by decide) (by decide) (by decide)]; exact hc) (fun n hn => by rw [hfr 63 7 (by decide) (by decide) (by decide)] at hn; rw [hfr 68 _ (by decide) (by decide) (Or.inl (by decide))]; exact hd n hn)) (by decide) (by decide) (Nat.le_refl _) (Nat.le_refl _) sh_63 rfl rfl rfl (Nat.le_of_ble_eq_true rfl) dX10_plan_40 (fun r40 sh40 σ40 hr40 hp40 => ?_)
          obtain ⟨rfl, rfl, hq40⟩ := hp40
          have hco : r40 = md_owed σ (k : Int) a := hq40.1.trans (md_owed_frp hfr _ _)
          refine am_iload_n (x := b) X (by rfl) dX10_plan_43 ?_
          refine am_callVi (ci := 9) X hY lk_X10_265 mf_X10_bestSum (m_X10_bestSum τ (k : Int) a r40 b k (b + 1 - (σ 63 9 + 3)).toNat (σ 63 9 + 3).toNat rfl (by rw [hfr 63 6 (by decide) (by decide) (by decide)]; omega) (by omega) (by omega) (by rw [hfr 63 9 (by decide) (by decide) (by decide)]) (by rw [hfr 63 9 (by decide) (by decide) (by decide)]) (by rw [hfr 63 6 (by decide) (by decide) (by decide)]; exact hp) ((md_frp_lw hfr).2 hlaw) (md_ski_frp hfr hski) (by rw [hfr 63 9 (by decide) (by decide) (by decide)]; exact hn)) (by decide) (by decide) (Nat.le_refl _) (Nat.le_refl _) sh_63 rfl rfl rfl (Nat.le_of_ble_eq_true rfl) dX10_plan_44 (fun r44 sh44 σ44 hr44 hp44 => ?_)
          obtain ⟨rfl, hf44, hq44⟩ := hp44
          rw [show (fun d => md_wv τ (k : Int) a d) = (fun d => md_wv σ (k : Int) a d) from funext (fun d => md_frp_wv hfr _ _ _)] at hq44
          refine am_add (v := (s + r44)) X (by first | rfl | omega) (by omega) dX10_plan_47 ?_
          refine am_istore_n (i := 3) (L' := [some (vr 63), some (vi a), some (vi b), some (vi (s + r44)), some (vi (k : Int))]) X rfl (Nat.le_of_ble_eq_true rfl) (by rfl) dX10_plan_48 ?_
          refine am_inc (x := (k : Int)) (v := ((k : Int) + 1)) (L' := [some (vr 63), some (vi a), some (vi b), some (vi (s + r44)), some (vi ((k : Int) + 1))]) X (by rfl) (by omega) (by omega) (by rfl) dX10_plan_49 ?_
          refine am_goto (tgt := 22) X dX10_plan_52 (by decide) ?_
          exact ih22 _ (by omega) (k + 1) (s + r44) σ44 (by omega) (by show _ = am_sum (fun k : Nat => pl_T (fun d => md_wv σ (k : Int) a d) (σ 63 9 + 3) (b + 1 - (σ 63 9 + 3)).toNat (md_owed σ (k : Int) a)) k + pl_T (fun d => md_wv σ (k : Int) a d) (σ 63 9 + 3) (b + 1 - (σ 63 9 + 3)).toNat (md_owed σ (k : Int) a); rw [← hs, ← hco, show (σ 63 9 + 3) = (((σ 63 9 + 3).toNat : Nat) : Int) by omega]; have h9 := hq44.1; rw [show (b + 1 - (((σ 63 9 + 3).toNat : Nat) : Int)).toNat = (b + 1 - (σ 63 9 + 3)).toNat by omega, ← h9]) (by omega) (fun c j h1 h2 h3 => (hf44 c j h1 h2 h3).trans (hfr c j h1 h2 h3)) rfl
      exact hL22 _ 0 0 σ (by omega) (rfl) (by omega) (fun _ _ _ _ _ => rfl) rfl
    · skip
      refine am_ic X (by decide) dX10_plan_15 ?_
      exact hret _ _ _ _ _ dX10_plan_16 rfl rfl (⟨rfl, fun _ _ _ _ _ => rfl, by rw [if_neg (by omega)]⟩)
