set_option maxHeartbeats 4000000 in
set_option maxRecDepth 100000 in
theorem m_X8_takeNet (σ : am_H) (hp : 0 ≤ σ 1 2 ∧ σ 1 2 ≤ 8) (hc : 0 ≤ σ 16 5 ∧ σ 16 5 ≤ 20) (hd : ∀ n : Nat, (n : Int) < σ 16 5 → 0 ≤ σ 19 n ∧ σ 19 n ≤ 9) (hdeb : DebV σ) (hun : ∀ j : Nat, (j : Int) < σ 16 5 → σ 17 j ≠ σ 18 j) : am_Mv yX8_takeNet cX8_takeNet 3 none 0 0 0 [vr 42, vr 16] SH σ (fun sh' σ' => SH = sh' ∧ c_tn σ (σ 16 5).toNat = σ' ∧ True) := by
  refine am_Mv_of (by decide +kernel) (Nat.le_of_ble_eq_true rfl) (fun K X hY hI hret => ?_)
  show am_G K 0 [some (vr 42), some (vr 16), none] [] SH σ
  refine am_ic X (by decide) dX8_takeNet_0 ?_
  refine am_istore_n (i := 2) (L' := [some (vr 42), some (vr 16), some (vi 0)]) X rfl (Nat.le_of_ble_eq_true rfl) (by rfl) dX8_takeNet_1 ?_
  have hL2 : ∀ (m2 : Nat) (k : Nat) (hk : k ≤ 8) (hm2 : 8 - k = m2), am_G K 2 [some (vr 42), some (vr 16), some (vi (k : Int))] [] SH (c_tz σ k) := by
    intro m2
    induction m2 using Nat.strongRecOn with
    | ind m2 ih2 =>
    intro k hk hm2
    refine am_iload_n (x := (k : Int)) X (by rfl) dX8_takeNet_2 ?_
    refine am_bipush X (by decide) dX8_takeNet_3 ?_
    refine am_icmp_ge (tgt := 21) X dX8_takeNet_5 (by decide) (fun h5 => ?_) (fun h5 => ?_)
    · skip
      refine am_ic X (by decide) dX8_takeNet_21 ?_
      refine am_istore_n (i := 2) (L' := [some (vr 42), some (vr 16), some (vi 0)]) X rfl (Nat.le_of_ble_eq_true rfl) (by rfl) dX8_takeNet_22 ?_
      have hL23 : ∀ (m23 : Nat) (j : Nat) (hj : (j : Int) ≤ σ 16 5) (hm23 : 20 - j = m23), am_G K 23 [some (vr 42), some (vr 16), some (vi (j : Int))] [] SH (c_tn σ j) := by
        intro m23
        induction m23 using Nat.strongRecOn with
        | ind m23 ih23 =>
        intro j hj hm23
        refine am_iload_n (x := (j : Int)) X (by rfl) dX8_takeNet_23 ?_
        refine am_aload_n (x := 16) X (by rfl) dX8_takeNet_24 ?_
        refine am_get (v := σ 16 5) X 16 fl_X8_31 (by decide) sh_16 (by decide) (c_tn_at (by decide)) dX8_takeNet_25 ?_
        refine am_icmp_ge (tgt := 88) X dX8_takeNet_28 (by decide) (fun h28 => ?_) (fun h28 => ?_)
        · skip
          exact hret _ _ _ _ dX8_takeNet_88 rfl rfl (by rw [show (σ 16 5).toNat = j by omega]; exact ⟨rfl, rfl, trivial⟩)
        · skip
          have hdbj := hdeb j (by omega)
          have hdj := hd j (by omega)
          have hune := hun j (by omega)
          have hb1 : ∀ k, -180 ≤ am_sum (c_con σ k) j ∧ am_sum (c_con σ k) j ≤ 180 := fun k => by
            have h := am_sum_rg (f := c_con σ k) (m := 9) j (fun i hi => by have := hd i (by omega); unfold c_con; (repeat' split) <;> omega)
            omega
          have hbp := hb1 (σ 17 j).toNat
          have hbq := hb1 (σ 18 j).toNat
          refine am_aload_n (x := 16) X (by rfl) dX8_takeNet_31 ?_
          refine am_getr (c1 := 20) X 16 fl_X8_37 (by decide) sh_16 (by decide) (by rfl) dX8_takeNet_32 ?_
          refine am_iload_n (x := (j : Int)) X (by rfl) dX8_takeNet_35 ?_
          refine am_ald (v := σ 20 j) X 20 j sh_20 (by omega) (by omega) (c_tn_at (by decide)) dX8_takeNet_36 ?_
          refine am_bipush X (by decide) dX8_takeNet_37 ?_
          refine am_icmp_ne (tgt := 82) X dX8_takeNet_39 (by decide) (fun h39 => ?_) (fun h39 => ?_)
          · skip
            refine am_inc (x := (j : Int)) (v := ((j : Int) + 1)) (L' := [some (vr 42), some (vr 16), some (vi ((j : Int) + 1))]) X (by rfl) (by omega) (by omega) (by rfl) dX8_takeNet_82 ?_
            refine am_goto (tgt := 23) X dX8_takeNet_85 (by decide) ?_
            refine am_sg (c_tn σ (j + 1)) (c_tn_s0 (by omega)) ?_
            exact ih23 _ (by omega) (j + 1) (by omega) rfl
          · skip
            refine am_aload_n (x := 42) X (by rfl) dX8_takeNet_42 ?_
            refine am_getr (c1 := 43) X 42 fl_X8_9 (by decide) sh_42 (by decide) (by rfl) dX8_takeNet_43 ?_
            refine am_aload_n (x := 16) X (by rfl) dX8_takeNet_46 ?_
            refine am_getr (c1 := 17) X 16 fl_X8_40 (by decide) sh_16 (by decide) (by rfl) dX8_takeNet_47 ?_
            refine am_iload_n (x := (j : Int)) X (by rfl) dX8_takeNet_50 ?_
            refine am_ald (v := σ 17 j) X 17 j sh_17 (by omega) (by omega) (c_tn_at (by decide)) dX8_takeNet_51 ?_
            refine am_dup2 X (Nat.ne_of_beq_eq_false rfl) (Nat.ne_of_beq_eq_false rfl) dX8_takeNet_52 ?_
            refine am_ald (v := am_sum (c_con σ ((σ 17 j).toNat)) j) X 43 ((σ 17 j).toNat) sh_43 (by omega) (by omega) (c_tn_43 (by omega)) dX8_takeNet_53 ?_
            refine am_aload_n (x := 16) X (by rfl) dX8_takeNet_54 ?_
            refine am_getr (c1 := 19) X 16 fl_X8_43 (by decide) sh_16 (by decide) (by rfl) dX8_takeNet_55 ?_
            refine am_iload_n (x := (j : Int)) X (by rfl) dX8_takeNet_58 ?_
            refine am_ald (v := σ 19 j) X 19 j sh_19 (by omega) (by omega) (c_tn_at (by decide)) dX8_takeNet_59 ?_
            refine am_sub (v := (am_sum (c_con σ ((σ 17 j).toNat)) j - σ 19 j)) X (by first | rfl | omega) (by omega) dX8_takeNet_60 ?_
            refine am_ast X 43 ((σ 17 j).toNat) sh_43 (by omega) (by omega) dX8_takeNet_61 ?_
            refine am_aload_n (x := 42) X (by rfl) dX8_takeNet_62 ?_
            refine am_getr (c1 := 43) X 42 fl_X8_9 (by decide) sh_42 (by decide) (by rfl) dX8_takeNet_63 ?_
            refine am_aload_n (x := 16) X (by rfl) dX8_takeNet_66 ?_
            refine am_getr (c1 := 18) X 16 fl_X8_46 (by decide) sh_16 (by decide) (by rfl) dX8_takeNet_67 ?_
            refine am_iload_n (x := (j : Int)) X (by rfl) dX8_takeNet_70 ?_
            refine am_ald (v := σ 18 j) X 18 j sh_18 (by omega) (by omega) ((am_up_k (by omega)).trans (c_tn_at (by decide))) dX8_takeNet_71 ?_
            refine am_dup2 X (Nat.ne_of_beq_eq_false rfl) (Nat.ne_of_beq_eq_false rfl) dX8_takeNet_72 ?_
            refine am_ald (v := am_sum (c_con σ ((σ 18 j).toNat)) j) X 43 ((σ 18 j).toNat) sh_43 (by omega) (by omega) ((am_up_k (by omega)).trans (c_tn_43 (by omega))) dX8_takeNet_73 ?_
            refine am_aload_n (x := 16) X (by rfl) dX8_takeNet_74 ?_
            refine am_getr (c1 := 19) X 16 fl_X8_43 (by decide) sh_16 (by decide) (by rfl) dX8_takeNet_75 ?_
            refine am_iload_n (x := (j : Int)) X (by rfl) dX8_takeNet_78 ?_
            refine am_ald (v := σ 19 j) X 19 j sh_19 (by omega) (by omega) ((am_up_k (by omega)).trans (c_tn_at (by decide))) dX8_takeNet_79 ?_
            refine am_add (v := (am_sum (c_con σ ((σ 18 j).toNat)) j + σ 19 j)) X (by first | rfl | omega) (by omega) dX8_takeNet_80 ?_
            refine am_ast X 43 ((σ 18 j).toNat) sh_43 (by omega) (by omega) dX8_takeNet_81 ?_
            refine am_inc (x := (j : Int)) (v := ((j : Int) + 1)) (L' := [some (vr 42), some (vr 16), some (vi ((j : Int) + 1))]) X (by rfl) (by omega) (by omega) (by rfl) dX8_takeNet_82 ?_
            refine am_goto (tgt := 23) X dX8_takeNet_85 (by decide) ?_
            refine am_sg (c_tn σ (j + 1)) (c_tn_s1 (by omega) (by omega) (by omega) (by omega)) ?_
            exact ih23 _ (by omega) (j + 1) (by omega) rfl
      refine am_sg (c_tn σ 0) (by rw [show k = 8 by omega]; rfl) ?_
      exact hL23 _ 0 (by omega) rfl
    · skip
      refine am_aload_n (x := 42) X (by rfl) dX8_takeNet_8 ?_
      refine am_getr (c1 := 43) X 42 fl_X8_9 (by decide) sh_42 (by decide) (by rfl) dX8_takeNet_9 ?_
      refine am_iload_n (x := (k : Int)) X (by rfl) dX8_takeNet_12 ?_
      refine am_ic X (by decide) dX8_takeNet_13 ?_
      refine am_ast X 43 k sh_43 (by omega) (by omega) dX8_takeNet_14 ?_
      refine am_inc (x := (k : Int)) (v := ((k : Int) + 1)) (L' := [some (vr 42), some (vr 16), some (vi ((k : Int) + 1))]) X (by rfl) (by omega) (by omega) (by rfl) dX8_takeNet_15 ?_
      refine am_goto (tgt := 2) X dX8_takeNet_18 (by decide) ?_
      refine am_sg (c_tz σ (k + 1)) (c_tz_s) ?_
      exact ih2 _ (by omega) (k + 1) (by omega) rfl
  refine am_sg (c_tz σ 0) ((c_tz_0 σ).symm) ?_
  exact hL2 _ 0 (by omega) rfl

set_option maxHeartbeats 4000000 in
set_option maxRecDepth 100000 in
theorem m_X8_fewest (σ : am_H) (P N : Nat) (hPP : P ≤ 8) (hPe : σ 1 2 = (P : Int)) (hN : 2 ^ P = N) (hp : 0 ≤ σ 1 2 ∧ σ 1 2 ≤ 8) (hc : 0 ≤ σ 16 5 ∧ σ 16 5 ≤ 20) (hd : ∀ n : Nat, (n : Int) < σ 16 5 → 0 ≤ σ 19 n ∧ σ 19 n ≤ 9) (hdeb : DebV σ) (hun : ∀ j : Nat, (j : Int) < σ 16 5 → σ 17 j ≠ σ 18 j) (h00 : σ 44 0 = 0 ∧ σ 45 0 = 0) : am_Mi yX8_fewest cX8_fewest 7 (some .int) 1 0 0 [vr 42, vr 16, vi (P : Int)] SH σ (fun r sh' σ' => SH = sh' ∧ (∀ c k : Nat, c ≠ 43 → c ≠ 44 → c ≠ 45 → σ' c k = σ c k) ∧ (σ' 44 0 = 0 ∧ σ' 45 0 = 0) ∧ wp_ch (σ' 45) (c_net σ) P N ∧ r = (P : Int) - σ' 45 (N - 1)) := by
  refine am_Mi_of (by decide +kernel) (Nat.le_of_ble_eq_true rfl) (fun K X hY hI hret => ?_)
  show am_G K 0 [some (vr 42), some (vr 16), some (vi (P : Int)), none, none, none, none] [] SH σ
  obtain ⟨hP2, hN1, hN2⟩ := wb_p ⟨P, by omega⟩
  have hP2 : am_shl 1 (P : Int) = ((2 ^ P : Nat) : Int) := hP2
  have hN1 : 1 ≤ 2 ^ P := hN1
  have hN2 : 2 ^ P ≤ 256 := hN2
  rw [hN] at hP2 hN1 hN2
  have hnb : ∀ k, -180 ≤ c_net σ k ∧ c_net σ k ≤ 180 := fun k => by
    have h := am_sum_rg (f := c_con σ k) (m := 9) (σ 16 5).toNat (fun i hi => by have := hd i (by omega); unfold c_con; (repeat' split) <;> omega)
    have h : -(9 * ((σ 16 5).toNat : Int)) ≤ c_net σ k ∧ c_net σ k ≤ 9 * ((σ 16 5).toNat : Int) := h
    omega
  refine am_aload_n (x := 42) X (by rfl) dX8_fewest_0 ?_
  refine am_aload_n (x := 16) X (by rfl) dX8_fewest_1 ?_
  refine am_callVv (ci := 7) X hY lk_X8_21 mf_X8_takeNet (m_X8_takeNet σ hp hc hd hdeb hun) (by decide) (by decide) (Nat.le_refl _) (Nat.le_refl _) sh_42 rfl rfl rfl (Nat.le_of_ble_eq_true rfl) dX8_fewest_2 (fun sh2 σ2 hp2 => ?_)
  obtain ⟨rfl, rfl, hq2⟩ := hp2
  refine am_ic X (by decide) dX8_fewest_5 ?_
  refine am_istore_n (i := 3) (L' := [some (vr 42), some (vr 16), some (vi (P : Int)), some (vi 1), none, none, none]) X rfl (Nat.le_of_ble_eq_true rfl) (by rfl) dX8_fewest_6 ?_
  have hL7 : ∀ (m7 : Nat) (s : Nat) (τ : am_H) (hs1 : 1 ≤ s ∧ s ≤ N) (hfr : ∀ c k : Nat, c ≠ 43 → c ≠ 44 → c ≠ 45 → τ c k = σ c k) (h43 : ∀ k, k < 8 → τ 43 k = c_net σ k) (hS : ∀ r, r < s → τ 44 r = wp_sm (c_net σ) r P) (hch : wp_ch (τ 45) (c_net σ) P s) (hT : ∀ r : Nat, r < s → 0 ≤ τ 45 r ∧ τ 45 r ≤ (r : Int)) (hm7 : N - s = m7), am_G K 7 [some (vr 42), some (vr 16), some (vi (P : Int)), some (vi (s : Int)), none, none, none] [] SH τ := by
    intro m7
    induction m7 using Nat.strongRecOn with
    | ind m7 ih7 =>
    intro s τ hs1 hfr h43 hS hch hT hm7
    refine am_iload_n (x := (s : Int)) X (by rfl) dX8_fewest_7 ?_
    refine am_ic X (by decide) dX8_fewest_8 ?_
    refine am_iload_n (x := (P : Int)) X (by rfl) dX8_fewest_9 ?_
    refine am_ishl X dX8_fewest_10 ?_
    refine am_icmp_ge (tgt := 114) X dX8_fewest_11 (by decide) (fun h11 => ?_) (fun h11 => ?_)
    · skip
      have hTN := hT (N - 1) (by omega)
      refine am_iload_n (x := (P : Int)) X (by rfl) dX8_fewest_114 ?_
      refine am_aload_n (x := 42) X (by rfl) dX8_fewest_115 ?_
      refine am_getr (c1 := 45) X 42 fl_X8_18 (by decide) sh_42 (by decide) (by rfl) dX8_fewest_116 ?_
      refine am_ic X (by decide) dX8_fewest_119 ?_
      refine am_iload_n (x := (P : Int)) X (by rfl) dX8_fewest_120 ?_
      refine am_ishl X dX8_fewest_121 ?_
      refine am_ic X (by decide) dX8_fewest_122 ?_
      refine am_sub (v := ((am_shl 1 (P : Int)) - 1)) X (by first | rfl | omega) (by omega) dX8_fewest_123 ?_
      refine am_ald (v := τ 45 (N - 1)) X 45 (N - 1) sh_45 (by omega) (by omega) (rfl) dX8_fewest_124 ?_
      refine am_sub (v := ((P : Int) - τ 45 (N - 1))) X (by first | rfl | omega) (by omega) dX8_fewest_125 ?_
      exact hret _ _ _ _ _ dX8_fewest_126 rfl rfl (⟨rfl, hfr, ⟨by rw [hS 0 (by omega)]; unfold wp_sm; exact wp_sm_0 _ _, hch.1 (by omega)⟩, by rw [show N = s by omega]; exact hch, rfl⟩)
    · skip
      refine am_ic X (by decide) dX8_fewest_14 ?_
      refine am_istore (i := 4) (L' := [some (vr 42), some (vr 16), some (vi (P : Int)), some (vi (s : Int)), some (vi 0), none, none]) X (Nat.le_of_ble_eq_true rfl) (by rfl) dX8_fewest_15 ?_
      refine am_ic X (by decide) dX8_fewest_17 ?_
      refine am_istore (i := 5) (L' := [some (vr 42), some (vr 16), some (vi (P : Int)), some (vi (s : Int)), some (vi 0), some (vi 0), none]) X (Nat.le_of_ble_eq_true rfl) (by rfl) dX8_fewest_18 ?_
      have hL20 : ∀ (m20 : Nat) (p : Nat) (τ2 : am_H) (mo : Int) (hpP : p ≤ P) (hmo : mo = wp_mx (τ 45) s p) (hsum : ∀ q, q < p → am_bit (s : Int) q ≠ 0 → τ2 44 s = wp_sm (c_net σ) s P) (hfr2 : ∀ c k : Nat, c ≠ 43 → c ≠ 44 → c ≠ 45 → τ2 c k = σ c k) (h45 : ∀ k, τ2 45 k = τ 45 k) (h44 : ∀ k, k ≠ s → τ2 44 k = τ 44 k) (h43b : ∀ k, k < 8 → τ2 43 k = c_net σ k) (hm20 : P - p = m20), am_G K 20 [some (vr 42), some (vr 16), some (vi (P : Int)), some (vi (s : Int)), some (vi mo), some (vi (p : Int)), none] [] SH τ2 := by
        intro m20
        induction m20 using Nat.strongRecOn with
        | ind m20 ih20 =>
        intro p τ2 mo hpP hmo hsum hfr2 h45 h44 h43b hm20
        have hmb0 := wp_mx_bd (T := τ 45) (s := s) (m := (s : Int) - 1) (by omega) (by omega) p (by omega) (fun r hr => by have := hT r hr; omega)
        rw [← hmo] at hmb0
        refine am_iload (x := (p : Int)) X (by rfl) dX8_fewest_20 ?_
        refine am_iload_n (x := (P : Int)) X (by rfl) dX8_fewest_22 ?_
        refine am_icmp_ge (tgt := 84) X dX8_fewest_23 (by decide) (fun h23 => ?_) (fun h23 => ?_)
        · skip
          obtain ⟨q9, hq91, hq92⟩ := wb_e ⟨P, by omega⟩ ⟨s, by omega⟩ (by show 0 < s; omega) (by show s < 2 ^ P; omega)
          have hq93 : q9.val < P := hq91
          have hss := hsum q9.val (by omega) hq92
          have hmb := wp_mx_bd (T := τ 45) (s := s) (m := (s : Int) - 1) (by omega) (by omega) P hPP (fun r hr => by have := hT r hr; omega)
          have hpe : p = P := by omega
          rw [hpe] at hmo
          rw [← hmo] at hmb
          refine am_aload_n (x := 42) X (by rfl) dX8_fewest_84 ?_
          refine am_getr (c1 := 45) X 42 fl_X8_18 (by decide) sh_42 (by decide) (by rfl) dX8_fewest_85 ?_
          refine am_iload_n (x := (s : Int)) X (by rfl) dX8_fewest_88 ?_
          refine am_aload_n (x := 42) X (by rfl) dX8_fewest_89 ?_
          refine am_getr (c1 := 44) X 42 fl_X8_15 (by decide) sh_42 (by decide) (by rfl) dX8_fewest_90 ?_
          refine am_iload_n (x := (s : Int)) X (by rfl) dX8_fewest_93 ?_
          refine am_ald (v := τ2 44 s) X 44 s sh_44 (by omega) (by omega) (rfl) dX8_fewest_94 ?_
          refine am_if_ne (tgt := 105) X dX8_fewest_95 (by decide) (fun h95 => ?_) (fun h95 => ?_)
          · skip
            refine am_iload (x := mo) X (by rfl) dX8_fewest_105 ?_
            refine am_ast X 45 s sh_45 (by omega) (by omega) dX8_fewest_107 ?_
            refine am_inc (x := (s : Int)) (v := ((s : Int) + 1)) (L' := [some (vr 42), some (vr 16), some (vi (P : Int)), some (vi ((s : Int) + 1)), some (vi mo), some (vi (p : Int)), none]) X (by rfl) (by omega) (by omega) (by rfl) dX8_fewest_108 ?_
            refine am_goto (tgt := 7) X dX8_fewest_111 (by decide) ?_
            refine am_fg [true, true, true, true, false, false, false] rfl (L' := [some (vr 42), some (vr 16), some (vi (P : Int)), some (vi ((s : Int) + 1)), none, none, none]) rfl ?_
            exact ih7 _ (by omega) (s + 1) (am_up τ2 45 s mo) (by omega) (fun c k h1 h2 h3 => (am_up_k (by omega)).trans (hfr2 c k h1 h2 h3)) (fun k hk => (am_up_k (by omega)).trans (h43b k hk)) (fun r hr => by rw [am_up_k (by omega)]; by_cases e : r = s; (rw [e]; exact hss); rw [h44 r e]; exact hS r (by omega)) (⟨fun _ => by rw [am_up_k (by omega), h45]; exact hch.1 (by omega), fun r h1 h2 => by
  by_cases e : r = s
  · rw [e, am_up_eq, wp_mx_congr (T := (am_up τ2 45 s _) 45) (T' := τ 45) (s := s) (by omega) P hPP (fun q hq => (am_up_k (by omega)).trans (h45 q)), ← hmo, ← hss]; rw [if_neg (by omega), Int.add_zero]
  · rw [am_up_k (by omega), h45, wp_mx_congr (T := (am_up τ2 45 s _) 45) (T' := τ 45) (s := r) (by omega) P hPP (fun q hq => (am_up_k (by omega)).trans (h45 q))]; exact hch.2 r h1 (by omega)⟩) (fun r hr => by by_cases e : r = s; (rw [e, am_up_eq]; omega); rw [am_up_k (by omega), h45]; exact hT r (by omega)) rfl
          · skip
            refine am_iload (x := mo) X (by rfl) dX8_fewest_98 ?_
            refine am_ic X (by decide) dX8_fewest_100 ?_
            refine am_add (v := (mo + 1)) X (by first | rfl | omega) (by omega) dX8_fewest_101 ?_
            refine am_goto (tgt := 107) X dX8_fewest_102 (by decide) ?_
            refine am_ast X 45 s sh_45 (by omega) (by omega) dX8_fewest_107 ?_
            refine am_inc (x := (s : Int)) (v := ((s : Int) + 1)) (L' := [some (vr 42), some (vr 16), some (vi (P : Int)), some (vi ((s : Int) + 1)), some (vi mo), some (vi (p : Int)), none]) X (by rfl) (by omega) (by omega) (by rfl) dX8_fewest_108 ?_
            refine am_goto (tgt := 7) X dX8_fewest_111 (by decide) ?_
            refine am_fg [true, true, true, true, false, false, false] rfl (L' := [some (vr 42), some (vr 16), some (vi (P : Int)), some (vi ((s : Int) + 1)), none, none, none]) rfl ?_
            exact ih7 _ (by omega) (s + 1) (am_up τ2 45 s (mo + 1)) (by omega) (fun c k h1 h2 h3 => (am_up_k (by omega)).trans (hfr2 c k h1 h2 h3)) (fun k hk => (am_up_k (by omega)).trans (h43b k hk)) (fun r hr => by rw [am_up_k (by omega)]; by_cases e : r = s; (rw [e]; exact hss); rw [h44 r e]; exact hS r (by omega)) (⟨fun _ => by rw [am_up_k (by omega), h45]; exact hch.1 (by omega), fun r h1 h2 => by
  by_cases e : r = s
  · rw [e, am_up_eq, wp_mx_congr (T := (am_up τ2 45 s _) 45) (T' := τ 45) (s := s) (by omega) P hPP (fun q hq => (am_up_k (by omega)).trans (h45 q)), ← hmo, ← hss]; rw [if_pos (by omega)]
  · rw [am_up_k (by omega), h45, wp_mx_congr (T := (am_up τ2 45 s _) 45) (T' := τ 45) (s := r) (by omega) P hPP (fun q hq => (am_up_k (by omega)).trans (h45 q))]; exact hch.2 r h1 (by omega)⟩) (fun r hr => by by_cases e : r = s; (rw [e, am_up_eq]; omega); rw [am_up_k (by omega), h45]; exact hT r (by omega)) rfl
        · skip
          have hs256 : s < 256 := by omega
          have hp8 : p < 8 := by omega
          refine am_iload_n (x := (s : Int)) X (by rfl) dX8_fewest_26 ?_
          refine am_iload (x := (p : Int)) X (by rfl) dX8_fewest_27 ?_
          refine am_ishr X dX8_fewest_29 ?_
          refine am_ic X (by decide) dX8_fewest_30 ?_
          refine am_iand X dX8_fewest_31 ?_
          refine am_if_eq (tgt := 78) X dX8_fewest_32 (by decide) (fun h32 => ?_) (fun h32 => ?_)
          · skip
            have hbz : am_bit (s : Int) p = 0 := h32
            refine am_inc (x := (p : Int)) (v := ((p : Int) + 1)) (L' := [some (vr 42), some (vr 16), some (vi (P : Int)), some (vi (s : Int)), some (vi mo), some (vi ((p : Int) + 1)), none]) X (by rfl) (by omega) (by omega) (by rfl) dX8_fewest_78 ?_
            refine am_goto (tgt := 20) X dX8_fewest_81 (by decide) ?_
            exact ih20 _ (by omega) (p + 1) τ2 mo (by omega) (by unfold wp_mx at hmo ⊢; rw [am_it_succ, ← hmo, if_neg (by omega)]) (fun q hq hb => by rcases Nat.lt_or_ge q p with z | z; exact hsum q z hb; have e : q = p := (by omega); subst e; exact absurd hbz hb) (hfr2) (h45) (h44) (h43b) rfl
          · skip
            have hbn : am_bit (s : Int) p ≠ 0 := h32
            obtain ⟨x1, x2, x3, x4, x5⟩ := wb_x ⟨s, hs256⟩ ⟨p, hp8⟩ hbn
            obtain ⟨rs, hrs⟩ : ∃ rs : Nat, s - 2 ^ p = rs := ⟨_, rfl⟩
            have x1 : am_xor (s : Int) (am_shl 1 (p : Int)) = ((s - 2 ^ p : Nat) : Int) := x1
            have x3 : s - 2 ^ p < s := x3
            rw [hrs] at x1 x3
            have hv44 := h44 rs (by omega)
            have hvS := hS rs (by omega)
            have hv45 := h45 rs
            have hvT := hT rs (by omega)
            have hsmb := wp_sm_bd (net := c_net σ) (s := rs) (P := P) hPP (fun p _ => hnb p)
            have hv43 := h43b p hp8
            have hn43 := hnb p
            refine am_iload_n (x := (s : Int)) X (by rfl) dX8_fewest_35 ?_
            refine am_ic X (by decide) dX8_fewest_36 ?_
            refine am_iload (x := (p : Int)) X (by rfl) dX8_fewest_37 ?_
            refine am_ishl X dX8_fewest_39 ?_
            refine am_ixor X dX8_fewest_40 ?_
            refine am_istore (i := 6) (L' := [some (vr 42), some (vr 16), some (vi (P : Int)), some (vi (s : Int)), some (vi mo), some (vi (p : Int)), some (vi (am_xor (s : Int) (am_shl 1 (p : Int))))]) X (Nat.le_of_ble_eq_true rfl) (by rfl) dX8_fewest_41 ?_
            refine am_aload_n (x := 42) X (by rfl) dX8_fewest_43 ?_
            refine am_getr (c1 := 44) X 42 fl_X8_15 (by decide) sh_42 (by decide) (by rfl) dX8_fewest_44 ?_
            refine am_iload_n (x := (s : Int)) X (by rfl) dX8_fewest_47 ?_
            refine am_aload_n (x := 42) X (by rfl) dX8_fewest_48 ?_
            refine am_getr (c1 := 44) X 42 fl_X8_15 (by decide) sh_42 (by decide) (by rfl) dX8_fewest_49 ?_
            refine am_iload (x := (am_xor (s : Int) (am_shl 1 (p : Int)))) X (by rfl) dX8_fewest_52 ?_
            refine am_ald (v := τ2 44 rs) X 44 rs sh_44 (by omega) (by omega) (rfl) dX8_fewest_54 ?_
            refine am_aload_n (x := 42) X (by rfl) dX8_fewest_55 ?_
            refine am_getr (c1 := 43) X 42 fl_X8_9 (by decide) sh_42 (by decide) (by rfl) dX8_fewest_56 ?_
            refine am_iload (x := (p : Int)) X (by rfl) dX8_fewest_59 ?_
            refine am_ald (v := τ2 43 p) X 43 p sh_43 (by omega) (by omega) (rfl) dX8_fewest_61 ?_
            refine am_add (v := (τ2 44 rs + τ2 43 p)) X (by first | rfl | omega) (by omega) dX8_fewest_62 ?_
            refine am_ast X 44 s sh_44 (by omega) (by omega) dX8_fewest_63 ?_
            refine am_iload (x := mo) X (by rfl) dX8_fewest_64 ?_
            refine am_aload_n (x := 42) X (by rfl) dX8_fewest_66 ?_
            refine am_getr (c1 := 45) X 42 fl_X8_18 (by decide) sh_42 (by decide) (by rfl) dX8_fewest_67 ?_
            refine am_iload (x := (am_xor (s : Int) (am_shl 1 (p : Int)))) X (by rfl) dX8_fewest_70 ?_
            refine am_ald (v := τ2 45 rs) X 45 rs sh_45 (by omega) (by omega) (by simp [am_up]) dX8_fewest_72 ?_
            refine am_mmax X hY lk_X8_25 (by decide) (Nat.le_add_right _ _) (Nat.le_add_right _ _) (Nat.le_of_ble_eq_true rfl) dX8_fewest_73 ?_
            refine am_topi (fun y73 hy73 => ?_)
            refine am_istore (i := 4) (L' := [some (vr 42), some (vr 16), some (vi (P : Int)), some (vi (s : Int)), some (vi y73), some (vi (p : Int)), some (vi (am_xor (s : Int) (am_shl 1 (p : Int))))]) X (Nat.le_of_ble_eq_true rfl) (by rfl) dX8_fewest_76 ?_
            
            refine am_inc (x := (p : Int)) (v := ((p : Int) + 1)) (L' := [some (vr 42), some (vr 16), some (vi (P : Int)), some (vi (s : Int)), some (vi y73), some (vi ((p : Int) + 1)), some (vi (am_xor (s : Int) (am_shl 1 (p : Int))))]) X (by rfl) (by omega) (by omega) (by rfl) dX8_fewest_78 ?_
            refine am_goto (tgt := 20) X dX8_fewest_81 (by decide) ?_
            refine am_fg [true, true, true, true, true, true, false] rfl (L' := [some (vr 42), some (vr 16), some (vi (P : Int)), some (vi (s : Int)), some (vi y73), some (vi ((p : Int) + 1)), none]) rfl ?_
            exact ih20 _ (by omega) (p + 1) (am_up τ2 44 s (τ2 44 rs + τ2 43 p)) y73 (by omega) (by show y73 = wp_mx (τ 45) s (p + 1); unfold wp_mx at hmo ⊢; rw [am_it_succ, ← hmo, if_pos hbn, hy73, hrs]; rw [h45 rs]) (fun q hq hb => by rw [am_up_eq, h44 rs (by omega), hS rs (by omega), h43b p (by omega)]; have h9 := wp_sm_rest (net := c_net σ) (P := P) (by omega) (by omega) hbn (by omega); rw [if_pos (by omega), hrs] at h9; exact h9) (fun c k h1 h2 h3 => (am_up_k (by omega)).trans (hfr2 c k h1 h2 h3)) (fun k => (am_up_k (by omega)).trans (h45 k)) (fun k hk => (am_up_k (by omega)).trans (h44 k hk)) (fun k hk => (am_up_k (by omega)).trans (h43b k hk)) rfl
      exact hL20 _ 0 τ 0 (Nat.zero_le _) (rfl) (fun q hq => absurd hq (Nat.not_lt_zero _)) (hfr) (fun _ => rfl) (fun _ _ => rfl) (h43) rfl
  exact hL7 _ 1 _ (by omega) (fun c k h1 h2 h3 => c_tn_at h1) (fun k hk => c_tn_43 hk) (fun r hr => by rw [show r = 0 by omega, c_tn_at (by decide), h00.1, wp_sm_0]) (⟨fun _ => by rw [c_tn_at (by decide)]; exact h00.2, fun r h1 h2 => by omega⟩) (fun r hr => by rw [show r = 0 by omega, c_tn_at (by decide), h00.2]; omega) rfl

set_option maxHeartbeats 4000000 in
set_option maxRecDepth 100000 in
theorem m_X9_wiped (σ : am_H) (P N : Nat) (hPP : P ≤ 8) (hPe : σ 1 2 = (P : Int)) (hN : 2 ^ P = N) (hp : 0 ≤ σ 1 2 ∧ σ 1 2 ≤ 8) (hc : 0 ≤ σ 16 5 ∧ σ 16 5 ≤ 20) (hd : ∀ n : Nat, (n : Int) < σ 16 5 → 0 ≤ σ 19 n ∧ σ 19 n ≤ 9) (hdeb : DebV σ) (hun : ∀ j : Nat, (j : Int) < σ 16 5 → σ 17 j ≠ σ 18 j) (h00 : σ 44 0 = 0 ∧ σ 45 0 = 0) : am_Mi yX9_wiped cX9_wiped 1 (some .int) 2 0 0 [vr 0] SH σ (fun r sh' σ' => SH = sh' ∧ (∀ c k : Nat, c ≠ 43 → c ≠ 44 → c ≠ 45 → σ' c k = σ c k) ∧ (σ' 44 0 = 0 ∧ σ' 45 0 = 0) ∧ wp_ch (σ' 45) (c_net σ) P N ∧ r = (P : Int) - σ' 45 (N - 1)) := by
  refine am_Mi_of (by decide +kernel) (Nat.le_of_ble_eq_true rfl) (fun K X hY hI hret => ?_)
  show am_G K 0 [some (vr 0)] [] SH σ
  refine am_aload_n (x := 0) X (by rfl) dX9_wiped_0 ?_
  refine am_getr (c1 := 42) X 0 fl_X9_53 (by decide) sh_0 (by decide) (by rfl) dX9_wiped_1 ?_
  refine am_aload_n (x := 0) X (by rfl) dX9_wiped_4 ?_
  refine am_getr (c1 := 16) X 0 fl_X9_33 (by decide) sh_0 (by decide) (by rfl) dX9_wiped_5 ?_
  refine am_aload_n (x := 0) X (by rfl) dX9_wiped_8 ?_
  refine am_getr (c1 := 1) X 0 fl_X9_10 (by decide) sh_0 (by decide) (by rfl) dX9_wiped_9 ?_
  refine am_get (v := σ 1 2) X 1 fl_X9_79 (by decide) sh_1 (by decide) (rfl) dX9_wiped_12 ?_
  refine am_topi (fun yy hyy => ?_)
  obtain rfl : yy = (P : Int) := by omega
  refine am_callVi (ci := 7) X hY lk_X9_233 mf_X8_fewest (m_X8_fewest σ P N hPP hPe hN hp hc hd hdeb hun h00) (by decide) (by decide) (Nat.le_refl _) (Nat.le_refl _) sh_42 rfl rfl rfl (Nat.le_of_ble_eq_true rfl) dX9_wiped_15 (fun r15 sh15 σ15 hr15 hp15 => ?_)
  obtain ⟨rfl, hf15, hz15, hq15, hr915⟩ := hp15
  exact hret _ _ _ _ _ dX9_wiped_18 rfl rfl (⟨rfl, hf15, hz15, hq15, hr915⟩)
