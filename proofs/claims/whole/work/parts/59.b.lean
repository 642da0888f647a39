set_option maxHeartbeats 4000000 in
set_option maxRecDepth 100000 in
theorem m_X10_product (σ : am_H) (T : Nat → Int) (n : Nat) (htx : lx_txt σ T n) (k : Nat) (i : Nat) (o : Int) (hk : o = 6 - (k : Int)) (ho : 0 ≤ o) (hi : i ≤ n) (H6 : lx_C6 σ T n k) : am_Mi yX10_product cX10_product 4 (some .int) (6 * k + 3) 0 0 [vr 63] SH (pu σ (i : Int) (-1) o) (lx_post σ T n 5 o i) := by
  refine am_Mi_of (by decide +kernel) (Nat.le_of_ble_eq_true rfl) (fun K X hY hI hret => ?_)
  show am_G K 0 [some (vr 63), none, none, none] [] SH (pu σ (i : Int) (-1) o)
  have hn120 := htx.1
  refine am_aload_n (x := 63) X (by rfl) dX10_product_0 ?_
  refine am_callVi (ci := 9) X hY lk_X10_205 mf_X10_one (H6 i o (by omega) (by omega) (by omega)) (by omega) (by decide) (Nat.le_refl _) (Nat.le_refl _) sh_63 rfl rfl rfl (Nat.le_of_ble_eq_true rfl) dX10_product_1 (fun r1 sh1 σ1 hr1 hp1 => ?_)
  obtain ⟨rfl, j1, f1, o1, rfl, hq1⟩ := hp1
  have hw1 := lx_PO_f hq1
  refine am_istore_n (i := 1) (L' := [some (vr 63), some (vi r1), none, none]) X rfl (Nat.le_of_ble_eq_true rfl) (by rfl) dX10_product_4 ?_
  refine am_aload_n (x := 63) X (by rfl) dX10_product_5 ?_
  refine am_callVi (ci := 9) X hY lk_X10_187 mf_X10_byteAt (m_X10_byteAt j1 f1 o1 σ T n htx (by omega)) (by omega) (by decide) (Nat.le_refl _) (Nat.le_refl _) sh_63 rfl rfl rfl (Nat.le_of_ble_eq_true rfl) dX10_product_6 (fun r6 sh6 σ6 hr6 hp6 => ?_)
  obtain ⟨rfl, rfl, hq6⟩ := hp6
  refine am_istore_n (i := 2) (L' := [some (vr 63), some (vi r1), some (vi r6), none]) X rfl (Nat.le_of_ble_eq_true rfl) (by rfl) dX10_product_9 ?_
  have hL10 : ∀ (m10 : Nat) (j : Nat) (f : Int) (o1 : Int) (v : Int) (c : Int) (hI : lx_PO σ T n 5 6 o i v j f o1) (hc : c = lx_at T n j) (hm10 : n - j = m10), am_G K 10 [some (vr 63), some (vi v), some (vi c), none] [] SH (pu σ (j : Int) f o1) := by
    intro m10
    induction m10 using Nat.strongRecOn with
    | ind m10 ih10 =>
    intro j f o1 v c hI hc hm10
    have hw := lx_PO_f hI
    refine am_aload_n (x := 63) X (by rfl) dX10_product_10 ?_
    refine am_get (v := f) X 63 fl_X10_184 (by decide) sh_63 (by decide) (pu_17) dX10_product_11 ?_
    refine am_if_ge (tgt := 94) X dX10_product_14 (by decide) (fun h14 => ?_) (fun h14 => ?_)
    · skip
      refine am_iload_n (x := v) X (by rfl) dX10_product_94 ?_
      exact hret _ _ _ _ _ dX10_product_95 rfl rfl (⟨rfl, j, f, o1, rfl, lx_PO_stop hI (fun hf hj => by have := (lx_rank_c (x := T j)).2.2.2.2; have hcj := hc.trans (lx_at_eq hj); omega)⟩)
    · skip
      have hL35 : ∀  (hcc : c = 42 ∨ c = 47 ∨ c = 37), am_G K 35 [some (vr 63), some (vi v), some (vi c), none] [] SH (pu σ (j : Int) f o1) := by
        intro  hcc
        refine am_aload_n (x := 63) X (by rfl) dX10_product_35 ?_
        have hin := lx_at_in (T := T) (n := n) (i := j) (by omega)
        refine am_dup X (Nat.ne_of_beq_eq_false rfl) dX10_product_36 ?_
        refine am_get (v := (j : Int)) X 63 fl_X10_175 (by decide) sh_63 (by decide) (pu_15) dX10_product_37 ?_
        refine am_ic X (by decide) dX10_product_40 ?_
        refine am_add (v := ((j : Int) + 1)) X (by first | rfl | omega) (by omega) dX10_product_41 ?_
        refine am_puti X 63 fl_X10_175 rfl rfl sh_63 (by decide) dX10_product_42 ?_
        refine am_sg (pu σ ((j + 1 : Nat) : Int) f o1) (pu_i15) ?_
        have ef : f = -1 := by omega
        subst ef
        refine am_aload_n (x := 63) X (by rfl) dX10_product_45 ?_
        refine am_callVi (ci := 9) X hY lk_X10_205 mf_X10_one (H6 (j + 1) o1 (by omega) (by omega) (by omega)) (by omega) (by decide) (Nat.le_refl _) (Nat.le_refl _) sh_63 rfl rfl rfl (Nat.le_of_ble_eq_true rfl) dX10_product_46 (fun r46 sh46 σ46 hr46 hp46 => ?_)
        obtain ⟨rfl, j46, f46, o46, rfl, hq46⟩ := hp46
        have ho1 : o1 = o := by omega
        rw [ho1] at hq46
        have hw46 := lx_PO_f hq46
        refine am_istore_n (i := 3) (L' := [some (vr 63), some (vi v), some (vi c), some (vi r46)]) X rfl (Nat.le_of_ble_eq_true rfl) (by rfl) dX10_product_49 ?_
        refine am_iload_n (x := c) X (by rfl) dX10_product_50 ?_
        refine am_bipush X (by decide) dX10_product_51 ?_
        refine am_icmp_ne (tgt := 62) X dX10_product_53 (by decide) (fun h53 => ?_) (fun h53 => ?_)
        · skip
          refine am_iload_n (x := r46) X (by rfl) dX10_product_62 ?_
          refine am_if_ne (tgt := 70) X dX10_product_63 (by decide) (fun h63 => ?_) (fun h63 => ?_)
          · skip
            refine am_iload_n (x := c) X (by rfl) dX10_product_70 ?_
            refine am_bipush X (by decide) dX10_product_71 ?_
            refine am_icmp_ne (tgt := 82) X dX10_product_73 (by decide) (fun h73 => ?_) (fun h73 => ?_)
            · skip
              refine am_iload_n (x := v) X (by rfl) dX10_product_82 ?_
              refine am_iload_n (x := r46) X (by rfl) dX10_product_83 ?_
              refine am_irem X (by omega) dX10_product_84 ?_
              refine am_istore_n (i := 1) (L' := [some (vr 63), some (vi (w32 ((v).tmod r46))), some (vi c), some (vi r46)]) X rfl (Nat.le_of_ble_eq_true rfl) (by rfl) dX10_product_85 ?_
              refine am_aload_n (x := 63) X (by rfl) dX10_product_86 ?_
              refine am_callVi (ci := 9) X hY lk_X10_187 mf_X10_byteAt (m_X10_byteAt j46 f46 o46 σ T n htx (by omega)) (by omega) (by decide) (Nat.le_refl _) (Nat.le_refl _) sh_63 rfl rfl rfl (Nat.le_of_ble_eq_true rfl) dX10_product_87 (fun r87 sh87 σ87 hr87 hp87 => ?_)
              obtain ⟨rfl, rfl, hq87⟩ := hp87
              refine am_istore_n (i := 2) (L' := [some (vr 63), some (vi (w32 ((v).tmod r46))), some (vi r87), some (vi r46)]) X rfl (Nat.le_of_ble_eq_true rfl) (by rfl) dX10_product_90 ?_
              refine am_goto (tgt := 10) X dX10_product_91 (by decide) ?_
              refine am_fg [true, true, true, false] rfl (L' := [some (vr 63), some (vi (w32 ((v).tmod r46))), some (vi r87), none]) rfl ?_
              exact ih10 _ (by omega) j46 f46 o46 (w32 ((v).tmod r46)) r87 (lx_PO_bin (by decide) hI (by omega) hin.1 (x := c) (by omega) (by have := (lx_rank_c (x := c)).2.2.2.2; omega) hq46 (by unfold lx_op2; rw [if_neg (by omega), if_neg (by omega), if_pos (by omega), if_neg (by omega)])) (hq87) rfl
            · skip
              refine am_iload_n (x := v) X (by rfl) dX10_product_76 ?_
              refine am_iload_n (x := r46) X (by rfl) dX10_product_77 ?_
              refine am_idiv X (by omega) dX10_product_78 ?_
              refine am_goto (tgt := 85) X dX10_product_79 (by decide) ?_
              refine am_istore_n (i := 1) (L' := [some (vr 63), some (vi (w32 ((v).tdiv r46))), some (vi c), some (vi r46)]) X rfl (Nat.le_of_ble_eq_true rfl) (by rfl) dX10_product_85 ?_
              refine am_aload_n (x := 63) X (by rfl) dX10_product_86 ?_
              refine am_callVi (ci := 9) X hY lk_X10_187 mf_X10_byteAt (m_X10_byteAt j46 f46 o46 σ T n htx (by omega)) (by omega) (by decide) (Nat.le_refl _) (Nat.le_refl _) sh_63 rfl rfl rfl (Nat.le_of_ble_eq_true rfl) dX10_product_87 (fun r87 sh87 σ87 hr87 hp87 => ?_)
              obtain ⟨rfl, rfl, hq87⟩ := hp87
              refine am_istore_n (i := 2) (L' := [some (vr 63), some (vi (w32 ((v).tdiv r46))), some (vi r87), some (vi r46)]) X rfl (Nat.le_of_ble_eq_true rfl) (by rfl) dX10_product_90 ?_
              refine am_goto (tgt := 10) X dX10_product_91 (by decide) ?_
              refine am_fg [true, true, true, false] rfl (L' := [some (vr 63), some (vi (w32 ((v).tdiv r46))), some (vi r87), none]) rfl ?_
              exact ih10 _ (by omega) j46 f46 o46 (w32 ((v).tdiv r46)) r87 (lx_PO_bin (by decide) hI (by omega) hin.1 (x := c) (by omega) (by have := (lx_rank_c (x := c)).2.2.2.2; omega) hq46 (by unfold lx_op2; rw [if_neg (by omega), if_pos (by omega), if_neg (by omega)])) (hq87) rfl
          · skip
            refine am_ic X (by decide) dX10_product_66 ?_
            refine am_goto (tgt := 85) X dX10_product_67 (by decide) ?_
            refine am_istore_n (i := 1) (L' := [some (vr 63), some (vi 0), some (vi c), some (vi r46)]) X rfl (Nat.le_of_ble_eq_true rfl) (by rfl) dX10_product_85 ?_
            refine am_aload_n (x := 63) X (by rfl) dX10_product_86 ?_
            refine am_callVi (ci := 9) X hY lk_X10_187 mf_X10_byteAt (m_X10_byteAt j46 f46 o46 σ T n htx (by omega)) (by omega) (by decide) (Nat.le_refl _) (Nat.le_refl _) sh_63 rfl rfl rfl (Nat.le_of_ble_eq_true rfl) dX10_product_87 (fun r87 sh87 σ87 hr87 hp87 => ?_)
            obtain ⟨rfl, rfl, hq87⟩ := hp87
            refine am_istore_n (i := 2) (L' := [some (vr 63), some (vi 0), some (vi r87), some (vi r46)]) X rfl (Nat.le_of_ble_eq_true rfl) (by rfl) dX10_product_90 ?_
            refine am_goto (tgt := 10) X dX10_product_91 (by decide) ?_
            refine am_fg [true, true, true, false] rfl (L' := [some (vr 63), some (vi 0), some (vi r87), none]) rfl ?_
            exact ih10 _ (by omega) j46 f46 o46 0 r87 (lx_PO_bin (by decide) hI (by omega) hin.1 (x := c) (by omega) (by have := (lx_rank_c (x := c)).2.2.2.2; omega) hq46 (by unfold lx_op2; by_cases h47 : c = 47; (rw [if_neg (by omega), if_pos h47, if_pos (by omega)]); rw [if_neg (by omega), if_neg h47, if_pos (by omega), if_pos (by omega)])) (hq87) rfl
        · skip
          refine am_iload_n (x := v) X (by rfl) dX10_product_56 ?_
          refine am_iload_n (x := r46) X (by rfl) dX10_product_57 ?_
          refine am_imul X dX10_product_58 ?_
          refine am_goto (tgt := 85) X dX10_product_59 (by decide) ?_
          refine am_istore_n (i := 1) (L' := [some (vr 63), some (vi (w32 (v * r46))), some (vi c), some (vi r46)]) X rfl (Nat.le_of_ble_eq_true rfl) (by rfl) dX10_product_85 ?_
          refine am_aload_n (x := 63) X (by rfl) dX10_product_86 ?_
          refine am_callVi (ci := 9) X hY lk_X10_187 mf_X10_byteAt (m_X10_byteAt j46 f46 o46 σ T n htx (by omega)) (by omega) (by decide) (Nat.le_refl _) (Nat.le_refl _) sh_63 rfl rfl rfl (Nat.le_of_ble_eq_true rfl) dX10_product_87 (fun r87 sh87 σ87 hr87 hp87 => ?_)
          obtain ⟨rfl, rfl, hq87⟩ := hp87
          refine am_istore_n (i := 2) (L' := [some (vr 63), some (vi (w32 (v * r46))), some (vi r87), some (vi r46)]) X rfl (Nat.le_of_ble_eq_true rfl) (by rfl) dX10_product_90 ?_
          refine am_goto (tgt := 10) X dX10_product_91 (by decide) ?_
          refine am_fg [true, true, true, false] rfl (L' := [some (vr 63), some (vi (w32 (v * r46))), some (vi r87), none]) rfl ?_
          exact ih10 _ (by omega) j46 f46 o46 (w32 (v * r46)) r87 (lx_PO_bin (by decide) hI (by omega) hin.1 (x := c) (by omega) (by have := (lx_rank_c (x := c)).2.2.2.2; omega) hq46 (by unfold lx_op2; rw [if_pos (by omega)])) (hq87) rfl
      refine am_iload_n (x := c) X (by rfl) dX10_product_17 ?_
      refine am_bipush X (by decide) dX10_product_18 ?_
      refine am_icmp_eq (tgt := 35) X dX10_product_20 (by decide) (fun h20 => ?_) (fun h20 => ?_)
      · skip
        exact hL35  (by omega)
      · skip
        refine am_iload_n (x := c) X (by rfl) dX10_product_23 ?_
        refine am_bipush X (by decide) dX10_product_24 ?_
        refine am_icmp_eq (tgt := 35) X dX10_product_26 (by decide) (fun h26 => ?_) (fun h26 => ?_)
        · skip
          exact hL35  (by omega)
        · skip
          refine am_iload_n (x := c) X (by rfl) dX10_product_29 ?_
          refine am_bipush X (by decide) dX10_product_30 ?_
          refine am_icmp_ne (tgt := 94) X dX10_product_32 (by decide) (fun h32 => ?_) (fun h32 => ?_)
          · skip
            refine am_iload_n (x := v) X (by rfl) dX10_product_94 ?_
            exact hret _ _ _ _ _ dX10_product_95 rfl rfl (⟨rfl, j, f, o1, rfl, lx_PO_stop hI (fun hf hj => by have := (lx_rank_c (x := T j)).2.2.2.2; have hcj := hc.trans (lx_at_eq hj); omega)⟩)
          · skip
            exact hL35  (by omega)
  exact hL10 _ j1 f1 o1 r1 r6 (lx_PO_up hq1 (by decide) (by decide)) (hq6) rfl
