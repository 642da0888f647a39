set_option maxHeartbeats 4000000 in
set_option maxRecDepth 100000 in
theorem m_X10_compared (σ : am_H) (T : Nat → Int) (n : Nat) (htx : lx_txt σ T n) (k : Nat) (i : Nat) (o : Int) (hk : o = 6 - (k : Int)) (ho : 0 ≤ o) (hi : i ≤ n) (H4 : lx_C4 σ T n k) : am_Mi yX10_compared cX10_compared 4 (some .int) (6 * k + 5) 0 0 [vr 63] SH (pu σ (i : Int) (-1) o) (lx_post σ T n 3 o i) := by
  refine am_Mi_of (by decide +kernel) (Nat.le_of_ble_eq_true rfl) (fun K X hY hI hret => ?_)
  show am_G K 0 [some (vr 63), none, none, none] [] SH (pu σ (i : Int) (-1) o)
  have hn120 := htx.1
  refine am_aload_n (x := 63) X (by rfl) dX10_compared_0 ?_
  refine am_callVi (ci := 9) X hY lk_X10_200 mf_X10_sums (H4 i o (by omega) (by omega) (by omega)) (by omega) (by decide) (Nat.le_refl _) (Nat.le_refl _) sh_63 rfl rfl rfl (Nat.le_of_ble_eq_true rfl) dX10_compared_1 (fun r1 sh1 σ1 hr1 hp1 => ?_)
  obtain ⟨rfl, j1, f1, o1, rfl, hq1⟩ := hp1
  have hw1 := lx_PO_f hq1
  refine am_istore_n (i := 1) (L' := [some (vr 63), some (vi r1), none, none]) X rfl (Nat.le_of_ble_eq_true rfl) (by rfl) dX10_compared_4 ?_
  refine am_aload_n (x := 63) X (by rfl) dX10_compared_5 ?_
  refine am_callVi (ci := 9) X hY lk_X10_187 mf_X10_byteAt (m_X10_byteAt j1 f1 o1 σ T n htx (by omega)) (by omega) (by decide) (Nat.le_refl _) (Nat.le_refl _) sh_63 rfl rfl rfl (Nat.le_of_ble_eq_true rfl) dX10_compared_6 (fun r6 sh6 σ6 hr6 hp6 => ?_)
  obtain ⟨rfl, rfl, hq6⟩ := hp6
  refine am_istore_n (i := 2) (L' := [some (vr 63), some (vi r1), some (vi r6), none]) X rfl (Nat.le_of_ble_eq_true rfl) (by rfl) dX10_compared_9 ?_
  refine am_aload_n (x := 63) X (by rfl) dX10_compared_10 ?_
  refine am_get (v := f1) X 63 fl_X10_184 (by decide) sh_63 (by decide) (pu_17) dX10_compared_11 ?_
  refine am_if_ge (tgt := 35) X dX10_compared_14 (by decide) (fun h14 => ?_) (fun h14 => ?_)
  · skip
    refine am_iload_n (x := r1) X (by rfl) dX10_compared_35 ?_
    exact hret _ _ _ _ _ dX10_compared_36 rfl rfl (⟨rfl, j1, f1, o1, rfl, lx_PO_up (lx_PO_stop hq1 (fun hf hj => by have := (lx_rank_c (x := T j1)).2.2.1; have hcj := hq6.trans (lx_at_eq hj); omega)) (by decide) (by decide)⟩)
  · skip
    have hL37 : ∀  (hcc : r6 = 60 ∨ r6 = 61 ∨ r6 = 62), am_G K 37 [some (vr 63), some (vi r1), some (vi r6), none] [] SH (pu σ (j1 : Int) f1 o1) := by
      intro  hcc
      refine am_aload_n (x := 63) X (by rfl) dX10_compared_37 ?_
      have hin := lx_at_in (T := T) (n := n) (i := j1) (by omega)
      refine am_dup X (Nat.ne_of_beq_eq_false rfl) dX10_compared_38 ?_
      refine am_get (v := (j1 : Int)) X 63 fl_X10_175 (by decide) sh_63 (by decide) (pu_15) dX10_compared_39 ?_
      refine am_ic X (by decide) dX10_compared_42 ?_
      refine am_add (v := ((j1 : Int) + 1)) X (by first | rfl | omega) (by omega) dX10_compared_43 ?_
      refine am_puti X 63 fl_X10_175 rfl rfl sh_63 (by decide) dX10_compared_44 ?_
      refine am_sg (pu σ ((j1 + 1 : Nat) : Int) f1 o1) (pu_i15) ?_
      have ef : f1 = -1 := by omega
      subst ef
      refine am_aload_n (x := 63) X (by rfl) dX10_compared_47 ?_
      refine am_callVi (ci := 9) X hY lk_X10_200 mf_X10_sums (H4 (j1 + 1) o1 (by omega) (by omega) (by omega)) (by omega) (by decide) (Nat.le_refl _) (Nat.le_refl _) sh_63 rfl rfl rfl (Nat.le_of_ble_eq_true rfl) dX10_compared_48 (fun r48 sh48 σ48 hr48 hp48 => ?_)
      obtain ⟨rfl, j48, f48, o48, rfl, hq48⟩ := hp48
      have ho1 : o1 = o := by omega
      rw [ho1] at hq48
      have hw48 := lx_PO_f hq48
      refine am_istore_n (i := 3) (L' := [some (vr 63), some (vi r1), some (vi r6), some (vi r48)]) X rfl (Nat.le_of_ble_eq_true rfl) (by rfl) dX10_compared_51 ?_
      refine am_iload_n (x := r6) X (by rfl) dX10_compared_52 ?_
      refine am_bipush X (by decide) dX10_compared_53 ?_
      refine am_icmp_ne (tgt := 66) X dX10_compared_55 (by decide) (fun h55 => ?_) (fun h55 => ?_)
      · skip
        refine am_iload_n (x := r6) X (by rfl) dX10_compared_66 ?_
        refine am_bipush X (by decide) dX10_compared_67 ?_
        refine am_icmp_ne (tgt := 80) X dX10_compared_69 (by decide) (fun h69 => ?_) (fun h69 => ?_)
        · skip
          refine am_iload_n (x := r1) X (by rfl) dX10_compared_80 ?_
          refine am_iload_n (x := r48) X (by rfl) dX10_compared_81 ?_
          refine am_icmp_le (tgt := 89) X dX10_compared_82 (by decide) (fun h82 => ?_) (fun h82 => ?_)
          · skip
            refine am_ic X (by decide) dX10_compared_89 ?_
            exact hret _ _ _ _ _ dX10_compared_90 rfl rfl (⟨rfl, j48, f48, o48, rfl, lx_PO_cmp hq1 (by omega) hin.1 (x := r6) (by omega) (by have := (lx_rank_c (x := r6)).2.2.1; omega) hq48 (by unfold lx_op2; rw [if_neg (by omega), if_neg (by omega), if_neg (by omega), if_neg (by omega), if_neg (by omega), if_neg (by omega), if_neg (by omega), if_pos (by omega), if_neg (by omega)])⟩)
          · skip
            refine am_ic X (by decide) dX10_compared_85 ?_
            refine am_goto (tgt := 90) X dX10_compared_86 (by decide) ?_
            exact hret _ _ _ _ _ dX10_compared_90 rfl rfl (⟨rfl, j48, f48, o48, rfl, lx_PO_cmp hq1 (by omega) hin.1 (x := r6) (by omega) (by have := (lx_rank_c (x := r6)).2.2.1; omega) hq48 (by unfold lx_op2; rw [if_neg (by omega), if_neg (by omega), if_neg (by omega), if_neg (by omega), if_neg (by omega), if_neg (by omega), if_neg (by omega), if_pos (by omega), if_pos (by omega)])⟩)
        · skip
          refine am_iload_n (x := r1) X (by rfl) dX10_compared_72 ?_
          refine am_iload_n (x := r48) X (by rfl) dX10_compared_73 ?_
          refine am_icmp_ne (tgt := 89) X dX10_compared_74 (by decide) (fun h74 => ?_) (fun h74 => ?_)
          · skip
            refine am_ic X (by decide) dX10_compared_89 ?_
            exact hret _ _ _ _ _ dX10_compared_90 rfl rfl (⟨rfl, j48, f48, o48, rfl, lx_PO_cmp hq1 (by omega) hin.1 (x := r6) (by omega) (by have := (lx_rank_c (x := r6)).2.2.1; omega) hq48 (by unfold lx_op2; rw [if_neg (by omega), if_neg (by omega), if_neg (by omega), if_neg (by omega), if_neg (by omega), if_neg (by omega), if_pos (by omega), if_neg (by omega)])⟩)
          · skip
            refine am_goto (tgt := 85) X dX10_compared_77 (by decide) ?_
            refine am_ic X (by decide) dX10_compared_85 ?_
            refine am_goto (tgt := 90) X dX10_compared_86 (by decide) ?_
            exact hret _ _ _ _ _ dX10_compared_90 rfl rfl (⟨rfl, j48, f48, o48, rfl, lx_PO_cmp hq1 (by omega) hin.1 (x := r6) (by omega) (by have := (lx_rank_c (x := r6)).2.2.1; omega) hq48 (by unfold lx_op2; rw [if_neg (by omega), if_neg (by omega), if_neg (by omega), if_neg (by omega), if_neg (by omega), if_neg (by omega), if_pos (by omega), if_pos (by omega)])⟩)
      · skip
        refine am_iload_n (x := r1) X (by rfl) dX10_compared_58 ?_
        refine am_iload_n (x := r48) X (by rfl) dX10_compared_59 ?_
        refine am_icmp_ge (tgt := 89) X dX10_compared_60 (by decide) (fun h60 => ?_) (fun h60 => ?_)
        · skip
          refine am_ic X (by decide) dX10_compared_89 ?_
          exact hret _ _ _ _ _ dX10_compared_90 rfl rfl (⟨rfl, j48, f48, o48, rfl, lx_PO_cmp hq1 (by omega) hin.1 (x := r6) (by omega) (by have := (lx_rank_c (x := r6)).2.2.1; omega) hq48 (by unfold lx_op2; rw [if_neg (by omega), if_neg (by omega), if_neg (by omega), if_neg (by omega), if_neg (by omega), if_pos (by omega), if_neg (by omega)])⟩)
        · skip
          refine am_goto (tgt := 85) X dX10_compared_63 (by decide) ?_
          refine am_ic X (by decide) dX10_compared_85 ?_
          refine am_goto (tgt := 90) X dX10_compared_86 (by decide) ?_
          exact hret _ _ _ _ _ dX10_compared_90 rfl rfl (⟨rfl, j48, f48, o48, rfl, lx_PO_cmp hq1 (by omega) hin.1 (x := r6) (by omega) (by have := (lx_rank_c (x := r6)).2.2.1; omega) hq48 (by unfold lx_op2; rw [if_neg (by omega), if_neg (by omega), if_neg (by omega), if_neg (by omega), if_neg (by omega), if_pos (by omega), if_pos (by omega)])⟩)
    refine am_iload_n (x := r6) X (by rfl) dX10_compared_17 ?_
    refine am_bipush X (by decide) dX10_compared_18 ?_
    refine am_icmp_eq (tgt := 37) X dX10_compared_20 (by decide) (fun h20 => ?_) (fun h20 => ?_)
    · skip
      exact hL37  (by omega)
    · skip
      refine am_iload_n (x := r6) X (by rfl) dX10_compared_23 ?_
      refine am_bipush X (by decide) dX10_compared_24 ?_
      refine am_icmp_eq (tgt := 37) X dX10_compared_26 (by decide) (fun h26 => ?_) (fun h26 => ?_)
      · skip
        exact hL37  (by omega)
      · skip
        refine am_iload_n (x := r6) X (by rfl) dX10_compared_29 ?_
        refine am_bipush X (by decide) dX10_compared_30 ?_
        refine am_icmp_eq (tgt := 37) X dX10_compared_32 (by decide) (fun h32 => ?_) (fun h32 => ?_)
        · skip
          exact hL37  (by omega)
        · skip
          refine am_iload_n (x := r1) X (by rfl) dX10_compared_35 ?_
          exact hret _ _ _ _ _ dX10_compared_36 rfl rfl (⟨rfl, j1, f1, o1, rfl, lx_PO_up (lx_PO_stop hq1 (fun hf hj => by have := (lx_rank_c (x := T j1)).2.2.1; have hcj := hq6.trans (lx_at_eq hj); omega)) (by decide) (by decide)⟩)
