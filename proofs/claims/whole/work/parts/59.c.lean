set_option maxHeartbeats 4000000 in
set_option maxRecDepth 100000 in
theorem m_X10_sums (σ : am_H) (T : Nat → Int) (n : Nat) (htx : lx_txt σ T n) (k : Nat) (i : Nat) (o : Int) (hk : o = 6 - (k : Int)) (ho : 0 ≤ o) (hi : i ≤ n) (H5 : lx_C5 σ T n k) : am_Mi yX10_sums cX10_sums 4 (some .int) (6 * k + 4) 0 0 [vr 63] SH (pu σ (i : Int) (-1) o) (lx_post σ T n 4 o i) := by
  refine am_Mi_of (by decide +kernel) (Nat.le_of_ble_eq_true rfl) (fun K X hY hI hret => ?_)
  show am_G K 0 [some (vr 63), none, none, none] [] SH (pu σ (i : Int) (-1) o)
  have hn120 := htx.1
  refine am_aload_n (x := 63) X (by rfl) dX10_sums_0 ?_
  refine am_callVi (ci := 9) X hY lk_X10_202 mf_X10_product (H5 i o (by omega) (by omega) (by omega)) (by omega) (by decide) (Nat.le_refl _) (Nat.le_refl _) sh_63 rfl rfl rfl (Nat.le_of_ble_eq_true rfl) dX10_sums_1 (fun r1 sh1 σ1 hr1 hp1 => ?_)
  obtain ⟨rfl, j1, f1, o1, rfl, hq1⟩ := hp1
  have hw1 := lx_PO_f hq1
  refine am_istore_n (i := 1) (L' := [some (vr 63), some (vi r1), none, none]) X rfl (Nat.le_of_ble_eq_true rfl) (by rfl) dX10_sums_4 ?_
  have hL5 : ∀ (m5 : Nat) (j : Nat) (f : Int) (o1 : Int) (v : Int) (hI : lx_PO σ T n 4 5 o i v j f o1) (hm5 : n - j = m5), am_G K 5 [some (vr 63), some (vi v), none, none] [] SH (pu σ (j : Int) f o1) := by
    intro m5
    induction m5 using Nat.strongRecOn with
    | ind m5 ih5 =>
    intro j f o1 v hI hm5
    have hw := lx_PO_f hI
    refine am_aload_n (x := 63) X (by rfl) dX10_sums_5 ?_
    refine am_get (v := f) X 63 fl_X10_184 (by decide) sh_63 (by decide) (pu_17) dX10_sums_6 ?_
    refine am_if_ge (tgt := 77) X dX10_sums_9 (by decide) (fun h9 => ?_) (fun h9 => ?_)
    · skip
      refine am_iload_n (x := v) X (by rfl) dX10_sums_77 ?_
      exact hret _ _ _ _ _ dX10_sums_78 rfl rfl (⟨rfl, j, f, o1, rfl, lx_PO_stop hI (fun hf hj => by omega)⟩)
    · skip
      have hL30 : ∀  (hcc : lx_at T n j = 43 ∨ lx_at T n j = 45), am_G K 30 [some (vr 63), some (vi v), none, none] [] SH (pu σ (j : Int) f o1) := by
        intro  hcc
        refine am_aload_n (x := 63) X (by rfl) dX10_sums_30 ?_
        have hin := lx_at_in (T := T) (n := n) (i := j) (by omega)
        refine am_callVi (ci := 9) X hY lk_X10_187 mf_X10_byteAt (m_X10_byteAt j f o1 σ T n htx (by omega)) (by omega) (by decide) (Nat.le_refl _) (Nat.le_refl _) sh_63 rfl rfl rfl (Nat.le_of_ble_eq_true rfl) dX10_sums_31 (fun r31 sh31 σ31 hr31 hp31 => ?_)
        obtain ⟨rfl, rfl, hq31⟩ := hp31
        refine am_bipush X (by decide) dX10_sums_34 ?_
        refine am_icmp_ne (tgt := 43) X dX10_sums_36 (by decide) (fun h36 => ?_) (fun h36 => ?_)
        · skip
          refine am_ic X (by decide) dX10_sums_43 ?_
          refine am_istore_n (i := 2) (L' := [some (vr 63), some (vi v), some (vi 0), none]) X rfl (Nat.le_of_ble_eq_true rfl) (by rfl) dX10_sums_44 ?_
          refine am_aload_n (x := 63) X (by rfl) dX10_sums_45 ?_
          refine am_dup X (Nat.ne_of_beq_eq_false rfl) dX10_sums_46 ?_
          refine am_get (v := (j : Int)) X 63 fl_X10_175 (by decide) sh_63 (by decide) (pu_15) dX10_sums_47 ?_
          refine am_ic X (by decide) dX10_sums_50 ?_
          refine am_add (v := ((j : Int) + 1)) X (by first | rfl | omega) (by omega) dX10_sums_51 ?_
          refine am_puti X 63 fl_X10_175 rfl rfl sh_63 (by decide) dX10_sums_52 ?_
          refine am_sg (pu σ ((j + 1 : Nat) : Int) f o1) (pu_i15) ?_
          have ef : f = -1 := by omega
          subst ef
          refine am_aload_n (x := 63) X (by rfl) dX10_sums_55 ?_
          refine am_callVi (ci := 9) X hY lk_X10_202 mf_X10_product (H5 (j + 1) o1 (by omega) (by omega) (by omega)) (by omega) (by decide) (Nat.le_refl _) (Nat.le_refl _) sh_63 rfl rfl rfl (Nat.le_of_ble_eq_true rfl) dX10_sums_56 (fun r56 sh56 σ56 hr56 hp56 => ?_)
          obtain ⟨rfl, j56, f56, o56, rfl, hq56⟩ := hp56
          have ho1 : o1 = o := by omega
          rw [ho1] at hq56
          have hw56 := lx_PO_f hq56
          refine am_istore_n (i := 3) (L' := [some (vr 63), some (vi v), some (vi 0), some (vi r56)]) X rfl (Nat.le_of_ble_eq_true rfl) (by rfl) dX10_sums_59 ?_
          refine am_iload_n (x := 0) X (by rfl) dX10_sums_60 ?_
          refine am_if_eq (tgt := 70) X dX10_sums_61 (by decide) (fun _ => ?_) (fun h => absurd h (by decide))
          refine am_iload_n (x := v) X (by rfl) dX10_sums_70 ?_
          refine am_iload_n (x := r56) X (by rfl) dX10_sums_71 ?_
          refine am_isub X dX10_sums_72 ?_
          refine am_istore_n (i := 1) (L' := [some (vr 63), some (vi (w32 (v - r56))), some (vi 0), some (vi r56)]) X rfl (Nat.le_of_ble_eq_true rfl) (by rfl) dX10_sums_73 ?_
          refine am_goto (tgt := 5) X dX10_sums_74 (by decide) ?_
          refine am_fg [true, true, false, false] rfl (L' := [some (vr 63), some (vi (w32 (v - r56))), none, none]) rfl ?_
          exact ih5 _ (by omega) j56 f56 o56 (w32 (v - r56)) (lx_PO_bin (by decide) hI (by omega) hin.1 (x := 45) (by omega) (by decide) hq56 (by unfold lx_op2; rw [if_neg (by decide), if_neg (by decide), if_neg (by decide), if_neg (by decide), if_pos rfl])) rfl
        · skip
          refine am_ic X (by decide) dX10_sums_39 ?_
          refine am_goto (tgt := 44) X dX10_sums_40 (by decide) ?_
          refine am_istore_n (i := 2) (L' := [some (vr 63), some (vi v), some (vi 1), none]) X rfl (Nat.le_of_ble_eq_true rfl) (by rfl) dX10_sums_44 ?_
          refine am_aload_n (x := 63) X (by rfl) dX10_sums_45 ?_
          refine am_dup X (Nat.ne_of_beq_eq_false rfl) dX10_sums_46 ?_
          refine am_get (v := (j : Int)) X 63 fl_X10_175 (by decide) sh_63 (by decide) (pu_15) dX10_sums_47 ?_
          refine am_ic X (by decide) dX10_sums_50 ?_
          refine am_add (v := ((j : Int) + 1)) X (by first | rfl | omega) (by omega) dX10_sums_51 ?_
          refine am_puti X 63 fl_X10_175 rfl rfl sh_63 (by decide) dX10_sums_52 ?_
          refine am_sg (pu σ ((j + 1 : Nat) : Int) f o1) (pu_i15) ?_
          have ef : f = -1 := by omega
          subst ef
          refine am_aload_n (x := 63) X (by rfl) dX10_sums_55 ?_
          refine am_callVi (ci := 9) X hY lk_X10_202 mf_X10_product (H5 (j + 1) o1 (by omega) (by omega) (by omega)) (by omega) (by decide) (Nat.le_refl _) (Nat.le_refl _) sh_63 rfl rfl rfl (Nat.le_of_ble_eq_true rfl) dX10_sums_56 (fun r56 sh56 σ56 hr56 hp56 => ?_)
          obtain ⟨rfl, j56, f56, o56, rfl, hq56⟩ := hp56
          have ho1 : o1 = o := by omega
          rw [ho1] at hq56
          have hw56 := lx_PO_f hq56
          refine am_istore_n (i := 3) (L' := [some (vr 63), some (vi v), some (vi 1), some (vi r56)]) X rfl (Nat.le_of_ble_eq_true rfl) (by rfl) dX10_sums_59 ?_
          refine am_iload_n (x := 1) X (by rfl) dX10_sums_60 ?_
          refine am_if_eq (tgt := 70) X dX10_sums_61 (by decide) (fun h => absurd h (by decide)) (fun _ => ?_)
          refine am_iload_n (x := v) X (by rfl) dX10_sums_64 ?_
          refine am_iload_n (x := r56) X (by rfl) dX10_sums_65 ?_
          refine am_iadd X dX10_sums_66 ?_
          refine am_goto (tgt := 73) X dX10_sums_67 (by decide) ?_
          refine am_istore_n (i := 1) (L' := [some (vr 63), some (vi (w32 (v + r56))), some (vi 1), some (vi r56)]) X rfl (Nat.le_of_ble_eq_true rfl) (by rfl) dX10_sums_73 ?_
          refine am_goto (tgt := 5) X dX10_sums_74 (by decide) ?_
          refine am_fg [true, true, false, false] rfl (L' := [some (vr 63), some (vi (w32 (v + r56))), none, none]) rfl ?_
          exact ih5 _ (by omega) j56 f56 o56 (w32 (v + r56)) (lx_PO_bin (by decide) hI (by omega) hin.1 (x := 43) (by omega) (by decide) hq56 (by unfold lx_op2; rw [if_neg (by decide), if_neg (by decide), if_neg (by decide), if_pos rfl])) rfl
      refine am_aload_n (x := 63) X (by rfl) dX10_sums_12 ?_
      refine am_callVi (ci := 9) X hY lk_X10_187 mf_X10_byteAt (m_X10_byteAt j f o1 σ T n htx (by omega)) (by omega) (by decide) (Nat.le_refl _) (Nat.le_refl _) sh_63 rfl rfl rfl (Nat.le_of_ble_eq_true rfl) dX10_sums_13 (fun r13 sh13 σ13 hr13 hp13 => ?_)
      obtain ⟨rfl, rfl, hq13⟩ := hp13
      refine am_bipush X (by decide) dX10_sums_16 ?_
      refine am_icmp_eq (tgt := 30) X dX10_sums_18 (by decide) (fun h18 => ?_) (fun h18 => ?_)
      · skip
        exact hL30  (by omega)
      · skip
        refine am_aload_n (x := 63) X (by rfl) dX10_sums_21 ?_
        refine am_callVi (ci := 9) X hY lk_X10_187 mf_X10_byteAt (m_X10_byteAt j f o1 σ T n htx (by omega)) (by omega) (by decide) (Nat.le_refl _) (Nat.le_refl _) sh_63 rfl rfl rfl (Nat.le_of_ble_eq_true rfl) dX10_sums_22 (fun r22 sh22 σ22 hr22 hp22 => ?_)
        obtain ⟨rfl, rfl, hq22⟩ := hp22
        refine am_bipush X (by decide) dX10_sums_25 ?_
        refine am_icmp_ne (tgt := 77) X dX10_sums_27 (by decide) (fun h27 => ?_) (fun h27 => ?_)
        · skip
          refine am_iload_n (x := v) X (by rfl) dX10_sums_77 ?_
          exact hret _ _ _ _ _ dX10_sums_78 rfl rfl (⟨rfl, j, f, o1, rfl, lx_PO_stop hI (fun hf hj => by have := (lx_rank_c (x := T j)).2.2.2.1; have hcj := hq13.trans (lx_at_eq hj); have hck := hq22.trans (lx_at_eq hj); omega)⟩)
        · skip
          exact hL30  (by omega)
  exact hL5 _ j1 f1 o1 r1 (lx_PO_up hq1 (by decide) (by decide)) rfl
