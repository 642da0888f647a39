set_option maxHeartbeats 4000000 in
set_option maxRecDepth 100000 in
theorem m_X10_both (σ : am_H) (T : Nat → Int) (n : Nat) (htx : lx_txt σ T n) (k : Nat) (i : Nat) (o : Int) (hk : o = 6 - (k : Int)) (ho : 0 ≤ o) (hi : i ≤ n) (H3 : lx_C3 σ T n k) : am_Mi yX10_both cX10_both 3 (some .int) (6 * k + 6) 0 0 [vr 63] SH (pu σ (i : Int) (-1) o) (lx_post σ T n 2 o i) := by
  refine am_Mi_of (by decide +kernel) (Nat.le_of_ble_eq_true rfl) (fun K X hY hI hret => ?_)
  show am_G K 0 [some (vr 63), none, none] [] SH (pu σ (i : Int) (-1) o)
  have hn120 := htx.1
  refine am_aload_n (x := 63) X (by rfl) dX10_both_0 ?_
  refine am_callVi (ci := 9) X hY lk_X10_197 mf_X10_compared (H3 i o (by omega) (by omega) (by omega)) (by omega) (by decide) (Nat.le_refl _) (Nat.le_refl _) sh_63 rfl rfl rfl (Nat.le_of_ble_eq_true rfl) dX10_both_1 (fun r1 sh1 σ1 hr1 hp1 => ?_)
  obtain ⟨rfl, j1, f1, o1, rfl, hq1⟩ := hp1
  have hw1 := lx_PO_f hq1
  refine am_istore_n (i := 1) (L' := [some (vr 63), some (vi r1), none]) X rfl (Nat.le_of_ble_eq_true rfl) (by rfl) dX10_both_4 ?_
  have hL5 : ∀ (m5 : Nat) (j : Nat) (f : Int) (o1 : Int) (v : Int) (hI : lx_PO σ T n 2 3 o i v j f o1) (hm5 : n - j = m5), am_G K 5 [some (vr 63), some (vi v), none] [] SH (pu σ (j : Int) f o1) := by
    intro m5
    induction m5 using Nat.strongRecOn with
    | ind m5 ih5 =>
    intro j f o1 v hI hm5
    have hw := lx_PO_f hI
    refine am_aload_n (x := 63) X (by rfl) dX10_both_5 ?_
    refine am_bipush X (by decide) dX10_both_6 ?_
    refine am_callVi (ci := 9) X hY lk_X10_194 mf_X10_takes (m_X10_takes 38 (by decide) j f o1 σ T n htx (by omega)) (by omega) (by decide) (Nat.le_refl _) (Nat.le_refl _) sh_63 rfl rfl rfl (Nat.le_of_ble_eq_true rfl) dX10_both_8 (fun r8 sh8 σ8 hr8 hp8 => ?_)
    obtain ⟨rfl, j8, rfl, hq8⟩ := hp8
    refine am_if_eq (tgt := 36) X dX10_both_11 (by decide) (fun h11 => ?_) (fun h11 => ?_)
    · skip
      refine am_iload_n (x := v) X (by rfl) dX10_both_36 ?_
      exact hret _ _ _ _ _ dX10_both_37 rfl rfl (by rcases hq8 with ⟨z, -⟩ | ⟨-, z1, z2⟩; exact absurd z (by omega); rw [z1]; exact ⟨rfl, _, f, o1, rfl, lx_PO_stop hI (fun hf hj => by have := (lx_rank_c (x := T j)); omega)⟩)
    · skip
      obtain ⟨z1, z2, z3, z4⟩ : j8 = j + 1 ∧ f < 0 ∧ j < n ∧ T j = 38 := by
        rcases hq8 with ⟨-, z⟩ | ⟨z, -⟩
        · exact z
        · exact absurd z (by omega)
      subst z1
      have ef : f = -1 := by omega
      subst ef
      refine am_aload_n (x := 63) X (by rfl) dX10_both_14 ?_
      refine am_callVi (ci := 9) X hY lk_X10_197 mf_X10_compared (H3 (j + 1) o1 (by omega) (by omega) (by omega)) (by omega) (by decide) (Nat.le_refl _) (Nat.le_refl _) sh_63 rfl rfl rfl (Nat.le_of_ble_eq_true rfl) dX10_both_15 (fun r15 sh15 σ15 hr15 hp15 => ?_)
      obtain ⟨rfl, j15, f15, o15, rfl, hq15⟩ := hp15
      have ho1 : o1 = o := by omega
      rw [ho1] at hq15
      have hw15 := lx_PO_f hq15
      refine am_istore_n (i := 2) (L' := [some (vr 63), some (vi v), some (vi r15)]) X rfl (Nat.le_of_ble_eq_true rfl) (by rfl) dX10_both_18 ?_
      refine am_iload_n (x := v) X (by rfl) dX10_both_19 ?_
      refine am_if_eq (tgt := 31) X dX10_both_20 (by decide) (fun h20 => ?_) (fun h20 => ?_)
      · skip
        refine am_ic X (by decide) dX10_both_31 ?_
        refine am_istore_n (i := 1) (L' := [some (vr 63), some (vi 0), some (vi r15)]) X rfl (Nat.le_of_ble_eq_true rfl) (by rfl) dX10_both_32 ?_
        refine am_goto (tgt := 5) X dX10_both_33 (by decide) ?_
        refine am_fg [true, true, false] rfl (L' := [some (vr 63), some (vi 0), none]) rfl ?_
        exact ih5 _ (by omega) j15 f15 o15 0 (lx_PO_bin (by decide) hI (by omega) (by omega) (x := 38) (by omega) (by decide) hq15 (by unfold lx_op2; rw [if_neg (by decide), if_neg (by decide), if_neg (by decide), if_neg (by decide), if_neg (by decide), if_neg (by decide), if_neg (by decide), if_neg (by decide), if_pos rfl, if_neg (by omega)])) rfl
      · skip
        refine am_iload_n (x := r15) X (by rfl) dX10_both_23 ?_
        refine am_if_eq (tgt := 31) X dX10_both_24 (by decide) (fun h24 => ?_) (fun h24 => ?_)
        · skip
          refine am_ic X (by decide) dX10_both_31 ?_
          refine am_istore_n (i := 1) (L' := [some (vr 63), some (vi 0), some (vi r15)]) X rfl (Nat.le_of_ble_eq_true rfl) (by rfl) dX10_both_32 ?_
          refine am_goto (tgt := 5) X dX10_both_33 (by decide) ?_
          refine am_fg [true, true, false] rfl (L' := [some (vr 63), some (vi 0), none]) rfl ?_
          exact ih5 _ (by omega) j15 f15 o15 0 (lx_PO_bin (by decide) hI (by omega) (by omega) (x := 38) (by omega) (by decide) hq15 (by unfold lx_op2; rw [if_neg (by decide), if_neg (by decide), if_neg (by decide), if_neg (by decide), if_neg (by decide), if_neg (by decide), if_neg (by decide), if_neg (by decide), if_pos rfl, if_neg (by omega)])) rfl
        · skip
          refine am_ic X (by decide) dX10_both_27 ?_
          refine am_goto (tgt := 32) X dX10_both_28 (by decide) ?_
          refine am_istore_n (i := 1) (L' := [some (vr 63), some (vi 1), some (vi r15)]) X rfl (Nat.le_of_ble_eq_true rfl) (by rfl) dX10_both_32 ?_
          refine am_goto (tgt := 5) X dX10_both_33 (by decide) ?_
          refine am_fg [true, true, false] rfl (L' := [some (vr 63), some (vi 1), none]) rfl ?_
          exact ih5 _ (by omega) j15 f15 o15 1 (lx_PO_bin (by decide) hI (by omega) (by omega) (x := 38) (by omega) (by decide) hq15 (by unfold lx_op2; rw [if_neg (by decide), if_neg (by decide), if_neg (by decide), if_neg (by decide), if_neg (by decide), if_neg (by decide), if_neg (by decide), if_neg (by decide), if_pos rfl, if_pos (by omega)])) rfl
  exact hL5 _ j1 f1 o1 r1 (lx_PO_up hq1 (by decide) (by decide)) rfl

set_option maxHeartbeats 4000000 in
set_option maxRecDepth 100000 in
theorem m_X10_either (σ : am_H) (T : Nat → Int) (n : Nat) (htx : lx_txt σ T n) (k : Nat) (i : Nat) (o : Int) (hk : o = 6 - (k : Int)) (ho : 0 ≤ o) (hi : i ≤ n) (H2 : lx_C2 σ T n k) : am_Mi yX10_either cX10_either 3 (some .int) (6 * k + 7) 0 0 [vr 63] SH (pu σ (i : Int) (-1) o) (lx_post σ T n 1 o i) := by
  refine am_Mi_of (by decide +kernel) (Nat.le_of_ble_eq_true rfl) (fun K X hY hI hret => ?_)
  show am_G K 0 [some (vr 63), none, none] [] SH (pu σ (i : Int) (-1) o)
  have hn120 := htx.1
  refine am_aload_n (x := 63) X (by rfl) dX10_either_0 ?_
  refine am_callVi (ci := 9) X hY lk_X10_191 mf_X10_both (H2 i o (by omega) (by omega) (by omega)) (by omega) (by decide) (Nat.le_refl _) (Nat.le_refl _) sh_63 rfl rfl rfl (Nat.le_of_ble_eq_true rfl) dX10_either_1 (fun r1 sh1 σ1 hr1 hp1 => ?_)
  obtain ⟨rfl, j1, f1, o1, rfl, hq1⟩ := hp1
  have hw1 := lx_PO_f hq1
  refine am_istore_n (i := 1) (L' := [some (vr 63), some (vi r1), none]) X rfl (Nat.le_of_ble_eq_true rfl) (by rfl) dX10_either_4 ?_
  have hL5 : ∀ (m5 : Nat) (j : Nat) (f : Int) (o1 : Int) (v : Int) (hI : lx_PO σ T n 1 2 o i v j f o1) (hm5 : n - j = m5), am_G K 5 [some (vr 63), some (vi v), none] [] SH (pu σ (j : Int) f o1) := by
    intro m5
    induction m5 using Nat.strongRecOn with
    | ind m5 ih5 =>
    intro j f o1 v hI hm5
    have hw := lx_PO_f hI
    refine am_aload_n (x := 63) X (by rfl) dX10_either_5 ?_
    refine am_bipush X (by decide) dX10_either_6 ?_
    refine am_callVi (ci := 9) X hY lk_X10_194 mf_X10_takes (m_X10_takes 124 (by decide) j f o1 σ T n htx (by omega)) (by omega) (by decide) (Nat.le_refl _) (Nat.le_refl _) sh_63 rfl rfl rfl (Nat.le_of_ble_eq_true rfl) dX10_either_8 (fun r8 sh8 σ8 hr8 hp8 => ?_)
    obtain ⟨rfl, j8, rfl, hq8⟩ := hp8
    refine am_if_eq (tgt := 36) X dX10_either_11 (by decide) (fun h11 => ?_) (fun h11 => ?_)
    · skip
      refine am_iload_n (x := v) X (by rfl) dX10_either_36 ?_
      exact hret _ _ _ _ _ dX10_either_37 rfl rfl (by rcases hq8 with ⟨z, -⟩ | ⟨-, z1, z2⟩; exact absurd z (by omega); rw [z1]; exact ⟨rfl, _, f, o1, rfl, lx_PO_stop hI (fun hf hj => by have := (lx_rank_c (x := T j)); omega)⟩)
    · skip
      obtain ⟨z1, z2, z3, z4⟩ : j8 = j + 1 ∧ f < 0 ∧ j < n ∧ T j = 124 := by
        rcases hq8 with ⟨-, z⟩ | ⟨z, -⟩
        · exact z
        · exact absurd z (by omega)
      subst z1
      have ef : f = -1 := by omega
      subst ef
      refine am_aload_n (x := 63) X (by rfl) dX10_either_14 ?_
      refine am_callVi (ci := 9) X hY lk_X10_191 mf_X10_both (H2 (j + 1) o1 (by omega) (by omega) (by omega)) (by omega) (by decide) (Nat.le_refl _) (Nat.le_refl _) sh_63 rfl rfl rfl (Nat.le_of_ble_eq_true rfl) dX10_either_15 (fun r15 sh15 σ15 hr15 hp15 => ?_)
      obtain ⟨rfl, j15, f15, o15, rfl, hq15⟩ := hp15
      have ho1 : o1 = o := by omega
      rw [ho1] at hq15
      have hw15 := lx_PO_f hq15
      refine am_istore_n (i := 2) (L' := [some (vr 63), some (vi v), some (vi r15)]) X rfl (Nat.le_of_ble_eq_true rfl) (by rfl) dX10_either_18 ?_
      refine am_iload_n (x := v) X (by rfl) dX10_either_19 ?_
      refine am_if_ne (tgt := 27) X dX10_either_20 (by decide) (fun h20 => ?_) (fun h20 => ?_)
      · skip
        refine am_ic X (by decide) dX10_either_27 ?_
        refine am_goto (tgt := 32) X dX10_either_28 (by decide) ?_
        refine am_istore_n (i := 1) (L' := [some (vr 63), some (vi 1), some (vi r15)]) X rfl (Nat.le_of_ble_eq_true rfl) (by rfl) dX10_either_32 ?_
        refine am_goto (tgt := 5) X dX10_either_33 (by decide) ?_
        refine am_fg [true, true, false] rfl (L' := [some (vr 63), some (vi 1), none]) rfl ?_
        exact ih5 _ (by omega) j15 f15 o15 1 (lx_PO_bin (by decide) hI (by omega) (by omega) (x := 124) (by omega) (by decide) hq15 (by unfold lx_op2; rw [if_neg (by decide), if_neg (by decide), if_neg (by decide), if_neg (by decide), if_neg (by decide), if_neg (by decide), if_neg (by decide), if_neg (by decide), if_neg (by decide), if_pos (by omega)])) rfl
      · skip
        refine am_iload_n (x := r15) X (by rfl) dX10_either_23 ?_
        refine am_if_eq (tgt := 31) X dX10_either_24 (by decide) (fun h24 => ?_) (fun h24 => ?_)
        · skip
          refine am_ic X (by decide) dX10_either_31 ?_
          refine am_istore_n (i := 1) (L' := [some (vr 63), some (vi 0), some (vi r15)]) X rfl (Nat.le_of_ble_eq_true rfl) (by rfl) dX10_either_32 ?_
          refine am_goto (tgt := 5) X dX10_either_33 (by decide) ?_
          refine am_fg [true, true, false] rfl (L' := [some (vr 63), some (vi 0), none]) rfl ?_
          exact ih5 _ (by omega) j15 f15 o15 0 (lx_PO_bin (by decide) hI (by omega) (by omega) (x := 124) (by omega) (by decide) hq15 (by unfold lx_op2; rw [if_neg (by decide), if_neg (by decide), if_neg (by decide), if_neg (by decide), if_neg (by decide), if_neg (by decide), if_neg (by decide), if_neg (by decide), if_neg (by decide), if_neg (by omega)])) rfl
        · skip
          refine am_ic X (by decide) dX10_either_27 ?_
          refine am_goto (tgt := 32) X dX10_either_28 (by decide) ?_
          refine am_istore_n (i := 1) (L' := [some (vr 63), some (vi 1), some (vi r15)]) X rfl (Nat.le_of_ble_eq_true rfl) (by rfl) dX10_either_32 ?_
          refine am_goto (tgt := 5) X dX10_either_33 (by decide) ?_
          refine am_fg [true, true, false] rfl (L' := [some (vr 63), some (vi 1), none]) rfl ?_
          exact ih5 _ (by omega) j15 f15 o15 1 (lx_PO_bin (by decide) hI (by omega) (by omega) (x := 124) (by omega) (by decide) hq15 (by unfold lx_op2; rw [if_neg (by decide), if_neg (by decide), if_neg (by decide), if_neg (by decide), if_neg (by decide), if_neg (by decide), if_neg (by decide), if_neg (by decide), if_neg (by decide), if_pos (by omega)])) rfl
  exact hL5 _ j1 f1 o1 r1 (lx_PO_up hq1 (by decide) (by decide)) rfl
