
def m_least (σ : am_H) (x : Int) (n : Nat) : Int := am_it (fun k s => if am_bit x k = 1 ∧ σ 68 (5 * k + 2) < s then σ 68 (5 * k + 2) else s) n 9
def m_strike (x c : Int) (n : Nat) (σ : am_H) : am_H := am_it (fun k s => if am_bit x k = 1 then md_less s k c else s) n σ
theorem m_strike_at {x c : Int} {σ : am_H} {n e j : Nat} (h : e ≠ 68 ∨ 5 * n ≤ j) : m_strike x c n σ e j = σ e j := by
  induction n with
  | zero => rfl
  | succ n ih =>
    show (if am_bit x n = 1 then md_less (m_strike x c n σ) n c else m_strike x c n σ) e j = _
    split
    · unfold md_less
      rw [am_up_k (by omega), am_up_k (by omega)]; exact ih (by omega)
    · exact ih (by omega)

set_option maxHeartbeats 4000000 in
set_option maxRecDepth 100000 in
theorem m_X10_strike (σ : am_H) (hp : 0 ≤ σ 63 6 ∧ σ 63 6 ≤ 8) (hc : 0 ≤ σ 63 7 ∧ σ 63 7 ≤ 20) (hd : ∀ n : Nat, (n : Int) < σ 63 7 → 0 ≤ σ 68 (5 * n + 2) ∧ σ 68 (5 * n + 2) ≤ 9) (hdeb : MdeV σ) : am_Mi yX10_strike cX10_strike 4 (some .int) 10 0 0 [vr 63] SH σ (fun r sh' σ' => SH = sh' ∧ ∃ τ x, md_frr σ τ ∧ m_rg σ x ∧ x < 1048576 ∧ ((x < 0 ∧ τ = σ' ∧ r = -2) ∨ (0 ≤ x ∧ m_strike x (m_least σ x (σ 63 7).toNat) (σ 63 7).toNat τ = σ' ∧ r = m_least σ x (σ 63 7).toNat))) := by
  refine am_Mi_of (by decide +kernel) (Nat.le_of_ble_eq_true rfl) (fun K X hY hI hret => ?_)
  show am_G K 0 [some (vr 63), none, none, none] [] SH σ
  refine am_aload_n (x := 63) X (by rfl) dX10_strike_0 ?_
  refine am_callVi (ci := 9) X hY lk_X10_281 mf_X10_ring (m_X10_ring σ hp hc hdeb) (by decide) (by decide) (Nat.le_refl _) (Nat.le_refl _) sh_63 rfl rfl rfl (Nat.le_of_ble_eq_true rfl) dX10_strike_1 (fun r1 sh1 σ1 hr1 hp1 => ?_)
  obtain ⟨rfl, hf1, hq1⟩ := hp1
  refine am_istore_n (i := 1) (L' := [some (vr 63), some (vi r1), none, none]) X rfl (Nat.le_of_ble_eq_true rfl) (by rfl) dX10_strike_4 ?_
  refine am_iload_n (x := r1) X (by rfl) dX10_strike_5 ?_
  refine am_if_ge (tgt := 12) X dX10_strike_6 (by decide) (fun h6 => ?_) (fun h6 => ?_)
  · skip
    refine am_bipush X (by decide) dX10_strike_12 ?_
    refine am_istore_n (i := 2) (L' := [some (vr 63), some (vi r1), some (vi 9), none]) X rfl (Nat.le_of_ble_eq_true rfl) (by rfl) dX10_strike_14 ?_
    refine am_ic X (by decide) dX10_strike_15 ?_
    refine am_istore_n (i := 3) (L' := [some (vr 63), some (vi r1), some (vi 9), some (vi 0)]) X rfl (Nat.le_of_ble_eq_true rfl) (by rfl) dX10_strike_16 ?_
    have hL17 : ∀ (m17 : Nat) (k : Nat) (c : Int) (hk : (k : Int) ≤ σ 63 7) (hcb : 0 ≤ c ∧ c ≤ 9) (hcl : m_least σ r1 k = c) (hm17 : 20 - k = m17), am_G K 17 [some (vr 63), some (vi r1), some (vi c), some (vi (k : Int))] [] SH σ1 := by
      intro m17
      induction m17 using Nat.strongRecOn with
      | ind m17 ih17 =>
      intro k c hk hcb hcl hm17
      have hdk := fun h : (k : Int) < σ 63 7 => hd k h
      refine am_iload_n (x := (k : Int)) X (by rfl) dX10_strike_17 ?_
      refine am_aload_n (x := 63) X (by rfl) dX10_strike_18 ?_
      refine am_get (v := σ 63 7) X 63 fl_X10_111 (by decide) sh_63 (by decide) (hf1 63 7 (by decide)) dX10_strike_19 ?_
      refine am_icmp_ge (tgt := 69) X dX10_strike_22 (by decide) (fun h22 => ?_) (fun h22 => ?_)
      · skip
        refine am_ic X (by decide) dX10_strike_69 ?_
        refine am_istore_n (i := 3) (L' := [some (vr 63), some (vi r1), some (vi c), some (vi 0)]) X rfl (Nat.le_of_ble_eq_true rfl) (by rfl) dX10_strike_70 ?_
        have hL71 : ∀ (m71 : Nat) (j : Nat) (hj : (j : Int) ≤ σ 63 7) (hm71 : 20 - j = m71), am_G K 71 [some (vr 63), some (vi r1), some (vi c), some (vi (j : Int))] [] SH (m_strike r1 c j σ1) := by
          intro m71
          induction m71 using Nat.strongRecOn with
          | ind m71 ih71 =>
          intro j hj hm71
          have hdj := fun h : (j : Int) < σ 63 7 => hd j h
          refine am_iload_n (x := (j : Int)) X (by rfl) dX10_strike_71 ?_
          refine am_aload_n (x := 63) X (by rfl) dX10_strike_72 ?_
          refine am_get (v := σ 63 7) X 63 fl_X10_111 (by decide) sh_63 (by decide) ((m_strike_at (Or.inl (by decide))).trans (hf1 63 7 (by decide))) dX10_strike_73 ?_
          refine am_icmp_ge (tgt := 100) X dX10_strike_76 (by decide) (fun h76 => ?_) (fun h76 => ?_)
          · skip
            refine am_iload_n (x := c) X (by rfl) dX10_strike_100 ?_
            exact hret _ _ _ _ _ dX10_strike_101 rfl rfl (⟨rfl, σ1, r1, hf1, hq1.1, hq1.2, Or.inr (by have e1 : (σ 63 7).toNat = j := (by omega); have e2 : k = j := (by omega); rw [e2] at hcl; rw [e1, hcl]; exact ⟨by omega, rfl, rfl⟩)⟩)
          · skip
            refine am_iload_n (x := r1) X (by rfl) dX10_strike_79 ?_
            refine am_iload_n (x := (j : Int)) X (by rfl) dX10_strike_80 ?_
            refine am_ishr X dX10_strike_81 ?_
            refine am_ic X (by decide) dX10_strike_82 ?_
            refine am_iand X dX10_strike_83 ?_
            refine am_ic X (by decide) dX10_strike_84 ?_
            refine am_icmp_ne (tgt := 94) X dX10_strike_85 (by decide) (fun h85 => ?_) (fun h85 => ?_)
            · skip
              refine am_inc (x := (j : Int)) (v := ((j : Int) + 1)) (L' := [some (vr 63), some (vi r1), some (vi c), some (vi ((j : Int) + 1))]) X (by rfl) (by omega) (by omega) (by rfl) dX10_strike_94 ?_
              refine am_goto (tgt := 71) X dX10_strike_97 (by decide) ?_
              refine am_sg (m_strike r1 c (j + 1) σ1) (by symm; show am_it _ (j + 1) σ1 = _; rw [am_it_succ]; first | exact if_pos (by unfold am_bit; omega) | exact if_neg (by unfold am_bit; omega)) ?_
              exact ih71 _ (by omega) (j + 1) (by omega) rfl
            · skip
              refine am_aload_n (x := 63) X (by rfl) dX10_strike_88 ?_
              refine am_iload_n (x := (j : Int)) X (by rfl) dX10_strike_89 ?_
              refine am_iload_n (x := c) X (by rfl) dX10_strike_90 ?_
              refine am_callVv (ci := 9) X hY lk_X10_249 mf_X10_loses (m_X10_loses (j : Int) j rfl (by omega) c (m_strike r1 c j σ1) (by rw [m_strike_at (by omega), hf1 68 _ (Or.inl (by decide))]; omega)) (by decide) (by decide) (Nat.le_refl _) (Nat.le_refl _) sh_63 rfl rfl rfl (Nat.le_of_ble_eq_true rfl) dX10_strike_91 (fun sh91 σ91 hp91 => ?_)
              obtain ⟨rfl, rfl, -⟩ := hp91
              refine am_inc (x := (j : Int)) (v := ((j : Int) + 1)) (L' := [some (vr 63), some (vi r1), some (vi c), some (vi ((j : Int) + 1))]) X (by rfl) (by omega) (by omega) (by rfl) dX10_strike_94 ?_
              refine am_goto (tgt := 71) X dX10_strike_97 (by decide) ?_
              refine am_sg (m_strike r1 c (j + 1) σ1) (by symm; show am_it _ (j + 1) σ1 = _; rw [am_it_succ]; first | exact if_pos (by unfold am_bit; omega) | exact if_neg (by unfold am_bit; omega)) ?_
              exact ih71 _ (by omega) (j + 1) (by omega) rfl
        refine am_sg (m_strike r1 c 0 σ1) (rfl) ?_
        exact hL71 _ 0 (by omega) rfl
      · skip
        refine am_iload_n (x := r1) X (by rfl) dX10_strike_25 ?_
        refine am_iload_n (x := (k : Int)) X (by rfl) dX10_strike_26 ?_
        refine am_ishr X dX10_strike_27 ?_
        refine am_ic X (by decide) dX10_strike_28 ?_
        refine am_iand X dX10_strike_29 ?_
        refine am_ic X (by decide) dX10_strike_30 ?_
        refine am_icmp_ne (tgt := 61) X dX10_strike_31 (by decide) (fun h31 => ?_) (fun h31 => ?_)
        · skip
          refine am_iload_n (x := c) X (by rfl) dX10_strike_61 ?_
          refine am_istore_n (i := 2) (L' := [some (vr 63), some (vi r1), some (vi c), some (vi (k : Int))]) X rfl (Nat.le_of_ble_eq_true rfl) (by rfl) dX10_strike_62 ?_
          refine am_inc (x := (k : Int)) (v := ((k : Int) + 1)) (L' := [some (vr 63), some (vi r1), some (vi c), some (vi ((k : Int) + 1))]) X (by rfl) (by omega) (by omega) (by rfl) dX10_strike_63 ?_
          refine am_goto (tgt := 17) X dX10_strike_66 (by decide) ?_
          exact ih17 _ (by omega) (k + 1) c (by omega) (by omega) (by unfold m_least at *; rw [am_it_succ, hcl]; first | rw [if_pos (by unfold am_bit; omega)] | rw [if_neg (by unfold am_bit; omega)]) rfl
        · skip
          refine am_aload_n (x := 63) X (by rfl) dX10_strike_34 ?_
          refine am_getr (c1 := 68) X 63 fl_X10_22 (by decide) sh_63 (by decide) (by rfl) dX10_strike_35 ?_
          refine am_ic X (by decide) dX10_strike_38 ?_
          refine am_iload_n (x := (k : Int)) X (by rfl) dX10_strike_39 ?_
          refine am_mul (v := (5 * (k : Int))) X (by first | rfl | omega) (by omega) dX10_strike_40 ?_
          refine am_ic X (by decide) dX10_strike_41 ?_
          refine am_add (v := ((5 * (k : Int)) + 2)) X (by first | rfl | omega) (by omega) dX10_strike_42 ?_
          refine am_ald (v := σ 68 ((5 * k) + 2)) X 68 ((5 * k) + 2) sh_68 (by omega) (by omega) (hf1 68 ((5 * k) + 2) (Or.inl (by decide))) dX10_strike_43 ?_
          refine am_iload_n (x := c) X (by rfl) dX10_strike_44 ?_
          refine am_icmp_ge (tgt := 61) X dX10_strike_45 (by decide) (fun h45 => ?_) (fun h45 => ?_)
          · skip
            refine am_iload_n (x := c) X (by rfl) dX10_strike_61 ?_
            refine am_istore_n (i := 2) (L' := [some (vr 63), some (vi r1), some (vi c), some (vi (k : Int))]) X rfl (Nat.le_of_ble_eq_true rfl) (by rfl) dX10_strike_62 ?_
            refine am_inc (x := (k : Int)) (v := ((k : Int) + 1)) (L' := [some (vr 63), some (vi r1), some (vi c), some (vi ((k : Int) + 1))]) X (by rfl) (by omega) (by omega) (by rfl) dX10_strike_63 ?_
            refine am_goto (tgt := 17) X dX10_strike_66 (by decide) ?_
            exact ih17 _ (by omega) (k + 1) c (by omega) (by omega) (by unfold m_least at *; rw [am_it_succ, hcl]; first | rw [if_pos (by unfold am_bit; omega)] | rw [if_neg (by unfold am_bit; omega)]) rfl
          · skip
            refine am_aload_n (x := 63) X (by rfl) dX10_strike_48 ?_
            refine am_getr (c1 := 68) X 63 fl_X10_22 (by decide) sh_63 (by decide) (by rfl) dX10_strike_49 ?_
            refine am_ic X (by decide) dX10_strike_52 ?_
            refine am_iload_n (x := (k : Int)) X (by rfl) dX10_strike_53 ?_
            refine am_mul (v := (5 * (k : Int))) X (by first | rfl | omega) (by omega) dX10_strike_54 ?_
            refine am_ic X (by decide) dX10_strike_55 ?_
            refine am_add (v := ((5 * (k : Int)) + 2)) X (by first | rfl | omega) (by omega) dX10_strike_56 ?_
            refine am_ald (v := σ 68 ((5 * k) + 2)) X 68 ((5 * k) + 2) sh_68 (by omega) (by omega) (hf1 68 ((5 * k) + 2) (Or.inl (by decide))) dX10_strike_57 ?_
            refine am_goto (tgt := 62) X dX10_strike_58 (by decide) ?_
            refine am_istore_n (i := 2) (L' := [some (vr 63), some (vi r1), some (vi (σ 68 ((5 * k) + 2))), some (vi (k : Int))]) X rfl (Nat.le_of_ble_eq_true rfl) (by rfl) dX10_strike_62 ?_
            refine am_inc (x := (k : Int)) (v := ((k : Int) + 1)) (L' := [some (vr 63), some (vi r1), some (vi (σ 68 ((5 * k) + 2))), some (vi ((k : Int) + 1))]) X (by rfl) (by omega) (by omega) (by rfl) dX10_strike_63 ?_
            refine am_goto (tgt := 17) X dX10_strike_66 (by decide) ?_
            exact ih17 _ (by omega) (k + 1) (σ 68 ((5 * k) + 2)) (by omega) (by omega) (by unfold m_least at *; rw [am_it_succ, hcl]; first | rw [if_pos (by unfold am_bit; omega)] | rw [if_neg (by unfold am_bit; omega)]) rfl
    exact hL17 _ 0 9 (by omega) (by omega) (rfl) rfl
  · skip
    refine am_bipush X (by decide) dX10_strike_9 ?_
    exact hret _ _ _ _ _ dX10_strike_11 rfl rfl (⟨rfl, σ1, r1, hf1, hq1.1, hq1.2, Or.inl ⟨by omega, rfl, rfl⟩⟩)
