set_option maxHeartbeats 4000000 in
set_option maxRecDepth 100000 in
theorem m_X1_forgetOldest (σ : am_H) : am_Mv yX1_forgetOldest cX1_forgetOldest 1 none 1 0 0 [vr 4] SH σ (fun sh' σ' => SH = sh' ∧ chg_forget σ = σ' ∧ True) := by
  refine am_Mv_of (by decide +kernel) (Nat.le_of_ble_eq_true rfl) (fun K X hY hI hret => ?_)
  show am_G K 0 [some (vr 4)] [] SH σ
  refine am_aload_n (x := 4) X (by rfl) dX1_forgetOldest_0 ?_
  refine am_getr (c1 := 5) X 4 fl_X1_9 (by decide) sh_4 (by decide) (by rfl) dX1_forgetOldest_1 ?_
  refine am_ic X (by decide) dX1_forgetOldest_4 ?_
  refine am_aload_n (x := 4) X (by rfl) dX1_forgetOldest_5 ?_
  refine am_getr (c1 := 5) X 4 fl_X1_9 (by decide) sh_4 (by decide) (by rfl) dX1_forgetOldest_6 ?_
  refine am_ic X (by decide) dX1_forgetOldest_9 ?_
  refine am_bipush X (by decide) dX1_forgetOldest_10 ?_
  refine am_copyi X hY 5 5 lk_X1_34 (by decide) sh_5 sh_5 (by omega) (by omega) (by omega) (by omega) (by omega) (Nat.le_of_ble_eq_true rfl) dX1_forgetOldest_12 ?_
  refine am_aload_n (x := 4) X (by rfl) dX1_forgetOldest_15 ?_
  refine am_getr (c1 := 6) X 4 fl_X1_15 (by decide) sh_4 (by decide) (by rfl) dX1_forgetOldest_16 ?_
  refine am_ic X (by decide) dX1_forgetOldest_19 ?_
  refine am_aload_n (x := 4) X (by rfl) dX1_forgetOldest_20 ?_
  refine am_getr (c1 := 6) X 4 fl_X1_15 (by decide) sh_4 (by decide) (by rfl) dX1_forgetOldest_21 ?_
  refine am_ic X (by decide) dX1_forgetOldest_24 ?_
  refine am_bipush X (by decide) dX1_forgetOldest_25 ?_
  refine am_copyi X hY 6 6 lk_X1_34 (by decide) sh_6 sh_6 (by omega) (by omega) (by omega) (by omega) (by omega) (Nat.le_of_ble_eq_true rfl) dX1_forgetOldest_27 ?_
  refine am_aload_n (x := 4) X (by rfl) dX1_forgetOldest_30 ?_
  refine am_getr (c1 := 7) X 4 fl_X1_18 (by decide) sh_4 (by decide) (by rfl) dX1_forgetOldest_31 ?_
  refine am_ic X (by decide) dX1_forgetOldest_34 ?_
  refine am_aload_n (x := 4) X (by rfl) dX1_forgetOldest_35 ?_
  refine am_getr (c1 := 7) X 4 fl_X1_18 (by decide) sh_4 (by decide) (by rfl) dX1_forgetOldest_36 ?_
  refine am_ic X (by decide) dX1_forgetOldest_39 ?_
  refine am_bipush X (by decide) dX1_forgetOldest_40 ?_
  refine am_copyi X hY 7 7 lk_X1_34 (by decide) sh_7 sh_7 (by omega) (by omega) (by omega) (by omega) (by omega) (Nat.le_of_ble_eq_true rfl) dX1_forgetOldest_42 ?_
  refine am_aload_n (x := 4) X (by rfl) dX1_forgetOldest_45 ?_
  refine am_getr (c1 := 8) X 4 fl_X1_21 (by decide) sh_4 (by decide) (by rfl) dX1_forgetOldest_46 ?_
  refine am_ic X (by decide) dX1_forgetOldest_49 ?_
  refine am_aload_n (x := 4) X (by rfl) dX1_forgetOldest_50 ?_
  refine am_getr (c1 := 8) X 4 fl_X1_21 (by decide) sh_4 (by decide) (by rfl) dX1_forgetOldest_51 ?_
  refine am_ic X (by decide) dX1_forgetOldest_54 ?_
  refine am_bipush X (by decide) dX1_forgetOldest_55 ?_
  refine am_copyi X hY 8 8 lk_X1_34 (by decide) sh_8 sh_8 (by omega) (by omega) (by omega) (by omega) (by omega) (Nat.le_of_ble_eq_true rfl) dX1_forgetOldest_57 ?_
  refine am_aload_n (x := 4) X (by rfl) dX1_forgetOldest_60 ?_
  refine am_bipush X (by decide) dX1_forgetOldest_61 ?_
  refine am_puti X 4 fl_X1_24 rfl rfl sh_4 (by decide) dX1_forgetOldest_63 ?_
  exact hret _ _ _ _ dX1_forgetOldest_66 rfl rfl (⟨rfl, rfl, trivial⟩)

set_option maxHeartbeats 4000000 in
set_option maxRecDepth 100000 in
theorem m_X1_note (n w b a : Int) (σ : am_H) (hD : 0 ≤ σ 4 4 ∧ σ 4 4 ≤ 40) : am_Mv yX1_note cX1_note 5 none 2 0 0 [vr 4, vi n, vi w, vi b, vi a] SH σ (fun sh' σ' => SH = sh' ∧ chg_note σ n w b a = σ' ∧ True) := by
  refine am_Mv_of (by decide +kernel) (Nat.le_of_ble_eq_true rfl) (fun K X hY hI hret => ?_)
  show am_G K 0 [some (vr 4), some (vi n), some (vi w), some (vi b), some (vi a)] [] SH σ
  refine am_aload_n (x := 4) X (by rfl) dX1_note_0 ?_
  refine am_get (v := σ 4 4) X 4 fl_X1_24 (by decide) sh_4 (by decide) (rfl) dX1_note_1 ?_
  refine am_bipush X (by decide) dX1_note_4 ?_
  refine am_icmp_lt (tgt := 13) X dX1_note_6 (by decide) (fun h6 => ?_) (fun h6 => ?_)
  · skip
    refine am_aload_n (x := 4) X (by rfl) dX1_note_13 ?_
    refine am_getr (c1 := 5) X 4 fl_X1_9 (by decide) sh_4 (by decide) (by rfl) dX1_note_14 ?_
    refine am_aload_n (x := 4) X (by rfl) dX1_note_17 ?_
    refine am_get (v := σ 4 4) X 4 fl_X1_24 (by decide) sh_4 (by decide) (rfl) dX1_note_18 ?_
    refine am_iload_n (x := n) X (by rfl) dX1_note_21 ?_
    refine am_ast X 5 (σ 4 4).toNat sh_5 (by omega) (by omega) dX1_note_22 ?_
    refine am_aload_n (x := 4) X (by rfl) dX1_note_23 ?_
    refine am_getr (c1 := 6) X 4 fl_X1_15 (by decide) sh_4 (by decide) (by rfl) dX1_note_24 ?_
    refine am_aload_n (x := 4) X (by rfl) dX1_note_27 ?_
    refine am_get (v := σ 4 4) X 4 fl_X1_24 (by decide) sh_4 (by decide) (by simp [am_up]) dX1_note_28 ?_
    refine am_iload_n (x := w) X (by rfl) dX1_note_31 ?_
    refine am_ast X 6 (σ 4 4).toNat sh_6 (by omega) (by omega) dX1_note_32 ?_
    refine am_aload_n (x := 4) X (by rfl) dX1_note_33 ?_
    refine am_getr (c1 := 7) X 4 fl_X1_18 (by decide) sh_4 (by decide) (by rfl) dX1_note_34 ?_
    refine am_aload_n (x := 4) X (by rfl) dX1_note_37 ?_
    refine am_get (v := σ 4 4) X 4 fl_X1_24 (by decide) sh_4 (by decide) (by simp [am_up]) dX1_note_38 ?_
    refine am_iload_n (x := b) X (by rfl) dX1_note_41 ?_
    refine am_ast X 7 (σ 4 4).toNat sh_7 (by omega) (by omega) dX1_note_42 ?_
    refine am_aload_n (x := 4) X (by rfl) dX1_note_43 ?_
    refine am_getr (c1 := 8) X 4 fl_X1_21 (by decide) sh_4 (by decide) (by rfl) dX1_note_44 ?_
    refine am_aload_n (x := 4) X (by rfl) dX1_note_47 ?_
    refine am_get (v := σ 4 4) X 4 fl_X1_24 (by decide) sh_4 (by decide) (by simp [am_up]) dX1_note_48 ?_
    refine am_iload (x := a) X (by rfl) dX1_note_51 ?_
    refine am_ast X 8 (σ 4 4).toNat sh_8 (by omega) (by omega) dX1_note_53 ?_
    refine am_aload_n (x := 4) X (by rfl) dX1_note_54 ?_
    refine am_dup X (Nat.ne_of_beq_eq_false rfl) dX1_note_55 ?_
    refine am_get (v := σ 4 4) X 4 fl_X1_24 (by decide) sh_4 (by decide) (by simp [am_up]) dX1_note_56 ?_
    refine am_ic X (by decide) dX1_note_59 ?_
    refine am_add (v := (σ 4 4 + 1)) X (by first | rfl | omega) (by omega) dX1_note_60 ?_
    refine am_puti X 4 fl_X1_24 rfl rfl sh_4 (by decide) dX1_note_61 ?_
    refine am_aload_n (x := 4) X (by rfl) dX1_note_64 ?_
    refine am_ic X (by decide) dX1_note_65 ?_
    refine am_puti X 4 fl_X1_31 rfl rfl sh_4 (by decide) dX1_note_66 ?_
    exact hret _ _ _ _ dX1_note_69 rfl rfl (by refine ⟨rfl, ?_, trivial⟩; unfold chg_note; rw [if_pos (by omega)]; rfl)
  · skip
    refine am_aload_n (x := 4) X (by rfl) dX1_note_9 ?_
    refine am_callVv (ci := 1) X hY lk_X1_28 mf_X1_forgetOldest (m_X1_forgetOldest σ) (by decide) (by decide) (Nat.le_refl _) (Nat.le_refl _) sh_4 rfl rfl rfl (Nat.le_of_ble_eq_true rfl) dX1_note_10 (fun sh10 σ10 hp10 => ?_)
    obtain ⟨rfl, rfl, hq10⟩ := hp10
    refine am_aload_n (x := 4) X (by rfl) dX1_note_13 ?_
    refine am_getr (c1 := 5) X 4 fl_X1_9 (by decide) sh_4 (by decide) (by rfl) dX1_note_14 ?_
    refine am_aload_n (x := 4) X (by rfl) dX1_note_17 ?_
    refine am_get (v := 39) X 4 fl_X1_24 (by decide) sh_4 (by decide) (by unfold chg_forget; exact am_up_eq) dX1_note_18 ?_
    refine am_iload_n (x := n) X (by rfl) dX1_note_21 ?_
    refine am_ast X 5 39 sh_5 (by omega) (by omega) dX1_note_22 ?_
    refine am_aload_n (x := 4) X (by rfl) dX1_note_23 ?_
    refine am_getr (c1 := 6) X 4 fl_X1_15 (by decide) sh_4 (by decide) (by rfl) dX1_note_24 ?_
    refine am_aload_n (x := 4) X (by rfl) dX1_note_27 ?_
    refine am_get (v := 39) X 4 fl_X1_24 (by decide) sh_4 (by decide) ((by simp [am_up] : (am_up (chg_forget σ) 5 39 n) 4 4 = (chg_forget σ) 4 4).trans (by unfold chg_forget; exact am_up_eq)) dX1_note_28 ?_
    refine am_iload_n (x := w) X (by rfl) dX1_note_31 ?_
    refine am_ast X 6 39 sh_6 (by omega) (by omega) dX1_note_32 ?_
    refine am_aload_n (x := 4) X (by rfl) dX1_note_33 ?_
    refine am_getr (c1 := 7) X 4 fl_X1_18 (by decide) sh_4 (by decide) (by rfl) dX1_note_34 ?_
    refine am_aload_n (x := 4) X (by rfl) dX1_note_37 ?_
    refine am_get (v := 39) X 4 fl_X1_24 (by decide) sh_4 (by decide) ((by simp [am_up] : (am_up (am_up (chg_forget σ) 5 39 n) 6 39 w) 4 4 = (chg_forget σ) 4 4).trans (by unfold chg_forget; exact am_up_eq)) dX1_note_38 ?_
    refine am_iload_n (x := b) X (by rfl) dX1_note_41 ?_
    refine am_ast X 7 39 sh_7 (by omega) (by omega) dX1_note_42 ?_
    refine am_aload_n (x := 4) X (by rfl) dX1_note_43 ?_
    refine am_getr (c1 := 8) X 4 fl_X1_21 (by decide) sh_4 (by decide) (by rfl) dX1_note_44 ?_
    refine am_aload_n (x := 4) X (by rfl) dX1_note_47 ?_
    refine am_get (v := 39) X 4 fl_X1_24 (by decide) sh_4 (by decide) ((by simp [am_up] : (am_up (am_up (am_up (chg_forget σ) 5 39 n) 6 39 w) 7 39 b) 4 4 = (chg_forget σ) 4 4).trans (by unfold chg_forget; exact am_up_eq)) dX1_note_48 ?_
    refine am_iload (x := a) X (by rfl) dX1_note_51 ?_
    refine am_ast X 8 39 sh_8 (by omega) (by omega) dX1_note_53 ?_
    refine am_aload_n (x := 4) X (by rfl) dX1_note_54 ?_
    refine am_dup X (Nat.ne_of_beq_eq_false rfl) dX1_note_55 ?_
    refine am_get (v := 39) X 4 fl_X1_24 (by decide) sh_4 (by decide) ((by simp [am_up] : (am_up (am_up (am_up (am_up (chg_forget σ) 5 39 n) 6 39 w) 7 39 b) 8 39 a) 4 4 = (chg_forget σ) 4 4).trans (by unfold chg_forget; exact am_up_eq)) dX1_note_56 ?_
    refine am_ic X (by decide) dX1_note_59 ?_
    refine am_add (v := 40) X (by first | rfl | omega) (by omega) dX1_note_60 ?_
    refine am_puti X 4 fl_X1_24 rfl rfl sh_4 (by decide) dX1_note_61 ?_
    refine am_aload_n (x := 4) X (by rfl) dX1_note_64 ?_
    refine am_ic X (by decide) dX1_note_65 ?_
    refine am_puti X 4 fl_X1_31 rfl rfl sh_4 (by decide) dX1_note_66 ?_
    exact hret _ _ _ _ dX1_note_69 rfl rfl (by refine ⟨rfl, ?_, trivial⟩; unfold chg_note; rw [if_neg (by omega)]; unfold chg_push; rw [show chg_forget σ 4 4 = 39 from am_up_eq]; rfl)

set_option maxHeartbeats 4000000 in
set_option maxRecDepth 100000 in
theorem m_X1_takeBack (k : Nat) (σ : am_H) (hD : σ 4 4 = k + 1 ∧ σ 4 4 ≤ 40) (hU : 0 ≤ σ 4 5 ∧ σ 4 5 ≤ 40) (hv : ((σ 6 k = 0 ∧ 0 ≤ σ 5 k ∧ σ 5 k ≤ 11) ∨ (σ 6 k = 1 ∧ 0 ≤ σ 5 k ∧ σ 5 k < 8) ∨ (σ 6 k = 2 ∧ σ 5 k = 0) ∨ (σ 6 k = 3 ∧ σ 5 k = 0))) : am_Mi yX1_takeBack cX1_takeBack 2 (some .int) 1 0 0 [vr 4, vr 1] SH σ (fun r sh' σ' => SH = sh' ∧ chg_back σ k = σ' ∧ r = σ 4 4 - 1) := by
  refine am_Mi_of (by decide +kernel) (Nat.le_of_ble_eq_true rfl) (fun K X hY hI hret => ?_)
  show am_G K 0 [some (vr 4), some (vr 1)] [] SH σ
  refine am_aload_n (x := 4) X (by rfl) dX1_takeBack_0 ?_
  refine am_dup X (Nat.ne_of_beq_eq_false rfl) dX1_takeBack_1 ?_
  refine am_get (v := σ 4 4) X 4 fl_X1_24 (by decide) sh_4 (by decide) (rfl) dX1_takeBack_2 ?_
  refine am_ic X (by decide) dX1_takeBack_5 ?_
  refine am_sub (v := (σ 4 4 - 1)) X (by first | rfl | omega) (by omega) dX1_takeBack_6 ?_
  refine am_puti X 4 fl_X1_24 rfl rfl sh_4 (by decide) dX1_takeBack_7 ?_
  refine am_aload_n (x := 4) X (by rfl) dX1_takeBack_10 ?_
  refine am_dup X (Nat.ne_of_beq_eq_false rfl) dX1_takeBack_11 ?_
  refine am_get (v := σ 4 5) X 4 fl_X1_31 (by decide) sh_4 (by decide) (by simp [am_up]) dX1_takeBack_12 ?_
  refine am_ic X (by decide) dX1_takeBack_15 ?_
  refine am_add (v := (σ 4 5 + 1)) X (by first | rfl | omega) (by omega) dX1_takeBack_16 ?_
  refine am_puti X 4 fl_X1_31 rfl rfl sh_4 (by decide) dX1_takeBack_17 ?_
  refine am_aload_n (x := 1) X (by rfl) dX1_takeBack_20 ?_
  refine am_aload_n (x := 4) X (by rfl) dX1_takeBack_21 ?_
  refine am_getr (c1 := 5) X 4 fl_X1_9 (by decide) sh_4 (by decide) (by rfl) dX1_takeBack_22 ?_
  refine am_aload_n (x := 4) X (by rfl) dX1_takeBack_25 ?_
  refine am_get (v := (σ 4 4 - 1)) X 4 fl_X1_24 (by decide) sh_4 (by decide) (by simp [am_up]) dX1_takeBack_26 ?_
  refine am_ald (v := σ 5 k) X 5 k sh_5 (by omega) (by omega) (by simp [am_up]) dX1_takeBack_29 ?_
  refine am_aload_n (x := 4) X (by rfl) dX1_takeBack_30 ?_
  refine am_getr (c1 := 6) X 4 fl_X1_15 (by decide) sh_4 (by decide) (by rfl) dX1_takeBack_31 ?_
  refine am_aload_n (x := 4) X (by rfl) dX1_takeBack_34 ?_
  refine am_get (v := (σ 4 4 - 1)) X 4 fl_X1_24 (by decide) sh_4 (by decide) (by simp [am_up]) dX1_takeBack_35 ?_
  refine am_ald (v := σ 6 k) X 6 k sh_6 (by omega) (by omega) (by simp [am_up]) dX1_takeBack_38 ?_
  refine am_aload_n (x := 4) X (by rfl) dX1_takeBack_39 ?_
  refine am_getr (c1 := 7) X 4 fl_X1_18 (by decide) sh_4 (by decide) (by rfl) dX1_takeBack_40 ?_
  refine am_aload_n (x := 4) X (by rfl) dX1_takeBack_43 ?_
  refine am_get (v := (σ 4 4 - 1)) X 4 fl_X1_24 (by decide) sh_4 (by decide) (by simp [am_up]) dX1_takeBack_44 ?_
  refine am_ald (v := σ 7 k) X 7 k sh_7 (by omega) (by omega) (by simp [am_up]) dX1_takeBack_47 ?_
  refine am_callVv (ci := 5) X hY lk_X1_40 mf_X6_tell (m_X6_tell (σ 5 k) (σ 6 k) (σ 7 k) ((σ 5 k).toNat) (by omega) (am_up (am_up σ 4 4 (σ 4 4 - 1)) 4 5 (σ 4 5 + 1)) (by omega)) (by decide) (by decide) (Nat.le_refl _) (Nat.le_refl _) sh_1 rfl rfl rfl (Nat.le_of_ble_eq_true rfl) dX1_takeBack_48 (fun sh48 σ48 hp48 => ?_)
  obtain ⟨rfl, rfl, hq48⟩ := hp48
  refine am_aload_n (x := 4) X (by rfl) dX1_takeBack_51 ?_
  refine am_get (v := (σ 4 4 - 1)) X 4 fl_X1_24 (by decide) sh_4 (by decide) (by rw [set_tell_at (by decide)]; simp [am_up]) dX1_takeBack_52 ?_
  exact hret _ _ _ _ _ dX1_takeBack_55 rfl rfl (⟨rfl, rfl, rfl⟩)

set_option maxHeartbeats 4000000 in
set_option maxRecDepth 100000 in
theorem m_X1_doAgain (k : Nat) (σ : am_H) (hD : σ 4 4 = k ∧ k < 40) (hU : 0 < σ 4 5 ∧ σ 4 5 ≤ 40) (hv : ((σ 6 k = 0 ∧ 0 ≤ σ 5 k ∧ σ 5 k ≤ 11) ∨ (σ 6 k = 1 ∧ 0 ≤ σ 5 k ∧ σ 5 k < 8) ∨ (σ 6 k = 2 ∧ σ 5 k = 0) ∨ (σ 6 k = 3 ∧ σ 5 k = 0))) : am_Mi yX1_doAgain cX1_doAgain 2 (some .int) 1 0 0 [vr 4, vr 1] SH σ (fun r sh' σ' => SH = sh' ∧ chg_again σ k = σ' ∧ r = σ 4 5 - 1) := by
  refine am_Mi_of (by decide +kernel) (Nat.le_of_ble_eq_true rfl) (fun K X hY hI hret => ?_)
  show am_G K 0 [some (vr 4), some (vr 1)] [] SH σ
  refine am_aload_n (x := 1) X (by rfl) dX1_doAgain_0 ?_
  refine am_aload_n (x := 4) X (by rfl) dX1_doAgain_1 ?_
  refine am_getr (c1 := 5) X 4 fl_X1_9 (by decide) sh_4 (by decide) (by rfl) dX1_doAgain_2 ?_
  refine am_aload_n (x := 4) X (by rfl) dX1_doAgain_5 ?_
  refine am_get (v := σ 4 4) X 4 fl_X1_24 (by decide) sh_4 (by decide) (rfl) dX1_doAgain_6 ?_
  refine am_ald (v := σ 5 k) X 5 k sh_5 (by omega) (by omega) (rfl) dX1_doAgain_9 ?_
  refine am_aload_n (x := 4) X (by rfl) dX1_doAgain_10 ?_
  refine am_getr (c1 := 6) X 4 fl_X1_15 (by decide) sh_4 (by decide) (by rfl) dX1_doAgain_11 ?_
  refine am_aload_n (x := 4) X (by rfl) dX1_doAgain_14 ?_
  refine am_get (v := σ 4 4) X 4 fl_X1_24 (by decide) sh_4 (by decide) (rfl) dX1_doAgain_15 ?_
  refine am_ald (v := σ 6 k) X 6 k sh_6 (by omega) (by omega) (rfl) dX1_doAgain_18 ?_
  refine am_aload_n (x := 4) X (by rfl) dX1_doAgain_19 ?_
  refine am_getr (c1 := 8) X 4 fl_X1_21 (by decide) sh_4 (by decide) (by rfl) dX1_doAgain_20 ?_
  refine am_aload_n (x := 4) X (by rfl) dX1_doAgain_23 ?_
  refine am_get (v := σ 4 4) X 4 fl_X1_24 (by decide) sh_4 (by decide) (rfl) dX1_doAgain_24 ?_
  refine am_ald (v := σ 8 k) X 8 k sh_8 (by omega) (by omega) (rfl) dX1_doAgain_27 ?_
  refine am_callVv (ci := 5) X hY lk_X1_40 mf_X6_tell (m_X6_tell (σ 5 k) (σ 6 k) (σ 8 k) ((σ 5 k).toNat) (by omega) σ (by omega)) (by decide) (by decide) (Nat.le_refl _) (Nat.le_refl _) sh_1 rfl rfl rfl (Nat.le_of_ble_eq_true rfl) dX1_doAgain_28 (fun sh28 σ28 hp28 => ?_)
  obtain ⟨rfl, rfl, hq28⟩ := hp28
  refine am_aload_n (x := 4) X (by rfl) dX1_doAgain_31 ?_
  refine am_dup X (Nat.ne_of_beq_eq_false rfl) dX1_doAgain_32 ?_
  refine am_get (v := (σ 4 4)) X 4 fl_X1_24 (by decide) sh_4 (by decide) (by rw [set_tell_at (by decide)]) dX1_doAgain_33 ?_
  refine am_ic X (by decide) dX1_doAgain_36 ?_
  refine am_add (v := ((σ 4 4) + 1)) X (by first | rfl | omega) (by omega) dX1_doAgain_37 ?_
  refine am_puti X 4 fl_X1_24 rfl rfl sh_4 (by decide) dX1_doAgain_38 ?_
  refine am_aload_n (x := 4) X (by rfl) dX1_doAgain_41 ?_
  refine am_dup X (Nat.ne_of_beq_eq_false rfl) dX1_doAgain_42 ?_
  refine am_get (v := (σ 4 5)) X 4 fl_X1_31 (by decide) sh_4 (by decide) ((by simp [am_up] : (am_up (set_tell σ ((σ 5 k).toNat) (σ 6 k) (σ 8 k)) 4 4 ((σ 4 4) + 1)) 4 5 = (set_tell σ ((σ 5 k).toNat) (σ 6 k) (σ 8 k)) 4 5).trans (by rw [set_tell_at (by decide)])) dX1_doAgain_43 ?_
  refine am_ic X (by decide) dX1_doAgain_46 ?_
  refine am_sub (v := ((σ 4 5) - 1)) X (by first | rfl | omega) (by omega) dX1_doAgain_47 ?_
  refine am_puti X 4 fl_X1_31 rfl rfl sh_4 (by decide) dX1_doAgain_48 ?_
  refine am_aload_n (x := 4) X (by rfl) dX1_doAgain_51 ?_
  refine am_get (v := ((σ 4 5) - 1)) X 4 fl_X1_31 (by decide) sh_4 (by decide) (by simp [am_up]) dX1_doAgain_52 ?_
  exact hret _ _ _ _ _ dX1_doAgain_55 rfl rfl (⟨rfl, rfl, rfl⟩)

set_option maxHeartbeats 4000000 in
set_option maxRecDepth 100000 in
theorem m_X0_isBody (a : Int) (σ : am_H) (hc : 0 ≤ σ 46 2 ∧ σ 46 2 ≤ 50) : am_Mi yX0_isBody cX0_isBody 2 (some .boolean) 1 0 0 [vr 46, vi a] SH σ (fun r sh' σ' => SH = sh' ∧ σ = σ' ∧ am_b r (0 ≤ a ∧ a < σ 46 2)) := by
  refine am_Mz_of (by decide +kernel) (Nat.le_of_ble_eq_true rfl) (fun K X hY hI hret => ?_)
  show am_G K 0 [some (vr 46), some (vi a)] [] SH σ
  refine am_iload_n (x := a) X (by rfl) dX0_isBody_0 ?_
  refine am_ic X (by decide) dX0_isBody_1 ?_
  refine am_aload_n (x := 46) X (by rfl) dX0_isBody_2 ?_
  refine am_get (v := σ 46 2) X 46 fl_X0_18 (by decide) sh_46 (by decide) (rfl) dX0_isBody_3 ?_
  refine am_ic X (by decide) dX0_isBody_6 ?_
  refine am_sub (v := (σ 46 2 - 1)) X (by first | rfl | omega) (by omega) dX0_isBody_7 ?_
  refine am_callSNi X hY lk_X0_22 mf_X9_within (m_X9_within a 0 (σ 46 2 - 1) _ σ) (by decide) (by decide) (Nat.le_refl _) (Nat.le_refl _) rfl rfl (Nat.le_of_ble_eq_true rfl) dX0_isBody_8 (fun r8 sh8 σ8 hr8 hp8 => ?_)
  obtain ⟨rfl, rfl, hq8⟩ := hp8
  exact hret _ _ _ _ _ dX0_isBody_11 rfl rfl (⟨rfl, rfl, am_bi hq8 (by omega)⟩) (am_bz hq8)

set_option maxHeartbeats 4000000 in
set_option maxRecDepth 100000 in
theorem m_X0_add (v : Int) (σ : am_H) (hp : 0 ≤ σ 46 2 ∧ σ 46 2 < 50) : am_Mi yX0_add cX0_add 2 (some .int) 0 0 0 [vr 46, vi v] SH σ (fun r sh' σ' => SH = sh' ∧ (bd_add σ v) = σ' ∧ r = σ 46 2) := by
  refine am_Mi_of (by decide +kernel) (Nat.le_of_ble_eq_true rfl) (fun K X hY hI hret => ?_)
  show am_G K 0 [some (vr 46), some (vi v)] [] SH σ
  refine am_aload_n (x := 46) X (by rfl) dX0_add_0 ?_
  refine am_getr (c1 := 47) X 46 fl_X0_9 (by decide) sh_46 (by decide) (by rfl) dX0_add_1 ?_
  refine am_aload_n (x := 46) X (by rfl) dX0_add_4 ?_
  refine am_get (v := σ 46 2) X 46 fl_X0_18 (by decide) sh_46 (by decide) (rfl) dX0_add_5 ?_
  refine am_iload_n (x := v) X (by rfl) dX0_add_8 ?_
  refine am_ast X 47 (σ 46 2).toNat sh_47 (by omega) (by omega) dX0_add_9 ?_
  refine am_aload_n (x := 46) X (by rfl) dX0_add_10 ?_
  refine am_dup X (Nat.ne_of_beq_eq_false rfl) dX0_add_11 ?_
  refine am_get (v := σ 46 2) X 46 fl_X0_18 (by decide) sh_46 (by decide) (by simp [am_up]) dX0_add_12 ?_
  refine am_ic X (by decide) dX0_add_15 ?_
  refine am_add (v := (σ 46 2 + 1)) X (by first | rfl | omega) (by omega) dX0_add_16 ?_
  refine am_puti X 46 fl_X0_18 rfl rfl sh_46 (by decide) dX0_add_17 ?_
  refine am_aload_n (x := 46) X (by rfl) dX0_add_20 ?_
  refine am_get (v := (σ 46 2 + 1)) X 46 fl_X0_18 (by decide) sh_46 (by decide) (by simp [am_up]) dX0_add_21 ?_
  refine am_ic X (by decide) dX0_add_24 ?_
  refine am_sub (v := ((σ 46 2 + 1) - 1)) X (by first | rfl | omega) (by omega) dX0_add_25 ?_
  exact hret _ _ _ _ _ dX0_add_26 rfl rfl (⟨rfl, rfl, by omega⟩)

set_option maxHeartbeats 4000000 in
set_option maxRecDepth 100000 in
theorem m_X0_note (n : Int) (σ : am_H) (hr : 0 ≤ σ 46 3 ∧ σ 46 3 < 2000) : am_Mv yX0_note cX0_note 2 none 0 0 0 [vr 46, vi n] SH σ (fun sh' σ' => SH = sh' ∧ bd_note σ n = σ' ∧ True) := by
  refine am_Mv_of (by decide +kernel) (Nat.le_of_ble_eq_true rfl) (fun K X hY hI hret => ?_)
  show am_G K 0 [some (vr 46), some (vi n)] [] SH σ
  refine am_aload_n (x := 46) X (by rfl) dX0_note_0 ?_
  refine am_get (v := σ 46 3) X 46 fl_X0_53 (by decide) sh_46 (by decide) (rfl) dX0_note_1 ?_
  refine am_bipush X (by decide) dX0_note_4 ?_
  refine am_icmp_ge (tgt := 19) X dX0_note_6 (by decide) (fun h6 => ?_) (fun h6 => ?_)
  · skip
    refine am_aload_n (x := 46) X (by rfl) dX0_note_19 ?_
    refine am_dup X (Nat.ne_of_beq_eq_false rfl) dX0_note_20 ?_
    refine am_get (v := σ 46 3) X 46 fl_X0_53 (by decide) sh_46 (by decide) (rfl) dX0_note_21 ?_
    refine am_ic X (by decide) dX0_note_24 ?_
    refine am_add (v := (σ 46 3 + 1)) X (by first | rfl | omega) (by omega) dX0_note_25 ?_
    refine am_puti X 46 fl_X0_53 rfl rfl sh_46 (by decide) dX0_note_26 ?_
    exact hret _ _ _ _ dX0_note_29 rfl rfl (by refine ⟨rfl, ?_, trivial⟩; unfold bd_note; first | rw [if_pos (by omega)] | rw [if_neg (by omega)])
  · skip
    refine am_aload_n (x := 46) X (by rfl) dX0_note_9 ?_
    refine am_getr (c1 := 48) X 46 fl_X0_15 (by decide) sh_46 (by decide) (by rfl) dX0_note_10 ?_
    refine am_aload_n (x := 46) X (by rfl) dX0_note_13 ?_
    refine am_get (v := σ 46 3) X 46 fl_X0_53 (by decide) sh_46 (by decide) (rfl) dX0_note_14 ?_
    refine am_iload_n (x := n) X (by rfl) dX0_note_17 ?_
    refine am_ast X 48 (σ 46 3).toNat sh_48 (by omega) (by omega) dX0_note_18 ?_
    refine am_aload_n (x := 46) X (by rfl) dX0_note_19 ?_
    refine am_dup X (Nat.ne_of_beq_eq_false rfl) dX0_note_20 ?_
    refine am_get (v := σ 46 3) X 46 fl_X0_53 (by decide) sh_46 (by decide) (by simp [am_up]) dX0_note_21 ?_
    refine am_ic X (by decide) dX0_note_24 ?_
    refine am_add (v := (σ 46 3 + 1)) X (by first | rfl | omega) (by omega) dX0_note_25 ?_
    refine am_puti X 46 fl_X0_53 rfl rfl sh_46 (by decide) dX0_note_26 ?_
    exact hret _ _ _ _ dX0_note_29 rfl rfl (by refine ⟨rfl, ?_, trivial⟩; unfold bd_note; first | rw [if_pos (by omega)] | rw [if_neg (by omega)])
