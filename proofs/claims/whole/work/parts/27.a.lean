set_option maxHeartbeats 4000000 in
set_option maxRecDepth 100000 in
theorem m_X9_undo (σ : am_H) (hD : 0 ≤ σ 4 4 ∧ 0 ≤ σ 4 5 ∧ σ 4 4 + σ 4 5 ≤ 40) (hcv : ∀ k : Nat, (k : Int) < σ 4 4 + σ 4 5 → (σ 6 k = 0 ∧ 0 ≤ σ 5 k ∧ σ 5 k ≤ 11) ∨ (σ 6 k = 1 ∧ 0 ≤ σ 5 k ∧ σ 5 k < 8) ∨ (σ 6 k = 2 ∧ σ 5 k = 0) ∨ (σ 6 k = 3 ∧ σ 5 k = 0)) : am_Mi yX9_undo cX9_undo 1 (some .int) 2 0 0 [vr 0] SH σ (fun r sh' σ' => SH = sh' ∧ ((σ 4 4 = 0 ∧ r = -5 ∧ σ = σ') ∨ (σ 4 4 ≠ 0 ∧ r = σ 4 4 - 1 ∧ (chg_back σ (σ 4 4 - 1).toNat) = σ'))) := by
  refine am_Mi_of (by decide +kernel) (Nat.le_of_ble_eq_true rfl) (fun K X hY hI hret => ?_)
  show am_G K 0 [some (vr 0)] [] SH σ
  refine am_aload_n (x := 0) X (by rfl) dX9_undo_0 ?_
  refine am_getr (c1 := 4) X 0 fl_X9_19 (by decide) sh_0 (by decide) (by rfl) dX9_undo_1 ?_
  refine am_get (v := σ 4 4) X 4 fl_X9_273 (by decide) sh_4 (by decide) (rfl) dX9_undo_4 ?_
  refine am_if_ne (tgt := 15) X dX9_undo_7 (by decide) (fun h7 => ?_) (fun h7 => ?_)
  · skip
    refine am_aload_n (x := 0) X (by rfl) dX9_undo_15 ?_
    refine am_getr (c1 := 4) X 0 fl_X9_19 (by decide) sh_0 (by decide) (by rfl) dX9_undo_16 ?_
    refine am_aload_n (x := 0) X (by rfl) dX9_undo_19 ?_
    refine am_getr (c1 := 1) X 0 fl_X9_10 (by decide) sh_0 (by decide) (by rfl) dX9_undo_20 ?_
    refine am_callVi (ci := 1) X hY lk_X9_276 mf_X1_takeBack (m_X1_takeBack (σ 4 4 - 1).toNat σ (by omega) (by omega) (hcv _ (by omega))) (by decide) (by decide) (Nat.le_refl _) (Nat.le_refl _) sh_4 rfl rfl rfl (Nat.le_of_ble_eq_true rfl) dX9_undo_23 (fun r23 sh23 σ23 hr23 hp23 => ?_)
    obtain ⟨rfl, rfl, hq23⟩ := hp23
    exact hret _ _ _ _ _ dX9_undo_26 rfl rfl (by first | exact ⟨rfl, Or.inl ⟨by omega, by omega, rfl⟩⟩ | exact ⟨rfl, Or.inr (⟨by omega, by omega, rfl⟩)⟩)
  · skip
    refine am_bipush X (by decide) dX9_undo_10 ?_
    refine am_goto (tgt := 26) X dX9_undo_12 (by decide) ?_
    exact hret _ _ _ _ _ dX9_undo_26 rfl rfl (by first | exact ⟨rfl, Or.inl ⟨by omega, by omega, rfl⟩⟩ | exact ⟨rfl, Or.inr (⟨by omega, by omega, rfl⟩)⟩)

set_option maxHeartbeats 4000000 in
set_option maxRecDepth 100000 in
theorem m_X9_redo (σ : am_H) (hD : 0 ≤ σ 4 4 ∧ 0 ≤ σ 4 5 ∧ σ 4 4 + σ 4 5 ≤ 40) (hcv : ∀ k : Nat, (k : Int) < σ 4 4 + σ 4 5 → (σ 6 k = 0 ∧ 0 ≤ σ 5 k ∧ σ 5 k ≤ 11) ∨ (σ 6 k = 1 ∧ 0 ≤ σ 5 k ∧ σ 5 k < 8) ∨ (σ 6 k = 2 ∧ σ 5 k = 0) ∨ (σ 6 k = 3 ∧ σ 5 k = 0)) : am_Mi yX9_redo cX9_redo 1 (some .int) 2 0 0 [vr 0] SH σ (fun r sh' σ' => SH = sh' ∧ ((σ 4 5 = 0 ∧ r = -5 ∧ σ = σ') ∨ (σ 4 5 ≠ 0 ∧ r = σ 4 5 - 1 ∧ (chg_again σ (σ 4 4).toNat) = σ'))) := by
  refine am_Mi_of (by decide +kernel) (Nat.le_of_ble_eq_true rfl) (fun K X hY hI hret => ?_)
  show am_G K 0 [some (vr 0)] [] SH σ
  refine am_aload_n (x := 0) X (by rfl) dX9_redo_0 ?_
  refine am_getr (c1 := 4) X 0 fl_X9_19 (by decide) sh_0 (by decide) (by rfl) dX9_redo_1 ?_
  refine am_get (v := σ 4 5) X 4 fl_X9_280 (by decide) sh_4 (by decide) (rfl) dX9_redo_4 ?_
  refine am_if_ne (tgt := 15) X dX9_redo_7 (by decide) (fun h7 => ?_) (fun h7 => ?_)
  · skip
    refine am_aload_n (x := 0) X (by rfl) dX9_redo_15 ?_
    refine am_getr (c1 := 4) X 0 fl_X9_19 (by decide) sh_0 (by decide) (by rfl) dX9_redo_16 ?_
    refine am_aload_n (x := 0) X (by rfl) dX9_redo_19 ?_
    refine am_getr (c1 := 1) X 0 fl_X9_10 (by decide) sh_0 (by decide) (by rfl) dX9_redo_20 ?_
    refine am_callVi (ci := 1) X hY lk_X9_283 mf_X1_doAgain (m_X1_doAgain (σ 4 4).toNat σ (by omega) (by omega) (hcv _ (by omega))) (by decide) (by decide) (Nat.le_refl _) (Nat.le_refl _) sh_4 rfl rfl rfl (Nat.le_of_ble_eq_true rfl) dX9_redo_23 (fun r23 sh23 σ23 hr23 hp23 => ?_)
    obtain ⟨rfl, rfl, hq23⟩ := hp23
    exact hret _ _ _ _ _ dX9_redo_26 rfl rfl (by first | exact ⟨rfl, Or.inl ⟨by omega, by omega, rfl⟩⟩ | exact ⟨rfl, Or.inr (⟨by omega, by omega, rfl⟩)⟩)
  · skip
    refine am_bipush X (by decide) dX9_redo_10 ?_
    refine am_goto (tgt := 26) X dX9_redo_12 (by decide) ?_
    exact hret _ _ _ _ _ dX9_redo_26 rfl rfl (by first | exact ⟨rfl, Or.inl ⟨by omega, by omega, rfl⟩⟩ | exact ⟨rfl, Or.inr (⟨by omega, by omega, rfl⟩)⟩)

set_option maxHeartbeats 4000000 in
set_option maxRecDepth 100000 in
theorem m_X9_image (σ : am_H) (hz22 : ∀ j, j < 30 → σ 25 j = 0 ∨ σ 25 j = 1) (hz35 : ∀ j, j < 30 → σ 38 j = 0 ∨ σ 38 j = 1) : am_Mi yX9_image cX9_image 1 (some .int) 2 0 0 [vr 0] SH σ (fun r sh' σ' => SH = sh' ∧ (am_up (dia_copy (led_copy σ 16 29) 22 35) 0 11 1) = σ' ∧ r = σ 22 7) := by
  refine am_Mi_of (by decide +kernel) (Nat.le_of_ble_eq_true rfl) (fun K X hY hI hret => ?_)
  show am_G K 0 [some (vr 0)] [] SH σ
  refine am_aload_n (x := 0) X (by rfl) dX9_image_0 ?_
  refine am_getr (c1 := 29) X 0 fl_X9_44 (by decide) sh_0 (by decide) (by rfl) dX9_image_1 ?_
  refine am_aload_n (x := 0) X (by rfl) dX9_image_4 ?_
  refine am_getr (c1 := 16) X 0 fl_X9_33 (by decide) sh_0 (by decide) (by rfl) dX9_image_5 ?_
  refine am_callVv (ci := 4) X hY lk_X9_262 mf_X4_copyFrom (m_X4_copyFrom_16 σ) (by decide) (by decide) (Nat.le_refl _) (Nat.le_refl _) sh_29 rfl rfl rfl (Nat.le_of_ble_eq_true rfl) dX9_image_8 (fun sh8 σ8 hp8 => ?_)
  obtain ⟨rfl, rfl, hq8⟩ := hp8
  refine am_aload_n (x := 0) X (by rfl) dX9_image_11 ?_
  refine am_getr (c1 := 35) X 0 fl_X9_47 (by decide) sh_0 (by decide) (by rfl) dX9_image_12 ?_
  refine am_aload_n (x := 0) X (by rfl) dX9_image_15 ?_
  refine am_getr (c1 := 22) X 0 fl_X9_40 (by decide) sh_0 (by decide) (by rfl) dX9_image_16 ?_
  refine am_callVv (ci := 2) X hY lk_X9_266 mf_X2_copyFrom (m_X2_copyFrom_22 (led_copy σ 16 29) (fun j hj => by simp only [led_copy, am_up, am_cp]; simp; exact hz22 j hj)) (by decide) (by decide) (Nat.le_refl _) (Nat.le_refl _) sh_35 rfl rfl rfl (Nat.le_of_ble_eq_true rfl) dX9_image_19 (fun sh19 σ19 hp19 => ?_)
  obtain ⟨rfl, rfl, hq19⟩ := hp19
  refine am_aload_n (x := 0) X (by rfl) dX9_image_22 ?_
  refine am_ic X (by decide) dX9_image_23 ?_
  refine am_putz X 0 fl_X9_269 rfl rfl sh_0 (by decide) (by first | exact Or.inl rfl | exact Or.inr rfl | omega) dX9_image_24 ?_
  refine am_aload_n (x := 0) X (by rfl) dX9_image_27 ?_
  refine am_getr (c1 := 22) X 0 fl_X9_40 (by decide) sh_0 (by decide) (by rfl) dX9_image_28 ?_
  refine am_get (v := (σ 22 7)) X 22 fl_X9_175 (by decide) sh_22 (by decide) ((by simp [am_up] : (am_up (dia_copy (led_copy σ 16 29) 22 35) 0 11 1) 22 7 = (dia_copy (led_copy σ 16 29) 22 35) 22 7).trans (by simp [am_cp, am_up, dia_copy, led_copy])) dX9_image_31 ?_
  exact hret _ _ _ _ _ dX9_image_34 rfl rfl (⟨rfl, rfl, rfl⟩)

set_option maxHeartbeats 4000000 in
set_option maxRecDepth 100000 in
theorem m_X9_back (σ : am_H) (hz22 : ∀ j, j < 30 → σ 25 j = 0 ∨ σ 25 j = 1) (hz35 : ∀ j, j < 30 → σ 38 j = 0 ∨ σ 38 j = 1) (hi : 0 ≤ σ 0 11 ∧ σ 0 11 ≤ 1) : am_Mi yX9_back cX9_back 1 (some .int) 2 0 0 [vr 0] SH σ (fun r sh' σ' => SH = sh' ∧ ((σ 0 11 = 0 ∧ r = -5 ∧ σ = σ') ∨ (σ 0 11 = 1 ∧ r = σ 35 7 ∧ (dia_copy (led_copy σ 29 16) 35 22) = σ'))) := by
  refine am_Mi_of (by decide +kernel) (Nat.le_of_ble_eq_true rfl) (fun K X hY hI hret => ?_)
  show am_G K 0 [some (vr 0)] [] SH σ
  refine am_aload_n (x := 0) X (by rfl) dX9_back_0 ?_
  refine am_get (v := σ 0 11) X 0 fl_X9_269 (by decide) sh_0 (by decide) (rfl) dX9_back_1 ?_
  refine am_if_ne (tgt := 10) X dX9_back_4 (by decide) (fun h4 => ?_) (fun h4 => ?_)
  · skip
    refine am_aload_n (x := 0) X (by rfl) dX9_back_10 ?_
    refine am_getr (c1 := 16) X 0 fl_X9_33 (by decide) sh_0 (by decide) (by rfl) dX9_back_11 ?_
    refine am_aload_n (x := 0) X (by rfl) dX9_back_14 ?_
    refine am_getr (c1 := 29) X 0 fl_X9_44 (by decide) sh_0 (by decide) (by rfl) dX9_back_15 ?_
    refine am_callVv (ci := 4) X hY lk_X9_262 mf_X4_copyFrom (m_X4_copyFrom_29 σ) (by decide) (by decide) (Nat.le_refl _) (Nat.le_refl _) sh_16 rfl rfl rfl (Nat.le_of_ble_eq_true rfl) dX9_back_18 (fun sh18 σ18 hp18 => ?_)
    obtain ⟨rfl, rfl, hq18⟩ := hp18
    refine am_aload_n (x := 0) X (by rfl) dX9_back_21 ?_
    refine am_getr (c1 := 22) X 0 fl_X9_40 (by decide) sh_0 (by decide) (by rfl) dX9_back_22 ?_
    refine am_aload_n (x := 0) X (by rfl) dX9_back_25 ?_
    refine am_getr (c1 := 35) X 0 fl_X9_47 (by decide) sh_0 (by decide) (by rfl) dX9_back_26 ?_
    refine am_callVv (ci := 2) X hY lk_X9_266 mf_X2_copyFrom (m_X2_copyFrom_35 (led_copy σ 29 16) (fun j hj => by simp only [led_copy, am_up, am_cp]; simp; exact hz35 j hj)) (by decide) (by decide) (Nat.le_refl _) (Nat.le_refl _) sh_22 rfl rfl rfl (Nat.le_of_ble_eq_true rfl) dX9_back_29 (fun sh29 σ29 hp29 => ?_)
    obtain ⟨rfl, rfl, hq29⟩ := hp29
    refine am_aload_n (x := 0) X (by rfl) dX9_back_32 ?_
    refine am_getr (c1 := 22) X 0 fl_X9_40 (by decide) sh_0 (by decide) (by rfl) dX9_back_33 ?_
    refine am_get (v := (σ 35 7)) X 22 fl_X9_175 (by decide) sh_22 (by decide) (by simp [am_cp, am_up, dia_copy, led_copy]) dX9_back_36 ?_
    exact hret _ _ _ _ _ dX9_back_39 rfl rfl (by first | exact ⟨rfl, Or.inl ⟨by omega, by omega, rfl⟩⟩ | exact ⟨rfl, Or.inr (⟨by omega, by omega, rfl⟩)⟩)
  · skip
    refine am_bipush X (by decide) dX9_back_7 ?_
    exact hret _ _ _ _ _ dX9_back_9 rfl rfl (by first | exact ⟨rfl, Or.inl ⟨by omega, by omega, rfl⟩⟩ | exact ⟨rfl, Or.inr (⟨by omega, by omega, rfl⟩)⟩)

set_option maxHeartbeats 4000000 in
set_option maxRecDepth 100000 in
theorem m_X3_tapeOn (v : Int) (σ : am_H) (ht : 0 ≤ σ 9 6 ∧ σ 9 6 < 120) : am_Mi yX3_tapeOn cX3_tapeOn 2 (some .int) 0 0 0 [vr 9, vi v] SH σ (fun r sh' σ' => SH = sh' ∧ (am_up (am_up σ 10 (σ 9 6).toNat v) 9 6 (σ 9 6 + 1)) = σ' ∧ r = σ 9 6 + 1) := by
  refine am_Mi_of (by decide +kernel) (Nat.le_of_ble_eq_true rfl) (fun K X hY hI hret => ?_)
  show am_G K 0 [some (vr 9), some (vi v)] [] SH σ
  refine am_aload_n (x := 9) X (by rfl) dX3_tapeOn_0 ?_
  refine am_getr (c1 := 10) X 9 fl_X3_11 (by decide) sh_9 (by decide) (by rfl) dX3_tapeOn_1 ?_
  refine am_aload_n (x := 9) X (by rfl) dX3_tapeOn_4 ?_
  refine am_get (v := σ 9 6) X 9 fl_X3_30 (by decide) sh_9 (by decide) (rfl) dX3_tapeOn_5 ?_
  refine am_iload_n (x := v) X (by rfl) dX3_tapeOn_8 ?_
  refine am_ast X 10 (σ 9 6).toNat sh_10 (by omega) (by omega) dX3_tapeOn_9 ?_
  refine am_aload_n (x := 9) X (by rfl) dX3_tapeOn_10 ?_
  refine am_dup X (Nat.ne_of_beq_eq_false rfl) dX3_tapeOn_11 ?_
  refine am_get (v := σ 9 6) X 9 fl_X3_30 (by decide) sh_9 (by decide) (by simp [am_up]) dX3_tapeOn_12 ?_
  refine am_ic X (by decide) dX3_tapeOn_15 ?_
  refine am_add (v := (σ 9 6 + 1)) X (by first | rfl | omega) (by omega) dX3_tapeOn_16 ?_
  refine am_puti X 9 fl_X3_30 rfl rfl sh_9 (by decide) dX3_tapeOn_17 ?_
  refine am_aload_n (x := 9) X (by rfl) dX3_tapeOn_20 ?_
  refine am_get (v := (σ 9 6 + 1)) X 9 fl_X3_30 (by decide) sh_9 (by decide) (by simp [am_up]) dX3_tapeOn_21 ?_
  exact hret _ _ _ _ _ dX3_tapeOn_24 rfl rfl (⟨rfl, rfl, by omega⟩)

set_option maxHeartbeats 4000000 in
set_option maxRecDepth 100000 in
theorem m_X9_feed (a : Int) (σ : am_H) (ht : 0 ≤ σ 9 6 ∧ σ 9 6 ≤ 120) : am_Mi yX9_feed cX9_feed 2 (some .int) 1 0 0 [vr 0, vi a] SH σ (fun r sh' σ' => SH = sh' ∧ ((¬ (0 ≤ a ∧ a ≤ 255) ∧ r = -1 ∧ σ = σ') ∨ (((0 ≤ a ∧ a ≤ 255) ∧ σ 9 6 = 120) ∧ r = -3 ∧ σ = σ') ∨ (((0 ≤ a ∧ a ≤ 255) ∧ σ 9 6 < 120) ∧ r = σ 9 6 + 1 ∧ (am_up (am_up σ 10 (σ 9 6).toNat a) 9 6 (σ 9 6 + 1)) = σ'))) := by
  refine am_Mi_of (by decide +kernel) (Nat.le_of_ble_eq_true rfl) (fun K X hY hI hret => ?_)
  show am_G K 0 [some (vr 0), some (vi a)] [] SH σ
  refine am_iload_n (x := a) X (by rfl) dX9_feed_0 ?_
  refine am_ic X (by decide) dX9_feed_1 ?_
  refine am_sipush X (by decide) dX9_feed_2 ?_
  refine am_callSi X hY lk_X9_75 mf_X9_within (m_X9_within a 0 255 _ σ) (by decide) (by decide) (Nat.le_refl _) (Nat.le_refl _) rfl rfl (Nat.le_of_ble_eq_true rfl) dX9_feed_5 (fun r5 sh5 σ5 hr5 hp5 => ?_)
  obtain ⟨rfl, rfl, hq5⟩ := hp5
  refine am_if_ne (tgt := 13) X dX9_feed_8 (by decide) (fun h8 => ?_) (fun h8 => ?_)
  · skip
    refine am_aload_n (x := 0) X (by rfl) dX9_feed_13 ?_
    refine am_getr (c1 := 9) X 0 fl_X9_26 (by decide) sh_0 (by decide) (by rfl) dX9_feed_14 ?_
    refine am_get (v := σ 9 6) X 9 fl_X9_158 (by decide) sh_9 (by decide) (rfl) dX9_feed_17 ?_
    refine am_bipush X (by decide) dX9_feed_20 ?_
    refine am_icmp_lt (tgt := 28) X dX9_feed_22 (by decide) (fun h22 => ?_) (fun h22 => ?_)
    · skip
      refine am_aload_n (x := 0) X (by rfl) dX9_feed_28 ?_
      refine am_getr (c1 := 9) X 0 fl_X9_26 (by decide) sh_0 (by decide) (by rfl) dX9_feed_29 ?_
      refine am_iload_n (x := a) X (by rfl) dX9_feed_32 ?_
      refine am_callVi (ci := 3) X hY lk_X9_161 mf_X3_tapeOn (m_X3_tapeOn a σ (by omega)) (by decide) (by decide) (Nat.le_refl _) (Nat.le_refl _) sh_9 rfl rfl rfl (Nat.le_of_ble_eq_true rfl) dX9_feed_33 (fun r33 sh33 σ33 hr33 hp33 => ?_)
      obtain ⟨rfl, rfl, hq33⟩ := hp33
      exact hret _ _ _ _ _ dX9_feed_36 rfl rfl (by first | exact ⟨rfl, Or.inl ⟨by omega, by omega, rfl⟩⟩ | exact ⟨rfl, Or.inr (Or.inl ⟨by omega, by omega, rfl⟩)⟩ | exact ⟨rfl, Or.inr (Or.inr (⟨by omega, by omega, rfl⟩))⟩)
    · skip
      refine am_bipush X (by decide) dX9_feed_25 ?_
      exact hret _ _ _ _ _ dX9_feed_27 rfl rfl (by first | exact ⟨rfl, Or.inl ⟨by omega, by omega, rfl⟩⟩ | exact ⟨rfl, Or.inr (Or.inl ⟨by omega, by omega, rfl⟩)⟩ | exact ⟨rfl, Or.inr (Or.inr (⟨by omega, by omega, rfl⟩))⟩)
  · skip
    refine am_ic X (by decide) dX9_feed_11 ?_
    exact hret _ _ _ _ _ dX9_feed_12 rfl rfl (by first | exact ⟨rfl, Or.inl ⟨by omega, by omega, rfl⟩⟩ | exact ⟨rfl, Or.inr (Or.inl ⟨by omega, by omega, rfl⟩)⟩ | exact ⟨rfl, Or.inr (Or.inr (⟨by omega, by omega, rfl⟩))⟩)
